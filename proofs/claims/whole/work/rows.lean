section
-- ===== PART A: goes FIRST, ahead of the names: the tables' words, and 'selects' of the private methods out of them =====
/-- a private method of a class that the tables say can be made, by its rows of tables_1 -/
def lw_okq (q : MethodName × Nat) : Prop := (q.1.cls ≠ "java/lang/invoke/MethodHandle" ∧ q.1.cls ≠ "java/lang/invoke/VarHandle") ∧ Cond.instantiable q.1.cls q.2 ∈ tables_1 ∧ Cond.privateMethod q.1 ∈ tables_1 ∧ Cond.instanceMethod q.1 ∈ tables_1
theorem lw_p0 : lw_okq (⟨"StaffHeads", "stepsDownTo", "(I)I"⟩, 7) := ⟨⟨by decide +kernel, by decide +kernel⟩, List.mem_of_getElem? (i := 15) (by decide +kernel), List.mem_of_getElem? (i := 412) (by decide +kernel), List.mem_of_getElem? (i := 413) (by decide +kernel)⟩
theorem lw_p1 : lw_okq (⟨"StaffHeads", "isHidden", "(I)Z"⟩, 7) := ⟨⟨by decide +kernel, by decide +kernel⟩, List.mem_of_getElem? (i := 15) (by decide +kernel), List.mem_of_getElem? (i := 416) (by decide +kernel), List.mem_of_getElem? (i := 417) (by decide +kernel)⟩
theorem lw_p2 : lw_okq (⟨"StaffHeads", "shownAbove", "(I)I"⟩, 7) := ⟨⟨by decide +kernel, by decide +kernel⟩, List.mem_of_getElem? (i := 15) (by decide +kernel), List.mem_of_getElem? (i := 424) (by decide +kernel), List.mem_of_getElem? (i := 425) (by decide +kernel)⟩
theorem lw_p3 : lw_okq (⟨"StaffHeads", "gapBetween", "(II)I"⟩, 7) := ⟨⟨by decide +kernel, by decide +kernel⟩, List.mem_of_getElem? (i := 15) (by decide +kernel), List.mem_of_getElem? (i := 428) (by decide +kernel), List.mem_of_getElem? (i := 429) (by decide +kernel)⟩
theorem lw_p4 : lw_okq (⟨"StaffHeads", "shownStaves", "()I"⟩, 7) := ⟨⟨by decide +kernel, by decide +kernel⟩, List.mem_of_getElem? (i := 15) (by decide +kernel), List.mem_of_getElem? (i := 465) (by decide +kernel), List.mem_of_getElem? (i := 466) (by decide +kernel)⟩
theorem lw_p5 : lw_okq (⟨"java/lang/Throwable", "fillInStackTrace", "(I)Ljava/lang/Throwable;"⟩, 6) := ⟨⟨by decide +kernel, by decide +kernel⟩, List.mem_of_getElem? (i := 516) (by decide +kernel), List.mem_of_getElem? (i := 514) (by decide +kernel), List.mem_of_getElem? (i := 515) (by decide +kernel)⟩
theorem lw_p6 : lw_okq (⟨"StaffHeadsModel", "isNote", "(I)Z"⟩, 23) := ⟨⟨by decide +kernel, by decide +kernel⟩, List.mem_of_getElem? (i := 546) (by decide +kernel), List.mem_of_getElem? (i := 653) (by decide +kernel), List.mem_of_getElem? (i := 654) (by decide +kernel)⟩
theorem lw_p7 : lw_okq (⟨"StaffHeadsModel", "reckon", "()V"⟩, 23) := ⟨⟨by decide +kernel, by decide +kernel⟩, List.mem_of_getElem? (i := 546) (by decide +kernel), List.mem_of_getElem? (i := 661) (by decide +kernel), List.mem_of_getElem? (i := 662) (by decide +kernel)⟩
theorem lw_p8 : lw_okq (⟨"StaffHeadsModel", "reckonStep", "(I)I"⟩, 23) := ⟨⟨by decide +kernel, by decide +kernel⟩, List.mem_of_getElem? (i := 546) (by decide +kernel), List.mem_of_getElem? (i := 665) (by decide +kernel), List.mem_of_getElem? (i := 666) (by decide +kernel)⟩
theorem lw_p9 : lw_okq (⟨"StaffHeadsModel", "step", "(I)I"⟩, 23) := ⟨⟨by decide +kernel, by decide +kernel⟩, List.mem_of_getElem? (i := 546) (by decide +kernel), List.mem_of_getElem? (i := 669) (by decide +kernel), List.mem_of_getElem? (i := 670) (by decide +kernel)⟩
theorem lw_p10 : lw_okq (⟨"StaffHeadsModel", "stemOf", "(I)I"⟩, 23) := ⟨⟨by decide +kernel, by decide +kernel⟩, List.mem_of_getElem? (i := 546) (by decide +kernel), List.mem_of_getElem? (i := 673) (by decide +kernel), List.mem_of_getElem? (i := 674) (by decide +kernel)⟩
theorem lw_p11 : lw_okq (⟨"StaffHeadsModel", "stem", "(III)I"⟩, 23) := ⟨⟨by decide +kernel, by decide +kernel⟩, List.mem_of_getElem? (i := 546) (by decide +kernel), List.mem_of_getElem? (i := 677) (by decide +kernel), List.mem_of_getElem? (i := 678) (by decide +kernel)⟩
theorem lw_p12 : lw_okq (⟨"StaffHeadsModel", "many", "(III)I"⟩, 23) := ⟨⟨by decide +kernel, by decide +kernel⟩, List.mem_of_getElem? (i := 546) (by decide +kernel), List.mem_of_getElem? (i := 681) (by decide +kernel), List.mem_of_getElem? (i := 682) (by decide +kernel)⟩
theorem lw_p13 : lw_okq (⟨"StaffHeadsModel", "isIn", "(IIII)Z"⟩, 23) := ⟨⟨by decide +kernel, by decide +kernel⟩, List.mem_of_getElem? (i := 546) (by decide +kernel), List.mem_of_getElem? (i := 685) (by decide +kernel), List.mem_of_getElem? (i := 686) (by decide +kernel)⟩
theorem lw_p14 : lw_okq (⟨"StaffHeadsModel", "isAt", "(III)Z"⟩, 23) := ⟨⟨by decide +kernel, by decide +kernel⟩, List.mem_of_getElem? (i := 546) (by decide +kernel), List.mem_of_getElem? (i := 689) (by decide +kernel), List.mem_of_getElem? (i := 690) (by decide +kernel)⟩
theorem lw_p15 : lw_okq (⟨"StaffHeadsModel", "end", "(IIIZ)I"⟩, 23) := ⟨⟨by decide +kernel, by decide +kernel⟩, List.mem_of_getElem? (i := 546) (by decide +kernel), List.mem_of_getElem? (i := 693) (by decide +kernel), List.mem_of_getElem? (i := 694) (by decide +kernel)⟩
def lw_privs_1 : List (MethodName × Nat) := [(⟨"StaffHeads", "stepsDownTo", "(I)I"⟩, 7), (⟨"StaffHeads", "isHidden", "(I)Z"⟩, 7), (⟨"StaffHeads", "shownAbove", "(I)I"⟩, 7), (⟨"StaffHeads", "gapBetween", "(II)I"⟩, 7), (⟨"StaffHeads", "shownStaves", "()I"⟩, 7), (⟨"java/lang/Throwable", "fillInStackTrace", "(I)Ljava/lang/Throwable;"⟩, 6), (⟨"StaffHeadsModel", "isNote", "(I)Z"⟩, 23), (⟨"StaffHeadsModel", "reckon", "()V"⟩, 23), (⟨"StaffHeadsModel", "reckonStep", "(I)I"⟩, 23), (⟨"StaffHeadsModel", "step", "(I)I"⟩, 23), (⟨"StaffHeadsModel", "stemOf", "(I)I"⟩, 23), (⟨"StaffHeadsModel", "stem", "(III)I"⟩, 23), (⟨"StaffHeadsModel", "many", "(III)I"⟩, 23), (⟨"StaffHeadsModel", "isIn", "(IIII)Z"⟩, 23), (⟨"StaffHeadsModel", "isAt", "(III)Z"⟩, 23), (⟨"StaffHeadsModel", "end", "(IIIZ)I"⟩, 23)]
theorem lw_r1 : ∀ q ∈ lw_privs_1, lw_okq q := List.forall_mem_cons.mpr ⟨lw_p0, List.forall_mem_cons.mpr ⟨lw_p1, List.forall_mem_cons.mpr ⟨lw_p2, List.forall_mem_cons.mpr ⟨lw_p3, List.forall_mem_cons.mpr ⟨lw_p4, List.forall_mem_cons.mpr ⟨lw_p5, List.forall_mem_cons.mpr ⟨lw_p6, List.forall_mem_cons.mpr ⟨lw_p7, List.forall_mem_cons.mpr ⟨lw_p8, List.forall_mem_cons.mpr ⟨lw_p9, List.forall_mem_cons.mpr ⟨lw_p10, List.forall_mem_cons.mpr ⟨lw_p11, List.forall_mem_cons.mpr ⟨lw_p12, List.forall_mem_cons.mpr ⟨lw_p13, List.forall_mem_cons.mpr ⟨lw_p14, List.forall_mem_cons.mpr ⟨lw_p15, fun _ h => absurd h List.not_mem_nil⟩⟩⟩⟩⟩⟩⟩⟩⟩⟩⟩⟩⟩⟩⟩⟩
theorem lw_p16 : lw_okq (⟨"StaffHeadsModel", "aside", "(I)I"⟩, 23) := ⟨⟨by decide +kernel, by decide +kernel⟩, List.mem_of_getElem? (i := 546) (by decide +kernel), List.mem_of_getElem? (i := 697) (by decide +kernel), List.mem_of_getElem? (i := 698) (by decide +kernel)⟩
theorem lw_p17 : lw_okq (⟨"StaffHeadsModel", "isAhead", "(IIZ)Z"⟩, 23) := ⟨⟨by decide +kernel, by decide +kernel⟩, List.mem_of_getElem? (i := 546) (by decide +kernel), List.mem_of_getElem? (i := 701) (by decide +kernel), List.mem_of_getElem? (i := 702) (by decide +kernel)⟩
theorem lw_p18 : lw_okq (⟨"StaffHeadsModel", "move", "(II)V"⟩, 23) := ⟨⟨by decide +kernel, by decide +kernel⟩, List.mem_of_getElem? (i := 546) (by decide +kernel), List.mem_of_getElem? (i := 705) (by decide +kernel), List.mem_of_getElem? (i := 706) (by decide +kernel)⟩
theorem lw_p19 : lw_okq (⟨"StaffHeadsModel", "liesOver", "(III)Z"⟩, 23) := ⟨⟨by decide +kernel, by decide +kernel⟩, List.mem_of_getElem? (i := 546) (by decide +kernel), List.mem_of_getElem? (i := 709) (by decide +kernel), List.mem_of_getElem? (i := 710) (by decide +kernel)⟩
theorem lw_p20 : lw_okq (⟨"StaffHeadsModel", "areShared", "(II)Z"⟩, 23) := ⟨⟨by decide +kernel, by decide +kernel⟩, List.mem_of_getElem? (i := 546) (by decide +kernel), List.mem_of_getElem? (i := 713) (by decide +kernel), List.mem_of_getElem? (i := 714) (by decide +kernel)⟩
theorem lw_p21 : lw_okq (⟨"StaffHeadsModel", "placeSigns", "(II)V"⟩, 23) := ⟨⟨by decide +kernel, by decide +kernel⟩, List.mem_of_getElem? (i := 546) (by decide +kernel), List.mem_of_getElem? (i := 717) (by decide +kernel), List.mem_of_getElem? (i := 718) (by decide +kernel)⟩
theorem lw_p22 : lw_okq (⟨"StaffHeadsModel", "columnFor", "(III)I"⟩, 23) := ⟨⟨by decide +kernel, by decide +kernel⟩, List.mem_of_getElem? (i := 546) (by decide +kernel), List.mem_of_getElem? (i := 721) (by decide +kernel), List.mem_of_getElem? (i := 722) (by decide +kernel)⟩
theorem lw_p23 : lw_okq (⟨"StaffHeadsModel", "high", "(II)I"⟩, 23) := ⟨⟨by decide +kernel, by decide +kernel⟩, List.mem_of_getElem? (i := 546) (by decide +kernel), List.mem_of_getElem? (i := 729) (by decide +kernel), List.mem_of_getElem? (i := 730) (by decide +kernel)⟩
theorem lw_p24 : lw_okq (⟨"StaffHeadsModel", "low", "(II)I"⟩, 23) := ⟨⟨by decide +kernel, by decide +kernel⟩, List.mem_of_getElem? (i := 546) (by decide +kernel), List.mem_of_getElem? (i := 733) (by decide +kernel), List.mem_of_getElem? (i := 734) (by decide +kernel)⟩
theorem lw_p25 : lw_okq (⟨"StaffHeadsModel", "isHidden", "(I)Z"⟩, 23) := ⟨⟨by decide +kernel, by decide +kernel⟩, List.mem_of_getElem? (i := 546) (by decide +kernel), List.mem_of_getElem? (i := 753) (by decide +kernel), List.mem_of_getElem? (i := 754) (by decide +kernel)⟩
theorem lw_p26 : lw_okq (⟨"StaffHeadsModel", "gapAbove", "(I)I"⟩, 23) := ⟨⟨by decide +kernel, by decide +kernel⟩, List.mem_of_getElem? (i := 546) (by decide +kernel), List.mem_of_getElem? (i := 757) (by decide +kernel), List.mem_of_getElem? (i := 758) (by decide +kernel)⟩
theorem lw_p27 : lw_okq (⟨"StaffHeadsModel", "isFirstAt", "(III)Z"⟩, 23) := ⟨⟨by decide +kernel, by decide +kernel⟩, List.mem_of_getElem? (i := 546) (by decide +kernel), List.mem_of_getElem? (i := 761) (by decide +kernel), List.mem_of_getElem? (i := 762) (by decide +kernel)⟩
theorem lw_p28 : lw_okq (⟨"StaffHeadsModel", "placeOf", "(I)J"⟩, 23) := ⟨⟨by decide +kernel, by decide +kernel⟩, List.mem_of_getElem? (i := 546) (by decide +kernel), List.mem_of_getElem? (i := 771) (by decide +kernel), List.mem_of_getElem? (i := 772) (by decide +kernel)⟩
def lw_privs_2 : List (MethodName × Nat) := [(⟨"StaffHeadsModel", "aside", "(I)I"⟩, 23), (⟨"StaffHeadsModel", "isAhead", "(IIZ)Z"⟩, 23), (⟨"StaffHeadsModel", "move", "(II)V"⟩, 23), (⟨"StaffHeadsModel", "liesOver", "(III)Z"⟩, 23), (⟨"StaffHeadsModel", "areShared", "(II)Z"⟩, 23), (⟨"StaffHeadsModel", "placeSigns", "(II)V"⟩, 23), (⟨"StaffHeadsModel", "columnFor", "(III)I"⟩, 23), (⟨"StaffHeadsModel", "high", "(II)I"⟩, 23), (⟨"StaffHeadsModel", "low", "(II)I"⟩, 23), (⟨"StaffHeadsModel", "isHidden", "(I)Z"⟩, 23), (⟨"StaffHeadsModel", "gapAbove", "(I)I"⟩, 23), (⟨"StaffHeadsModel", "isFirstAt", "(III)Z"⟩, 23), (⟨"StaffHeadsModel", "placeOf", "(I)J"⟩, 23)]
theorem lw_r2 : ∀ q ∈ lw_privs_2, lw_okq q := List.forall_mem_cons.mpr ⟨lw_p16, List.forall_mem_cons.mpr ⟨lw_p17, List.forall_mem_cons.mpr ⟨lw_p18, List.forall_mem_cons.mpr ⟨lw_p19, List.forall_mem_cons.mpr ⟨lw_p20, List.forall_mem_cons.mpr ⟨lw_p21, List.forall_mem_cons.mpr ⟨lw_p22, List.forall_mem_cons.mpr ⟨lw_p23, List.forall_mem_cons.mpr ⟨lw_p24, List.forall_mem_cons.mpr ⟨lw_p25, List.forall_mem_cons.mpr ⟨lw_p26, List.forall_mem_cons.mpr ⟨lw_p27, List.forall_mem_cons.mpr ⟨lw_p28, fun _ h => absurd h List.not_mem_nil⟩⟩⟩⟩⟩⟩⟩⟩⟩⟩⟩⟩⟩
def lw_privs : List (MethodName × Nat) := lw_privs_1 ++ (lw_privs_2)
def lw_tbl : List Cond := k2_sels lw_privs ++ tables_1
theorem lw_privs_ok : ∀ q ∈ lw_privs, lw_okq q := by
  show ∀ q ∈ lw_privs_1 ++ (lw_privs_2), lw_okq q
  exact List.forall_mem_append.mpr ⟨lw_r1, lw_r2⟩
end
section
/-! ===== BEGIN words of one list among another's, by their places ===== -/
theorem goodIn_r {big : List Cond} (ws : List Cond) (ps : List Nat) (hp : ws = ps.filterMap (fun i => big[i]?)) (h : ws.all goodWord = true) : GoodIn big ws := by
  intro w hw
  have h1 := List.all_eq_true.mp h w hw
  rw [hp] at hw
  obtain ⟨i, -, hi⟩ := List.mem_filterMap.mp hw
  have hm : w ∈ big := by first | exact List.mem_of_getElem? hi | exact List.getElem?_mem hi
  exact ⟨hm, good_of_word h1⟩
theorem goodIn_app {big a b : List Cond} (ha : GoodIn big a) (hb : GoodIn big b) : GoodIn big (a ++ b) := fun w h => (List.mem_append.mp h).elim (ha w) (hb w)
theorem goodIn_ca {big a b : List Cond} {c : Cond} (ha : GoodIn big (c :: a)) (hb : GoodIn big b) : GoodIn big (c :: (a ++ b)) := fun w h => (List.mem_cons.mp h).elim (fun e => ha w (List.mem_cons.mpr (Or.inl e))) (fun h => (List.mem_append.mp h).elim (fun h => ha w (List.mem_cons.mpr (Or.inr h))) (hb w))
theorem goodIn_sub {big ws : List Cond} (hm : ∀ w ∈ ws, w ∈ big) (h : ws.all goodWord = true) : GoodIn big ws := fun w hw => ⟨hm w hw, good_of_word (List.all_eq_true.mp h w hw)⟩
/-! ===== END ===== -/

/-! ===== BEGIN exceptions that leave a method, and their catching by the caller (launches without stack traces) ===== -/
section VXA
/-! The laws vx_back, vx_callV, vx_callS, vx_callSW, vx_throw0, vx_throwS follow proofs of the library, with one case more: JvmDerived/Free/Laws.lean (Back.of_free), Shelf42/LK1.lean (callV, callS), Shelf/KitTraced.lean (throwNew0V, throwNewS). -/
/-- where a method has thrown q: the class by its name, the cell, what was written, the world -/
def vx_T (XC : String → State → State → Prop) (st : State) (q : Addr) (t : State) (mc ms : Nat) (free : Addr → Prop) : Prop :=
  ∃ (E : String) (ce : Cell) (L : List Loc), XC E st t ∧ t.heap[q]? = some ce ∧ ce.vm = .none ∧ st.vm.findClass E = some ce.cls ∧ st.WarmedH t.vm ∧ st.sameButNew ({ t with vm := st.vm } : State) L mc ms ∧ ∀ z ∈ L, free z.base
def vx_Q (Qc : Array Value → State → Outcome → State → Prop) (XC : String → State → State → Prop) (mc ms : Nat) (free : Addr → Prop) : Array Value → State → Outcome → State → Prop := fun a st o t =>
  (Qc a st o t ∧ ∃ L, FrameEnd st o t L mc ms ∧ ∀ q ∈ L, free q.base) ∨ ∃ q, o = .threw q ∧ vx_T XC st q t mc ms free
/-- a callee that returns or throws -/
def vx_Met (l : Launch) (y : MethodName) (ws : List Cond) (rm : Room) (Pc : Array Value → State → Prop) (Qc : Array Value → State → Outcome → State → Prop) (XC : String → State → State → Prop) (mc ms : Nat) (free : Addr → Prop) : Prop :=
  MetFree l y (headSpec ws rm) Pc (fun _ _ _ _ _ => True) (vx_Q Qc XC mc ms free)
def vx_Post (XC : String → State → State → Prop) (mc ms : Nat) (free : Addr → Prop) : Pt → Array Value → Addr → Pt → Prop := fun A a q B =>
  ∃ (g : JFrame) (mk : MethodId) (t : State) (L : List Loc) (E : String) (ce : Cell), B.U.heap = t.heap ∧ B.U.vm = t.vm ∧ XC E (A.U.calling g mk a) t ∧ t.heap[q]? = some ce ∧ ce.vm = .none ∧ A.U.vm.findClass E = some ce.cls ∧ B.locs = A.locs ++ L ∧ (∀ z ∈ L, free z.base) ∧ B.cells = A.cells + mc ∧ B.slots = A.slots + ms
def vx_Back (l : Launch) (R : Room) (p : Program) (e : Env) (below : List Frame) (s : State) (sargs : Array Value) (y : MethodName) (len W9 : Nat)
    (Pre : Pt → Array Value → Prop) (Post : Pt → Array Value → Option Value → Pt → Prop) (PostX : Pt → Array Value → Addr → Pt → Prop) : Prop :=
  ∀ (m : MethodId) (meth : Method) (c : Code) (A : Pt) (g : JFrame) (ig : Instr) (mk : MethodId) (a : Array Value),
    Stand p l e R s m sargs below meth c A.U A.locs A.cells A.slots → g.method = m → g.locals.size = c.maxLocals → decode c.code g.pc = .ok (ig, len) →
    2 * g.monitorRoom + (g.stack.map fun v => v.category).sum ≤ W9 → A.U.methodNamed? y = some mk → Pre A a →
    (∃ (v : Option Value) (B : Pt), Stand p l e R s m sargs below meth c B.U B.locs B.cells B.slots ∧ Post A a v B ∧
      Steps p.tables e below (doInvoke e (A.U.setTop g) [] mk a).1 (B.U.setTop { g with pc := g.pc + len, stack := v.toList ++ g.stack })) ∨
    (∃ (q : Addr) (B : Pt), Stand p l e R s m sargs below meth c B.U B.locs B.cells B.slots ∧ PostX A a q B ∧
      Steps p.tables e below (doInvoke e (A.U.setTop g) [] mk a).1 ((B.U.setTop g).pushFrame (.throwing q)))
section Payer
variable {l : Launch} {R : Room} {p : Program} {e : Env} {below : List Frame} {s : State} {sargs : Array Value} {y : MethodName} {len W9 : Nat}
theorem vx_back {ws : List Cond} {rm : Room} {Pc : Array Value → State → Prop} {Qc : Array Value → State → Outcome → State → Prop} {XC : String → State → State → Prop} {mc ms : Nat} {free : Addr → Prop} {bytes : ByteArray} {maxL : Nat} {ret : Option FieldType}
    (hM : vx_Met l y ws rm Pc Qc XC mc ms free) (hblind : FrameBlind Pc) (hrc : rm.cells = mc) (hrs : rm.slots = ms)
    (hframes : rm.frames + 1 ≤ R.frames) (hlocals : W9 + (maxL + 11) + rm.locals ≤ R.locals)
    (hws : ∀ w ∈ ws, ∀ a' U, s.WarmedH U.vm → w.before a' U = true) (hcode : Cond.code y bytes maxL ret ∈ ws) (hinit : ∀ a' U, s.WarmedH U.vm → (Cond.initialized y.cls).before a' U = true) :
    vx_Back l R p e below s sargs y len W9 (PreOf R mc ms Pc) (PostOf Qc mc ms free) (vx_Post XC mc ms free) := by
  intro m meth c A g ig mk a X hg hsize hdg hW hn hp
  have h1 : (headSpec ws rm).pre.before a A.U = true := atoms_intro fun w hw => hws w hw _ _ X.warmed
  have h2 : (Cond.code y bytes maxL ret).before a A.U = true := hws _ hcode _ _ X.warmed
  have h3 : (Cond.initialized y.cls).before a A.U = true := hinit _ _ X.warmed
  have h4 : A.cells + (headSpec ws rm).room.cells ≤ R.cells := by rw [show (headSpec ws rm).room.cells = mc from hrc]; exact hp.1
  have h5 : A.slots + (headSpec ws rm).room.slots ≤ R.slots := by rw [show (headSpec ws rm).room.slots = ms from hrs]; exact hp.2.1
  have hPc : Pc a (A.U.calling g mk a) := hblind _ _ _ _ hp.2.2
  obtain ⟨U, Ls, c0, s0⟩ := A
  dsimp only [Pt.U, Pt.locs, Pt.cells, Pt.slots] at h1 h2 h3 h4 h5 X hn hPc ⊢
  obtain ⟨methY, cY, hmY, hcY, -, hlY, -, -, -, -⟩ := Cond.code_spec hn h2
  obtain ⟨kY, hkY, -⟩ := className_of_methodNamed hn
  have hinitY : kY.init = .initialized := Cond.initialized_spec (findClass_of_methodNamed hn) hkY h3
  have h : At U g.method c below := by rw [hg]; exact X.here
  have hlocals9 : W9 + (maxL + 11) + (headSpec ws rm).room.locals ≤ R.locals := hlocals
  have happ : (headSpec ws rm).appliesLoose y e.platform (U.calling g mk a) = true :=
    Spec.appliesLoose_calling (g := g) h hdg hn hkY hinitY
      (X.room_calling (g := g) (R' := (headSpec ws rm).room) hsize hmY hcY hframes (by rw [hlY]; omega) h4 h5) h1
  obtain ⟨mid, hmid⟩ := h.above
  have hfr : (U.setTop g).frames = (.java g :: mid) ++ below := by rw [State.frames_setTop' g h.top, hmid]; rfl
  obtain ⟨o, s₂, hsteps, -, hend, hq⟩ := Steps.callFree hM p X.admits X.cas X.clock (acts := []) hfr happ hPc trivial
  have hq' : vx_Q Qc XC mc ms free a (U.calling g mk a) o s₂ := hq
  rw [State.frames_setTop' g h.top] at hend
  obtain ⟨g₀, hg0⟩ := Option.isSome_iff_exists.mp h.top
  obtain ⟨r, hr⟩ := State.topJava?_eq_some.mp hg0
  have hr' : (({ U with heap := s₂.heap, slotsUsed := s₂.slotsUsed } : State).setVm s₂.vm).frames = .java g₀ :: r := hr
  rcases hq' with ⟨hqc, L, hfe, hL⟩ | ⟨q, rfl, E, ce, L, hx, hce, hcv, hcl, hW₂, hsm, hL⟩
  · obtain ⟨⟨v, rfl⟩, hW₂, e2, q2, q3, q4, q5, q6⟩ := id hfe
    have e3 : s₂ = ({ (U.calling g mk a).setFrames s₂.frames with heap := s₂.heap, slotsUsed := s₂.slotsUsed } : State).setVm s₂.vm := by
      have : s₂ = ({ s₂ with vm := (U.calling g mk a).vm } : State).setVm s₂.vm := rfl
      rw [e2] at this
      exact this
    obtain ⟨c₂, i₂, len₂, hc₂, hd₂, hf₂⟩ := hend
    have hW' : U.WarmedH s₂.vm := hW₂
    have hcc : c₂ = c := by
      have h1 : s₂.code? g.method = U.code? g.method := by
        rw [State.code?_eq, State.code?_eq, hW'.alike.method?]
      exact Option.some.inj (hc₂.symm.trans (h1.trans h.code))
    subst hcc
    have hlen : len₂ = len := by rw [hdg] at hd₂; cases hd₂; rfl
    subst hlen
    have hs₂ : s₂ = (({ U with heap := s₂.heap, slotsUsed := s₂.slotsUsed } : State).setVm s₂.vm).setTop { g with pc := g.pc + len₂, stack := v.toList ++ g.stack } := by
      refine e3.trans ?_
      rw [hf₂, State.calling_eq h.top, State.setFrames_setFrames, State.setTop_of_frames _ hr', hr]
      rfl
    have hsame : U.sameButNew ({ U with heap := s₂.heap, slotsUsed := s₂.slotsUsed } : State) L mc ms := by
      refine ⟨?_, q2, q3, q4, q5, q6⟩
      obtain ⟨t, ht, -⟩ := State.frames_cons hr
      show ({ U with heap := s₂.heap, slotsUsed := s₂.slotsUsed } : State) = { U.setFrames U.frames with heap := s₂.heap, slotsUsed := s₂.slotsUsed }
      rw [State.setFrames_self ht]
    subst hg
    refine Or.inl ⟨v, ⟨(({ U with heap := s₂.heap, slotsUsed := s₂.slotsUsed } : State).setVm s₂.vm), Ls ++ L, c0 + mc, s0 + ms⟩,
      ⟨X.admits, X.cas, X.clock, X.frames, X.room, X.hears, X.method, X.code, (X.here.setHeapUsed s₂.heap s₂.slotsUsed).setVm hW'.alike, X.tail, State.WarmedH.trans X.warmed hW', X.limits, X.bytes, X.same.trans (hsame.setVm s.vm)⟩,
      ⟨g, mk, s₂, L, rfl, rfl, hqc, rfl, hL, rfl, rfl⟩, ?_⟩
    show Steps p.tables e below _ ((({ U with heap := s₂.heap, slotsUsed := s₂.slotsUsed } : State).setVm s₂.vm).setTop { g with pc := g.pc + len₂, stack := v.toList ++ g.stack })
    rw [← hs₂]
    exact hsteps
  · obtain ⟨e2, q2, q3, q4, q5, q6⟩ := id hsm
    have e3 : s₂ = ({ (U.calling g mk a).setFrames s₂.frames with heap := s₂.heap, slotsUsed := s₂.slotsUsed } : State).setVm s₂.vm := by
      have : s₂ = ({ s₂ with vm := (U.calling g mk a).vm } : State).setVm s₂.vm := rfl
      rw [e2] at this
      exact this
    have hf₂ : s₂.frames = .throwing q :: .java g :: U.frames.tail := hend
    have hW' : U.WarmedH s₂.vm := hW₂
    have hs₂ : s₂ = ((({ U with heap := s₂.heap, slotsUsed := s₂.slotsUsed } : State).setVm s₂.vm).setTop g).pushFrame (.throwing q) := by
      refine e3.trans ?_
      rw [hf₂, State.calling_eq h.top, State.setFrames_setFrames, State.pushFrame, State.frames_setTop _ hr', State.setTop_of_frames _ hr', State.setFrames_setFrames, hr]
      rfl
    have hsame : U.sameButNew ({ U with heap := s₂.heap, slotsUsed := s₂.slotsUsed } : State) L mc ms := by
      refine ⟨?_, q2, q3, q4, q5, q6⟩
      obtain ⟨t, ht, -⟩ := State.frames_cons hr
      show ({ U with heap := s₂.heap, slotsUsed := s₂.slotsUsed } : State) = { U.setFrames U.frames with heap := s₂.heap, slotsUsed := s₂.slotsUsed }
      rw [State.setFrames_self ht]
    subst hg
    refine Or.inr ⟨q, ⟨(({ U with heap := s₂.heap, slotsUsed := s₂.slotsUsed } : State).setVm s₂.vm), Ls ++ L, c0 + mc, s0 + ms⟩,
      ⟨X.admits, X.cas, X.clock, X.frames, X.room, X.hears, X.method, X.code, (X.here.setHeapUsed s₂.heap s₂.slotsUsed).setVm hW'.alike, X.tail, State.WarmedH.trans X.warmed hW', X.limits, X.bytes, X.same.trans (hsame.setVm s.vm)⟩,
      ⟨g, mk, s₂, L, E, ce, rfl, rfl, hx, hce, hcv, hcl, rfl, hL, rfl, rfl⟩, ?_⟩
    show Steps p.tables e below _ (((({ U with heap := s₂.heap, slotsUsed := s₂.slotsUsed } : State).setVm s₂.vm).setTop g).pushFrame (.throwing q))
    rw [← hs₂]
    exact hsteps
end Payer
section Calls
variable {p : Program} {l : Launch} {e : Env} {R : Room} {s : State} {m : MethodId} {args : Array Value} {below : List Frame} {meth : Method} {c : Code} {T : State} {locs : List Loc} {cells slots : Nat}
theorem vx_callV (X : Stand p l e R s m args below meth c T locs cells slots) (hexec : p.tables.exec = Jvm.exec) {own C : String} {index : Nat} {y : MethodName} {bytes : ByteArray} {maxL : Nat} {ret : Option FieldType}
    (hown : s.vm.findClass own = some m.cls) (hlink : (Cond.methodLink own index y).before args s = true) (hinst : (Cond.instanceMethod y).before args s = true) (hsel : (Cond.selects C y y).before args s = true)
    (hcode : (Cond.code y bytes maxL ret).before args s = true) (hy : y.cls ≠ "java/lang/invoke/MethodHandle" ∧ y.cls ≠ "java/lang/invoke/VarHandle")
    {W9 : Nat} {Pre : Pt → Array Value → Prop} {Post : Pt → Array Value → Option Value → Pt → Prop} {PostX : Pt → Array Value → Addr → Pt → Prop} (hK : vx_Back l R p e below s args y 3 W9 Pre Post PostX)
    {b : Addr} {cellB : Cell} (hcell : T.heap[b]? = some cellB) (hobj : cellB.vm.isStatics = false) (hcls : s.vm.findClass C = some cellB.cls)
    {g : JFrame} (hg : g.method = m) (hsize : g.locals.size = c.maxLocals) {argsL rest : List Value} (hlen : ∀ sig, parseMethodDescriptor y.desc = some sig → argsL.length = sig.parameters.length)
    (hstack : g.stack = argsL.reverse ++ .ref b :: rest) (hW : 2 * g.monitorRoom + (rest.map fun v => v.category).sum ≤ W9) (hdg : decode c.code g.pc = .ok (.invokevirtual index, 3))
    (hpre : ∀ vm₁, s.WarmedH vm₁ → Pre ⟨T.setVm vm₁, locs, cells, slots⟩ (Value.ref b :: argsL).toArray) :
    (∃ (v : Option Value) (vm₁ : Vm) (B : Pt), s.WarmedH vm₁ ∧ Stand p l e R s m args below meth c B.U B.locs B.cells B.slots ∧ Post ⟨T.setVm vm₁, locs, cells, slots⟩ (Value.ref b :: argsL).toArray v B ∧
      ∀ target, Steps p.tables e below (B.U.setTop { g with pc := g.pc + 3, stack := v.toList ++ rest }) target → Steps p.tables e below (T.setTop g) target) ∨
    (∃ (q : Addr) (vm₁ : Vm) (B : Pt), s.WarmedH vm₁ ∧ Stand p l e R s m args below meth c B.U B.locs B.cells B.slots ∧ PostX ⟨T.setVm vm₁, locs, cells, slots⟩ (Value.ref b :: argsL).toArray q B ∧
      Steps p.tables e below (T.setTop g) ((B.U.setTop { g with stack := rest }).pushFrame (.throwing q))) := by
  obtain ⟨mk, methM, hnamed, hmethM, hstM, habM⟩ := Cond.instanceMethod_spec hinst
  obtain ⟨methM', cM, hmethM', -, -, -, -, -, -, hsigM⟩ := Cond.code_spec hnamed hcode
  cases hmethM.symm.trans hmethM'
  obtain ⟨c2, r2, m2, q1, q2, q3, q4, kP, hkP, hkPi⟩ := Cond.selects_spec hsel
  cases hcls.symm.trans q1
  cases (State.methodFound?_of_named hnamed hy).symm.trans q2
  cases hnamed.symm.trans q3
  have hselP : selectMethod e.platform s.vm cellB.cls mk = .method mk := by rw [Launch.admits_selectMethod X.admits]; exact q4
  obtain ⟨vm₁, X₁, hstep₁⟩ := X.invokevirtual hexec hown hlink hnamed hmethM hstM hkP hkPi hy (a := b) (cell := cellB) hcell
    (fun z h => by rw [h] at hobj; cases hobj) hselP hmethM habM hkP hkPi (g := g) hg (argsL := argsL) (rest := rest) (hlen _ hsigM) hstack hdg
  rcases hK m meth c ⟨T.setVm vm₁, locs, cells, slots⟩ { g with stack := rest } (.invokevirtual index) mk (Value.ref b :: argsL).toArray X₁ hg hsize hdg hW (X₁.named hnamed) (hpre vm₁ X₁.warmed) with ⟨v, B, X', hpost, hsteps⟩ | ⟨q, B, X', hpost, hsteps⟩
  · exact Or.inl ⟨v, vm₁, B, X₁.warmed, X', hpost, fun target h => hstep₁ _ fun acts => by rw [doInvoke_state]; exact hsteps.trans h⟩
  · exact Or.inr ⟨q, vm₁, B, X₁.warmed, X', hpost, hstep₁ _ fun acts => by rw [doInvoke_state]; exact hsteps⟩
theorem vx_callS (X : Stand p l e R s m args below meth c T locs cells slots) (hexec : p.tables.exec = Jvm.exec) {own : String} {index : Nat} {y : MethodName} {bytes : ByteArray} {maxL : Nat} {ret : Option FieldType}
    (hown : s.vm.findClass own = some m.cls) (hlink : (Cond.methodLink own index y).before args s = true) (hstat : (Cond.static y).before args s = true) (hinit : (Cond.initialized y.cls).before args s = true)
    (hcode : (Cond.code y bytes maxL ret).before args s = true) (hy : y.cls ≠ "java/lang/invoke/MethodHandle" ∧ y.cls ≠ "java/lang/invoke/VarHandle")
    {W9 : Nat} {Pre : Pt → Array Value → Prop} {Post : Pt → Array Value → Option Value → Pt → Prop} {PostX : Pt → Array Value → Addr → Pt → Prop} (hK : vx_Back l R p e below s args y 3 W9 Pre Post PostX)
    {g : JFrame} (hg : g.method = m) (hsize : g.locals.size = c.maxLocals) {argsL rest : List Value} (hlen : ∀ sig, parseMethodDescriptor y.desc = some sig → argsL.length = sig.parameters.length)
    (hstack : g.stack = argsL.reverse ++ rest) (hW : 2 * g.monitorRoom + (rest.map fun v => v.category).sum ≤ W9) (hdg : decode c.code g.pc = .ok (.invokestatic index, 3))
    (hpre : ∀ vm₁, s.WarmedH vm₁ → Pre ⟨T.setVm vm₁, locs, cells, slots⟩ argsL.toArray) :
    (∃ (v : Option Value) (vm₁ : Vm) (B : Pt), s.WarmedH vm₁ ∧ Stand p l e R s m args below meth c B.U B.locs B.cells B.slots ∧ Post ⟨T.setVm vm₁, locs, cells, slots⟩ argsL.toArray v B ∧
      ∀ target, Steps p.tables e below (B.U.setTop { g with pc := g.pc + 3, stack := v.toList ++ rest }) target → Steps p.tables e below (T.setTop g) target) ∨
    (∃ (q : Addr) (vm₁ : Vm) (B : Pt), s.WarmedH vm₁ ∧ Stand p l e R s m args below meth c B.U B.locs B.cells B.slots ∧ PostX ⟨T.setVm vm₁, locs, cells, slots⟩ argsL.toArray q B ∧
      Steps p.tables e below (T.setTop g) ((B.U.setTop { g with stack := rest }).pushFrame (.throwing q))) := by
  obtain ⟨mk, hnamed⟩ := Cond.code_named hcode
  obtain ⟨methM, cM, hmethM, -, -, -, -, -, -, hsigM⟩ := Cond.code_spec hnamed hcode
  have hstatic : methM.isStatic = true := Cond.static_spec hnamed hmethM hstat
  obtain ⟨kP, hkP, -⟩ := className_of_methodNamed hnamed
  have hinitP : kP.init = .initialized := Cond.initialized_spec (findClass_of_methodNamed hnamed) hkP hinit
  obtain ⟨vm₁, X₁, hstep₁⟩ := X.invokestatic hexec hown hlink hnamed hmethM hstatic hkP hinitP hy (g := g) hg (argsL := argsL) (rest := rest) (hlen _ hsigM) hstack hdg
  rcases hK m meth c ⟨T.setVm vm₁, locs, cells, slots⟩ { g with stack := rest } (.invokestatic index) mk argsL.toArray X₁ hg hsize hdg hW (X₁.named hnamed) (hpre vm₁ X₁.warmed) with ⟨v, B, X', hpost, hsteps⟩ | ⟨q, B, X', hpost, hsteps⟩
  · exact Or.inl ⟨v, vm₁, B, X₁.warmed, X', hpost, fun target h => hstep₁ _ fun acts => by rw [doInvoke_state]; exact hsteps.trans h⟩
  · exact Or.inr ⟨q, vm₁, B, X₁.warmed, X', hpost, hstep₁ _ fun acts => by rw [doInvoke_state]; exact hsteps⟩
end Calls
theorem vx_cls {s : State} {T : State} {vm₁ : Vm} {E : String} {k : ClassId} (hW : s.WarmedH vm₁) (h : (T.setVm vm₁).vm.findClass E = some k) : s.vm.findClass E = some k := by
  have h1 : vm₁.findClass E = some k := h
  rw [hW.alike.findClass] at h1
  exact h1
/-- the method's frame g, with q thrown over it -/
def vx_W (p : Program) (l : Launch) (e : Env) (R : Room) (s : State) (m : MethodId) (args : Array Value) (below : List Frame) (meth : Method) (c : Code) (H : Heap) (locs : List Loc) (cells slots : Nat) (Q : State → Prop) (g : JFrame) (q : Addr) : Prop :=
  ∀ T : State, T.heap = H → Stand p l e R s m args below meth c T locs cells slots → ∃ t, Steps p.tables e below ((T.setTop g).pushFrame (.throwing q)) t ∧ Q t
def vx_Run (p : Program) (l : Launch) (e : Env) (R : Room) (s : State) (m : MethodId) (args : Array Value) (below : List Frame) (meth : Method) (c : Code) (H : Heap) (locs : List Loc) (cells slots mc ms : Nat) (g : JFrame) (rest : List Value) (Qa : State → Outcome → State → Prop) (XC : String → State → State → Prop) (free : Addr → Prop) : Prop :=
  ∀ T : State, T.heap = H → Stand p l e R s m args below meth c T locs cells slots →
    (∃ (v : Option Value) (st₀ t T' : State) (L : List Loc), st₀.heap = H ∧ Stand p l e R s m args below meth c T' (locs ++ L) (cells + mc) (slots + ms) ∧ (∀ q ∈ L, free q.base) ∧ T'.heap = t.heap ∧ T'.vm = t.vm ∧ Qa st₀ (.returned v) t ∧
      Goes p e below T g T' { g with pc := g.pc + 3, stack := v.toList ++ rest }) ∨
    (∃ (q : Addr) (st₀ t T' : State) (L : List Loc) (E : String) (ce : Cell), st₀.heap = H ∧ Stand p l e R s m args below meth c T' (locs ++ L) (cells + mc) (slots + ms) ∧ (∀ z ∈ L, free z.base) ∧ T'.heap = t.heap ∧ T'.vm = t.vm ∧ XC E st₀ t ∧ t.heap[q]? = some ce ∧ ce.vm = .none ∧ s.vm.findClass E = some ce.cls ∧
      Steps p.tables e below (T.setTop g) ((T'.setTop { g with stack := rest }).pushFrame (.throwing q)))
def vx_X {S : Type} (px : S → Prop) (B : String → S → State → Prop) (A : Nat → Prop) : String → State → State → Prop := fun E st t => ∃ u : S, px u ∧ B E u t ∧ va_F A st t
section Runs
variable {p : Program} {l : Launch} {e : Env} {R : Room} {s : State} {m : MethodId} {args : Array Value} {below : List Frame} {meth : Method} {c : Code} {H : Heap} {locs : List Loc} {cells slots : Nat}
variable {y : MethodName} {bytes cc : ByteArray} {maxL nL mc ms n index : Nat} {ret : Option FieldType} {ws : List Cond} {rm : Room} {Pc : Array Value → State → Prop} {Qc : Array Value → State → Outcome → State → Prop} {XC : String → State → State → Prop} {free : Addr → Prop} {Ts : List Cond} {own C : String} {b : Addr} {As rest : List Value} {g : JFrame}
theorem vx_callBack (cb : CallB R s args own index y bytes maxL ret ws rm mc ms n) (hM : vx_Met l y ws rm Pc Qc XC mc ms free) (hbl : FrameBlind Pc) : vx_Back l R p e below s args y 3 8 (PreOf R mc ms Pc) (PostOf Qc mc ms free) (vx_Post XC mc ms free) := by
  obtain ⟨hrc, hrs, hfr, hlo, hws, hcw, -, hini, -⟩ := cb
  exact vx_back (bytes := bytes) (maxL := maxL) (ret := ret) hM hbl hrc hrs hfr hlo hws hcw (fun a' U hW => word_at hW (Or.inl (by first | rfl | simp [Cond.onTables, Cond.keeps, Cond.steady])) hini)
theorem vx_runV (S : CallFix p m c cc nL s args Ts own) (hM : vx_Met l y ws rm Pc Qc XC mc ms free) (cw : CallW R s args own C index y bytes maxL ret ws rm mc ms n) (hp : PreV s H C b Pc As)
    (hg : g.method = m) (hn : As.length = n) (hsize : g.locals.size = nL) (hstack : g.stack = As.reverse ++ .ref b :: rest) (hW : 2 * g.monitorRoom + (rest.map fun v => v.category).sum ≤ 8) (hdg : decode cc g.pc = .ok (.invokevirtual index, 3)) (hf : cells + mc ≤ R.cells ∧ slots + ms ≤ R.slots) :
    vx_Run p l e R s m args below meth c H locs cells slots mc ms g rest (Qc (Value.ref b :: As).toArray) XC free := by
  have hK : vx_Back l R p e below s args y 3 8 (PreOf R mc ms Pc) (PostOf Qc mc ms free) (vx_Post XC mc ms free) := vx_callBack cw.1 hM hp.1
  obtain ⟨⟨-, -, -, -, -, -, hcode, -, hy, hlen, hl⟩, hin, hse⟩ := cw
  obtain ⟨hx, hb, hml, ho, -⟩ := S
  obtain ⟨-, ⟨cellB, hcB, hoB, hclB⟩, hPc⟩ := hp
  intro T hT X
  rcases vx_callV X hx (C := C) (bytes := bytes) (maxL := maxL) (ret := ret) ho hl hin hse hcode hy hK (by rw [hT]; exact hcB) hoB hclB hg (hsize.trans hml.symm) (argsL := As) (rest := rest) (fun sig h => hn.trans (hlen sig h)) hstack hW (by rw [hb]; exact hdg)
    (fun vm₁ hW₁ => ⟨hf.1, hf.2, hPc (T.setVm vm₁) hT hW₁⟩) with ⟨v, vm₁, ⟨U', l2, c2, s2⟩, hW₁, X', ⟨g', mk, t, L, e1, e2, hq, h1, hL, h2, h3⟩, st⟩ | ⟨q, vm₁, ⟨U', l2, c2, s2⟩, hW₁, X', ⟨g', mk, t, L, E, ce, e1, e2, hq, hce, hcv, hcl, h1, hL, h2, h3⟩, st⟩
  · dsimp only [Pt.U, Pt.locs, Pt.cells, Pt.slots] at X' e1 e2 h1 h2 h3 st
    subst h1; subst h2; subst h3
    exact Or.inl ⟨v, (T.setVm vm₁).calling g' mk (Value.ref b :: As).toArray, t, U', L, hT, X', hL, e1, e2, hq, st⟩
  · dsimp only [Pt.U, Pt.locs, Pt.cells, Pt.slots] at X' e1 e2 h1 h2 h3 st hcl
    subst h1; subst h2; subst h3
    exact Or.inr ⟨q, (T.setVm vm₁).calling g' mk (Value.ref b :: As).toArray, t, U', L, E, ce, hT, X', hL, e1, e2, hq, hce, hcv, vx_cls hW₁ hcl, st⟩
theorem vx_runS (S : CallFix p m c cc nL s args Ts own) (hM : vx_Met l y ws rm Pc Qc XC mc ms free) (cw : CallB R s args own index y bytes maxL ret ws rm mc ms n ∧ (Cond.static y).before args s = true) (hp : PreS s H Pc As)
    (hg : g.method = m) (hn : As.length = n) (hsize : g.locals.size = nL) (hstack : g.stack = As.reverse ++ rest) (hW : 2 * g.monitorRoom + (rest.map fun v => v.category).sum ≤ 8) (hdg : decode cc g.pc = .ok (.invokestatic index, 3)) (hf : cells + mc ≤ R.cells ∧ slots + ms ≤ R.slots) :
    vx_Run p l e R s m args below meth c H locs cells slots mc ms g rest (Qc As.toArray) XC free := by
  have hK : vx_Back l R p e below s args y 3 8 (PreOf R mc ms Pc) (PostOf Qc mc ms free) (vx_Post XC mc ms free) := vx_callBack cw.1 hM hp.1
  obtain ⟨⟨-, -, -, -, -, -, hcode, hini, hy, hlen, hl⟩, hstt⟩ := cw
  obtain ⟨hx, hb, hml, ho, -⟩ := S
  intro T hT X
  rcases vx_callS X hx (bytes := bytes) (maxL := maxL) (ret := ret) ho hl hstt hini hcode hy hK hg (hsize.trans hml.symm) (argsL := As) (rest := rest) (fun sig h => hn.trans (hlen sig h)) hstack hW (by rw [hb]; exact hdg)
    (fun vm₁ hW₁ => ⟨hf.1, hf.2, hp.2 (T.setVm vm₁) hT hW₁⟩) with ⟨v, vm₁, ⟨U', l2, c2, s2⟩, hW₁, X', ⟨g', mk, t, L, e1, e2, hq, h1, hL, h2, h3⟩, st⟩ | ⟨q, vm₁, ⟨U', l2, c2, s2⟩, hW₁, X', ⟨g', mk, t, L, E, ce, e1, e2, hq, hce, hcv, hcl, h1, hL, h2, h3⟩, st⟩
  · dsimp only [Pt.U, Pt.locs, Pt.cells, Pt.slots] at X' e1 e2 h1 h2 h3 st
    subst h1; subst h2; subst h3
    exact Or.inl ⟨v, (T.setVm vm₁).calling g' mk As.toArray, t, U', L, hT, X', hL, e1, e2, hq, st⟩
  · dsimp only [Pt.U, Pt.locs, Pt.cells, Pt.slots] at X' e1 e2 h1 h2 h3 st hcl
    subst h1; subst h2; subst h3
    exact Or.inr ⟨q, (T.setVm vm₁).calling g' mk As.toArray, t, U', L, E, ce, hT, X', hL, e1, e2, hq, hce, hcv, vx_cls hW₁ hcl, st⟩
end Runs
section Rows
variable {p : Program} {l : Launch} {e : Env} {R : Room} {s : State} {m : MethodId} {args : Array Value} {below : List Frame} {meth : Method} {c : Code} {H : Heap} {locs : List Loc} {cells slots : Nat} {Q : State → Prop}
variable {mc ms : Nat} {free : Addr → Prop} {A0 A1 : Nat → Prop} {H0 : Heap} {a : Array Value} {pc : Nat} {ls : Array Slot} {st0 rest : List Value}
theorem vx_keep {st₀ t T' : State} {L : List Loc} (h0 : st₀.heap = H) (e1 : T'.heap = t.heap) (hS : va_S A0 H0 H locs) (hA : ∀ q, q < H.size → A1 q → A0 q) (hf : ∀ q, free q → A0 q) (hL : ∀ q ∈ L, free q.base) (hF : va_F A1 st₀ t) :
    H.size ≤ T'.heap.size ∧ (∀ q : Nat, q < H.size → ¬ A1 q → T'.heap[q]? = H[q]?) ∧ va_S A0 H0 T'.heap (locs ++ L) := by
  obtain ⟨hz, hk⟩ := hF
  rw [h0] at hz hk
  exact ⟨by rw [e1]; exact hz, fun q h1 h2 => by rw [e1]; exact hk q h1 h2,
    ⟨Nat.le_trans hS.1 (by rw [e1]; exact hz), fun q h1 h2 => by rw [e1, hk q (Nat.lt_of_lt_of_le h1 hS.1) (fun z => h2 (hA q (Nat.lt_of_lt_of_le h1 hS.1) z))]; exact hS.2.1 q h1 h2, fun q hq => by
      rcases List.mem_append.mp hq with h | h
      · exact hS.2.2 q h
      · exact hf _ (hL q h)⟩⟩
theorem vx_calli {S SX : Type} {post : Int32 → S → Prop} {px : SX → Prop} {B : S → State → Prop} {BX : String → SX → State → Prop} {AX : Nat → Prop} (hr : vx_Run p l e R s m args below meth c H locs cells slots mc ms (F0 m pc ls st0) rest (va_Qi post B A1 a) (vx_X px BX AX) free) (hS : va_S A0 H0 H locs) (hA : ∀ q, q < H.size → A1 q → A0 q) (hf : ∀ q, free q → A0 q) (hAX : ∀ q, q < H.size → AX q → A0 q)
    (kx : ∀ (E : String) (ce : Cell) (q9 : Addr) (u : SX) (t : State) (H1 : Heap) (locs1 : List Loc), t.heap = H1 → s.vm.Alike t.vm → px u → BX E u t → H.size ≤ H1.size → (∀ q : Nat, q < H.size → ¬ AX q → H1[q]? = H[q]?) → va_S A0 H0 H1 locs1 → H1[q9]? = some ce → ce.vm = .none → s.vm.findClass E = some ce.cls → vx_W p l e R s m args below meth c H1 locs1 (cells + mc) (slots + ms) Q (F0 m pc ls rest) q9)
    (kk : ∀ (r : Int32) (u : S) (t : State) (H1 : Heap) (locs1 : List Loc), t.heap = H1 → s.vm.Alike t.vm → post r u → B u t → H.size ≤ H1.size → (∀ q : Nat, q < H.size → ¬ A1 q → H1[q]? = H[q]?) → va_S A0 H0 H1 locs1 → W p l e R s m args below meth c H1 locs1 (cells + mc) (slots + ms) Q (F0 m (pc + 3) ls (.int r :: rest))) : W p l e R s m args below meth c H locs cells slots Q (F0 m pc ls st0) := by
  intro T hT X
  rcases hr T hT X with ⟨v, st₀, t, T', L, h0, X', hL, e1, e2, ⟨⟨r, u, hv, hp, hb⟩, hF⟩, st⟩ | ⟨q, st₀, t, T', L, E, ce, h0, X', hL, e1, e2, ⟨u, hp, hb, hF⟩, hce, hcv, hcl, st⟩
  · cases hv
    obtain ⟨k1, k2, k3⟩ := vx_keep h0 e1 hS hA hf hL hF
    obtain ⟨t2, a1, b1⟩ := kk r u t T'.heap (locs ++ L) e1.symm (by rw [← e2]; exact X'.warmed.alike) hp hb k1 k2 k3 T' rfl X'
    exact ⟨t2, st t2 a1, b1⟩
  · obtain ⟨k1, k2, k3⟩ := vx_keep h0 e1 hS hAX hf hL hF
    obtain ⟨t2, a1, b1⟩ := kx E ce q u t T'.heap (locs ++ L) e1.symm (by rw [← e2]; exact X'.warmed.alike) hp hb k1 k2 k3 (by rw [e1]; exact hce) hcv hcl T' rfl X'
    exact ⟨t2, st.trans a1, b1⟩
theorem vx_calll {S SX : Type} {post : Int64 → S → Prop} {px : SX → Prop} {B : S → State → Prop} {BX : String → SX → State → Prop} {AX : Nat → Prop} (hr : vx_Run p l e R s m args below meth c H locs cells slots mc ms (F0 m pc ls st0) rest (va_Ql post B A1 a) (vx_X px BX AX) free) (hS : va_S A0 H0 H locs) (hA : ∀ q, q < H.size → A1 q → A0 q) (hf : ∀ q, free q → A0 q) (hAX : ∀ q, q < H.size → AX q → A0 q)
    (kx : ∀ (E : String) (ce : Cell) (q9 : Addr) (u : SX) (t : State) (H1 : Heap) (locs1 : List Loc), t.heap = H1 → s.vm.Alike t.vm → px u → BX E u t → H.size ≤ H1.size → (∀ q : Nat, q < H.size → ¬ AX q → H1[q]? = H[q]?) → va_S A0 H0 H1 locs1 → H1[q9]? = some ce → ce.vm = .none → s.vm.findClass E = some ce.cls → vx_W p l e R s m args below meth c H1 locs1 (cells + mc) (slots + ms) Q (F0 m pc ls rest) q9)
    (kk : ∀ (r : Int64) (u : S) (t : State) (H1 : Heap) (locs1 : List Loc), t.heap = H1 → s.vm.Alike t.vm → post r u → B u t → H.size ≤ H1.size → (∀ q : Nat, q < H.size → ¬ A1 q → H1[q]? = H[q]?) → va_S A0 H0 H1 locs1 → W p l e R s m args below meth c H1 locs1 (cells + mc) (slots + ms) Q (F0 m (pc + 3) ls (.long r :: rest))) : W p l e R s m args below meth c H locs cells slots Q (F0 m pc ls st0) := by
  intro T hT X
  rcases hr T hT X with ⟨v, st₀, t, T', L, h0, X', hL, e1, e2, ⟨⟨r, u, hv, hp, hb⟩, hF⟩, st⟩ | ⟨q, st₀, t, T', L, E, ce, h0, X', hL, e1, e2, ⟨u, hp, hb, hF⟩, hce, hcv, hcl, st⟩
  · cases hv
    obtain ⟨k1, k2, k3⟩ := vx_keep h0 e1 hS hA hf hL hF
    obtain ⟨t2, a1, b1⟩ := kk r u t T'.heap (locs ++ L) e1.symm (by rw [← e2]; exact X'.warmed.alike) hp hb k1 k2 k3 T' rfl X'
    exact ⟨t2, st t2 a1, b1⟩
  · obtain ⟨k1, k2, k3⟩ := vx_keep h0 e1 hS hAX hf hL hF
    obtain ⟨t2, a1, b1⟩ := kx E ce q u t T'.heap (locs ++ L) e1.symm (by rw [← e2]; exact X'.warmed.alike) hp hb k1 k2 k3 (by rw [e1]; exact hce) hcv hcl T' rfl X'
    exact ⟨t2, st.trans a1, b1⟩
theorem vx_callf {S SX : Type} {post : UInt32 → S → Prop} {px : SX → Prop} {B : S → State → Prop} {BX : String → SX → State → Prop} {AX : Nat → Prop} (hr : vx_Run p l e R s m args below meth c H locs cells slots mc ms (F0 m pc ls st0) rest (va_Qf post B A1 a) (vx_X px BX AX) free) (hS : va_S A0 H0 H locs) (hA : ∀ q, q < H.size → A1 q → A0 q) (hf : ∀ q, free q → A0 q) (hAX : ∀ q, q < H.size → AX q → A0 q)
    (kx : ∀ (E : String) (ce : Cell) (q9 : Addr) (u : SX) (t : State) (H1 : Heap) (locs1 : List Loc), t.heap = H1 → s.vm.Alike t.vm → px u → BX E u t → H.size ≤ H1.size → (∀ q : Nat, q < H.size → ¬ AX q → H1[q]? = H[q]?) → va_S A0 H0 H1 locs1 → H1[q9]? = some ce → ce.vm = .none → s.vm.findClass E = some ce.cls → vx_W p l e R s m args below meth c H1 locs1 (cells + mc) (slots + ms) Q (F0 m pc ls rest) q9)
    (kk : ∀ (r : UInt32) (u : S) (t : State) (H1 : Heap) (locs1 : List Loc), t.heap = H1 → s.vm.Alike t.vm → post r u → B u t → H.size ≤ H1.size → (∀ q : Nat, q < H.size → ¬ A1 q → H1[q]? = H[q]?) → va_S A0 H0 H1 locs1 → W p l e R s m args below meth c H1 locs1 (cells + mc) (slots + ms) Q (F0 m (pc + 3) ls (.float r :: rest))) : W p l e R s m args below meth c H locs cells slots Q (F0 m pc ls st0) := by
  intro T hT X
  rcases hr T hT X with ⟨v, st₀, t, T', L, h0, X', hL, e1, e2, ⟨⟨r, u, hv, hp, hb⟩, hF⟩, st⟩ | ⟨q, st₀, t, T', L, E, ce, h0, X', hL, e1, e2, ⟨u, hp, hb, hF⟩, hce, hcv, hcl, st⟩
  · cases hv
    obtain ⟨k1, k2, k3⟩ := vx_keep h0 e1 hS hA hf hL hF
    obtain ⟨t2, a1, b1⟩ := kk r u t T'.heap (locs ++ L) e1.symm (by rw [← e2]; exact X'.warmed.alike) hp hb k1 k2 k3 T' rfl X'
    exact ⟨t2, st t2 a1, b1⟩
  · obtain ⟨k1, k2, k3⟩ := vx_keep h0 e1 hS hAX hf hL hF
    obtain ⟨t2, a1, b1⟩ := kx E ce q u t T'.heap (locs ++ L) e1.symm (by rw [← e2]; exact X'.warmed.alike) hp hb k1 k2 k3 (by rw [e1]; exact hce) hcv hcl T' rfl X'
    exact ⟨t2, st.trans a1, b1⟩
theorem vx_calld {S SX : Type} {post : UInt64 → S → Prop} {px : SX → Prop} {B : S → State → Prop} {BX : String → SX → State → Prop} {AX : Nat → Prop} (hr : vx_Run p l e R s m args below meth c H locs cells slots mc ms (F0 m pc ls st0) rest (va_Qd post B A1 a) (vx_X px BX AX) free) (hS : va_S A0 H0 H locs) (hA : ∀ q, q < H.size → A1 q → A0 q) (hf : ∀ q, free q → A0 q) (hAX : ∀ q, q < H.size → AX q → A0 q)
    (kx : ∀ (E : String) (ce : Cell) (q9 : Addr) (u : SX) (t : State) (H1 : Heap) (locs1 : List Loc), t.heap = H1 → s.vm.Alike t.vm → px u → BX E u t → H.size ≤ H1.size → (∀ q : Nat, q < H.size → ¬ AX q → H1[q]? = H[q]?) → va_S A0 H0 H1 locs1 → H1[q9]? = some ce → ce.vm = .none → s.vm.findClass E = some ce.cls → vx_W p l e R s m args below meth c H1 locs1 (cells + mc) (slots + ms) Q (F0 m pc ls rest) q9)
    (kk : ∀ (r : UInt64) (u : S) (t : State) (H1 : Heap) (locs1 : List Loc), t.heap = H1 → s.vm.Alike t.vm → post r u → B u t → H.size ≤ H1.size → (∀ q : Nat, q < H.size → ¬ A1 q → H1[q]? = H[q]?) → va_S A0 H0 H1 locs1 → W p l e R s m args below meth c H1 locs1 (cells + mc) (slots + ms) Q (F0 m (pc + 3) ls (.double r :: rest))) : W p l e R s m args below meth c H locs cells slots Q (F0 m pc ls st0) := by
  intro T hT X
  rcases hr T hT X with ⟨v, st₀, t, T', L, h0, X', hL, e1, e2, ⟨⟨r, u, hv, hp, hb⟩, hF⟩, st⟩ | ⟨q, st₀, t, T', L, E, ce, h0, X', hL, e1, e2, ⟨u, hp, hb, hF⟩, hce, hcv, hcl, st⟩
  · cases hv
    obtain ⟨k1, k2, k3⟩ := vx_keep h0 e1 hS hA hf hL hF
    obtain ⟨t2, a1, b1⟩ := kk r u t T'.heap (locs ++ L) e1.symm (by rw [← e2]; exact X'.warmed.alike) hp hb k1 k2 k3 T' rfl X'
    exact ⟨t2, st t2 a1, b1⟩
  · obtain ⟨k1, k2, k3⟩ := vx_keep h0 e1 hS hAX hf hL hF
    obtain ⟨t2, a1, b1⟩ := kx E ce q u t T'.heap (locs ++ L) e1.symm (by rw [← e2]; exact X'.warmed.alike) hp hb k1 k2 k3 (by rw [e1]; exact hce) hcv hcl T' rfl X'
    exact ⟨t2, st.trans a1, b1⟩
theorem vx_callv {S SX : Type} {post : S → Prop} {px : SX → Prop} {B : S → State → Prop} {BX : String → SX → State → Prop} {AX : Nat → Prop} (hr : vx_Run p l e R s m args below meth c H locs cells slots mc ms (F0 m pc ls st0) rest (va_Qv post B A1 a) (vx_X px BX AX) free) (hS : va_S A0 H0 H locs) (hA : ∀ q, q < H.size → A1 q → A0 q) (hf : ∀ q, free q → A0 q) (hAX : ∀ q, q < H.size → AX q → A0 q)
    (kx : ∀ (E : String) (ce : Cell) (q9 : Addr) (u : SX) (t : State) (H1 : Heap) (locs1 : List Loc), t.heap = H1 → s.vm.Alike t.vm → px u → BX E u t → H.size ≤ H1.size → (∀ q : Nat, q < H.size → ¬ AX q → H1[q]? = H[q]?) → va_S A0 H0 H1 locs1 → H1[q9]? = some ce → ce.vm = .none → s.vm.findClass E = some ce.cls → vx_W p l e R s m args below meth c H1 locs1 (cells + mc) (slots + ms) Q (F0 m pc ls rest) q9)
    (kk : ∀ (u : S) (t : State) (H1 : Heap) (locs1 : List Loc), t.heap = H1 → s.vm.Alike t.vm → post u → B u t → H.size ≤ H1.size → (∀ q : Nat, q < H.size → ¬ A1 q → H1[q]? = H[q]?) → va_S A0 H0 H1 locs1 → W p l e R s m args below meth c H1 locs1 (cells + mc) (slots + ms) Q (F0 m (pc + 3) ls (rest))) : W p l e R s m args below meth c H locs cells slots Q (F0 m pc ls st0) := by
  intro T hT X
  rcases hr T hT X with ⟨v, st₀, t, T', L, h0, X', hL, e1, e2, ⟨⟨u, hv, hp, hb⟩, hF⟩, st⟩ | ⟨q, st₀, t, T', L, E, ce, h0, X', hL, e1, e2, ⟨u, hp, hb, hF⟩, hce, hcv, hcl, st⟩
  · cases hv
    obtain ⟨k1, k2, k3⟩ := vx_keep h0 e1 hS hA hf hL hF
    obtain ⟨t2, a1, b1⟩ := kk u t T'.heap (locs ++ L) e1.symm (by rw [← e2]; exact X'.warmed.alike) hp hb k1 k2 k3 T' rfl X'
    exact ⟨t2, st t2 a1, b1⟩
  · obtain ⟨k1, k2, k3⟩ := vx_keep h0 e1 hS hAX hf hL hF
    obtain ⟨t2, a1, b1⟩ := kx E ce q u t T'.heap (locs ++ L) e1.symm (by rw [← e2]; exact X'.warmed.alike) hp hb k1 k2 k3 (by rw [e1]; exact hce) hcv hcl T' rfl X'
    exact ⟨t2, st.trans a1, b1⟩
/-- caught by the row x of this method's table; the rows ahead don't take it -/
theorem vx_catch {own name : String} {E : String} {ce : Cell} {q : Addr} (hown : s.vm.findClass own = some m.cls) (pre : List ExceptionTableEntry) (x : ExceptionTableEntry) (suf : List ExceptionTableEntry) (hsplit : c.exceptionTable.toList = pre ++ x :: suf)
    (hpass : ∀ z ∈ pre, covers z pc = false ∨ (z.catchType ≠ 0 ∧ ∃ nm : String, (Cond.classLink own z.catchType nm).before args s = true ∧ va_Nc E nm s)) (hx : covers x pc = true) (h0 : x.catchType ≠ 0)
    (hlink : (Cond.classLink own x.catchType name).before args s = true) (hcast : (Cond.castable E name).before args s = true) (hcell : H[q]? = some ce) (hv : ce.vm = .none) (hcl : s.vm.findClass E = some ce.cls)
    (kk : W p l e R s m args below meth c H locs cells slots Q (F0 m x.handlerPc ls [.ref q])) : vx_W p l e R s m args below meth c H locs cells slots Q (F0 m pc ls rest) q := by
  intro T hT X
  have hpl : e.platform.magicAccessors = ({} : Platform).magicAccessors := by rw [X.admits.platform]
  obtain ⟨c3, c4, hc3, hc4, hasg⟩ := Cond.castable_spec hcast
  cases Option.some.inj (hc3.symm.trans hcl)
  obtain ⟨c5, hc5, hcl5⟩ := Cond.classLink_spec hown hlink e.platform hpl
  cases Option.some.inj (hc4.symm.trans hc5)
  obtain ⟨vm', X', st⟩ := Jvm.Stand.thenCaughtThrough X q (g := F0 m pc ls rest) rfl (Steps.refl _) (by rw [hT]; exact hcell) (by rw [hv]; rfl) (by obtain ⟨k9, h9, -⟩ := Vm.findClass_spec hcl; exact ⟨k9, h9⟩) pre x suf hsplit
    (fun z hz => by
      rcases hpass z hz with h | ⟨hz0, nm, hl1, hn1⟩
      · exact Or.inl h
      · obtain ⟨c6, hc6, hcl6⟩ := Cond.classLink_spec hown hl1 e.platform hpl
        obtain ⟨a8, b8, h1, h2, h3⟩ := hn1
        cases Option.some.inj (h1.symm.trans hcl)
        cases Option.some.inj (h2.symm.trans hc6)
        exact Or.inr ⟨hz0, _, hcl6, h3⟩) hx (Or.inr ⟨h0, c4, hcl5, hasg⟩)
  obtain ⟨t, a1, b1⟩ := kk (T.setVm vm') hT X'
  exact ⟨t, st.trans a1, b1⟩
end Rows
section Ends
variable {p : Program} {l : Launch} {e : Env} {R : Room} {s : State} {m : MethodId} {args : Array Value} {below : List Frame} {meth : Method} {c : Code} {H : Heap} {locs : List Loc} {cells slots : Nat} {Q : State → Prop}
variable {mc ms : Nat} {free : Addr → Prop} {A0 A1 : Nat → Prop} {H0 : Heap} {a : Array Value} {ls : Array Slot} {st0 rest : List Value}
variable {Qc : Array Value → State → Outcome → State → Prop} {XC : String → State → State → Prop}
/-- what a body that may throw owes at its end -/
def vx_MQ (below : List Frame) (Qc : Array Value → State → Outcome → State → Prop) (XC : String → State → State → Prop) (a : Array Value) (s : State) (mc ms : Nat) (free : Addr → Prop) : State → Prop := fun t =>
  ∃ o, t.status = .running ∧ Ended t below o ∧ vx_Q Qc XC mc ms free a s o t
theorem vx_ret {g : JFrame} {mc ms : Nat} (k : W p l e R s m args below meth c H locs cells slots (MQ below Qc args s mc ms free) g) : W p l e R s m args below meth c H locs cells slots (vx_MQ below Qc XC args s mc ms free) g := by
  intro T hT X
  obtain ⟨t, a1, o, b1, b2, b3, b4⟩ := k T hT X
  exact ⟨t, a1, o, b1, b2, Or.inl ⟨b3, b4⟩⟩
/-- not caught here: it goes on to the caller -/
theorem vx_widen {g : JFrame} {q : Addr} {k n : Nat} (h1 : cells ≤ k) (h2 : slots ≤ n) (kk : vx_W p l e R s m args below meth c H locs k n Q g q) : vx_W p l e R s m args below meth c H locs cells slots Q g q := fun T hT X => kk T hT (stand_widen X h1 h2)
theorem vx_out {pc : Nat} {E : String} {ce : Cell} {q : Addr} {mc ms : Nat} (hout : ∀ x ∈ c.exceptionTable.toList, covers x pc = false) (hlocks : meth.locks = false) (hcell : H[q]? = some ce) (hv : ce.vm = .none) (hcl : s.vm.findClass E = some ce.cls)
    (hx : ∀ t : State, t.heap = H → s.vm.Alike t.vm → XC E s t) (hf : ∀ z ∈ locs, free z.base) (hc : cells ≤ mc) (hs : slots ≤ ms) :
    vx_W p l e R s m args below meth c H locs cells slots (vx_MQ below Qc XC args s mc ms free) (F0 m pc ls rest) q := by
  intro T hT X
  obtain ⟨st1, hrun, hend, hW, hsm⟩ := X.leaveThrown q (g := F0 m pc ls rest) rfl rfl rfl hout hlocks
  have hcell9 : (T.setFrames (.throwing q :: below)).heap[q]? = some ce := by
    show T.heap[q]? = some ce
    rw [hT]; exact hcell
  exact ⟨_, st1, .threw q, hrun, hend, Or.inr ⟨q, rfl, E, ce, locs, hx _ hT hW.alike, hcell9, hv, hcl, hW, hsm.mono hc hs, hf⟩⟩
theorem vx_frame {U : State} {k n : Nat} (h : s.sameButNew ({ U with vm := s.vm } : State) locs k n) : s.heap.size ≤ U.heap.size ∧ ∀ q : Nat, q < s.heap.size → (∀ z ∈ locs, z.base ≠ q) → U.heap[q]? = s.heap[q]? := by
  obtain ⟨-, h2, -, -, -, h6⟩ := h
  refine ⟨h2, fun q hq hz => ?_⟩
  obtain ⟨c9, e1, e2, e3, e4⟩ := h6 q _ (Array.getElem?_eq_getElem hq)
  have hs : c9.slots = (s.heap[q]).slots := Array.ext_getElem? fun i => e4 i fun hm => hz _ hm rfl
  have h9 : c9 = s.heap[q] := by
    rw [hs] at e2
    exact e2
  have e5 : U.heap[q]? = some c9 := e1
  rw [e5, h9, Array.getElem?_eq_getElem hq]
/-- the words of a throw but the four that speak of the heap -/
def vx_no (w : Cond) : Bool := decide (w ≠ .isRef (.static Bundle.tN "UNASSIGNED_STACK" Bundle.steD)) && decide (w ≠ .isRef (.static Bundle.tN "SUPPRESSED_SENTINEL" Bundle.listD)) && decide (w ≠ .laysStatic Bundle.tN "UNASSIGNED_STACK" Bundle.steD) && decide (w ≠ .laysStatic Bundle.tN "SUPPRESSED_SENTINEL" Bundle.listD)
def vx_at0 (own : String) (ic : Nat) (X : String) (names : List String) : List Cond := (Bundle.ownAtoms0 own ic X names).filter vx_no
def vx_atS (own : String) (ic : Nat) (X : String) (names : List String) : List Cond := (Bundle.ownAtoms own ic X names).filter vx_no
/-- a word that the tables alone decide, or a good one -/
def vx_ot (w : Cond) : Bool := w.onTables || goodWord w
theorem vx_ot_at {args a' : Array Value} {s U : State} {w : Cond} (hW : s.WarmedH U.vm) (hvm : s.vm = U.vm) (hg : vx_ot w = true) (h : w.before args s = true) : w.before a' U = true := by
  simp only [vx_ot, Bool.or_eq_true] at hg
  rcases hg with hg | hg
  · exact va_tabs hg hvm h
  · exact word_at hW (good_of_word hg) h
/-- a list's words: the good ones out of the method's own list, the others by premises of their own -/
theorem vx_hat {args : Array Value} {s : State} {L B : List Cond} (h1 : ∀ w ∈ L.filter goodWord, w.before args s = true) (h2 : ∀ w ∈ L.filter (fun w => !goodWord w), w ∈ B) (h3 : ∀ w ∈ B, w.before args s = true) : ∀ w ∈ L, w.before args s = true := by
  intro w hw
  by_cases g : goodWord w = true
  · exact h1 w (List.mem_filter.mpr ⟨hw, g⟩)
  · refine h3 w (h2 w (List.mem_filter.mpr ⟨hw, ?_⟩))
    show (!goodWord w) = true
    cases hgw : goodWord w
    · rfl
    · exact absurd hgw g
theorem vx_c {args : Array Value} {s : State} {w : Cond} {B : List Cond} (h : w.before args s = true) (t : ∀ w ∈ B, w.before args s = true) : ∀ w' ∈ w :: B, w'.before args s = true := fun w' h' => (List.mem_cons.mp h').elim (fun e => by rw [e]; exact h) (t w')
theorem vx_n {args : Array Value} {s : State} : ∀ w ∈ ([] : List Cond), w.before args s = true := fun _ h => nomatch h
theorem vx_own {args : Array Value} {s : State} {L : List Cond} (h1 : ∀ w ∈ L.filter vx_no, w.before args s = true)
    (hU : (Cond.isRef (.static Bundle.tN "UNASSIGNED_STACK" Bundle.steD)).before args s = true) (hN : (Cond.isRef (.static Bundle.tN "SUPPRESSED_SENTINEL" Bundle.listD)).before args s = true)
    (lU : (Cond.laysStatic Bundle.tN "UNASSIGNED_STACK" Bundle.steD).before args s = true) (lN : (Cond.laysStatic Bundle.tN "SUPPRESSED_SENTINEL" Bundle.listD).before args s = true) : ∀ w ∈ L, w.before args s = true := by
  intro w hw
  by_cases e1 : w = .isRef (.static Bundle.tN "UNASSIGNED_STACK" Bundle.steD)
  · rw [e1]; exact hU
  · by_cases e2 : w = .isRef (.static Bundle.tN "SUPPRESSED_SENTINEL" Bundle.listD)
    · rw [e2]; exact hN
    · by_cases e3 : w = .laysStatic Bundle.tN "UNASSIGNED_STACK" Bundle.steD
      · rw [e3]; exact lU
      · by_cases e4 : w = .laysStatic Bundle.tN "SUPPRESSED_SENTINEL" Bundle.listD
        · rw [e4]; exact lN
        · exact h1 w (List.mem_filter.mpr ⟨hw, by unfold vx_no; rw [decide_eq_true e1, decide_eq_true e2, decide_eq_true e3, decide_eq_true e4]; rfl⟩)
/-- where a static field lies, its class's statics cell in H -/
def vx_L (C n d : String) (A : Nat → Prop) (U : State) (H : Heap) : Prop := ∃ (c : ClassId) (k : Class) (i : Nat) (f : Field) (a : Nat) (cell : Cell), U.vm.findClass C = some c ∧ U.fieldFound? C n d = some (c, k, i, f) ∧ f.isStatic = true ∧ k.statics = some a ∧ H[a]? = some cell ∧ cell.vm.isStatics = true ∧ cell.cls = c ∧ f.slot < cell.slots.size ∧ k.staticTypes[f.slot]? = some f.type ∧ ¬ A a
theorem vx_L.moved {C n d : String} {A : Nat → Prop} {u U : State} {H : Heap} (hvm : u.vm.Alike U.vm) (h : vx_L C n d A u H) : vx_L C n d A U H := by
  obtain ⟨c, k, i, f, a, cell, h1, h2, h3, h4, h5, h6, h7, h8, h9, h10⟩ := h
  obtain ⟨k', hi', he⟩ := State.fieldFound?_setVm hvm h2
  exact ⟨c, k', i, f, a, cell, by rw [hvm.findClass]; exact h1, hi', h3, by rw [he]; exact h4, h5, h6, h7, h8, by rw [he]; exact h9, h10⟩
theorem vx_L.kept {C n d : String} {A : Nat → Prop} {U : State} {H H1 : Heap} (h : vx_L C n d A U H) (hq : ∀ a : Nat, a < H.size → ¬ A a → H1[a]? = H[a]?) : vx_L C n d A U H1 := by
  obtain ⟨c, k, i, f, a, cell, h1, h2, h3, h4, h5, h6, h7, h8, h9, h10⟩ := h
  exact ⟨c, k, i, f, a, cell, h1, h2, h3, h4, by rw [hq a (Array.getElem?_eq_some_iff.mp h5).1 h10]; exact h5, h6, h7, h8, h9, h10⟩
theorem vx_L.narrow {C n d : String} {A B : Nat → Prop} {U : State} {H : Heap} (h : vx_L C n d A U H) (hAB : ∀ q, B q → A q) : vx_L C n d B U H := by
  obtain ⟨c, k, i, f, a, cell, h1, h2, h3, h4, h5, h6, h7, h8, h9, h10⟩ := h
  exact ⟨c, k, i, f, a, cell, h1, h2, h3, h4, h5, h6, h7, h8, h9, fun z => h10 (hAB _ z)⟩
theorem vx_L.word {C n d : String} {A : Nat → Prop} {s : State} {args : Array Value} (h : vx_L C n d A s s.heap) : (Cond.laysStatic C n d).before args s = true := by
  obtain ⟨c, k, i, f, a, cell, h1, h2, h3, h4, h5, h6, h7, h8, h9, -⟩ := h
  show (Cond.laysStatic C n d).holds args s none s [] = true
  exact Cond.laysStatic_of h1 h2 h3 h4 h5 h6 h7 h8 h9
/-- .. and what it holds: null or some reference -/
def vx_Zq (C n d : String) (A : Nat → Prop) (U : State) (H : Heap) : Prop := va_Zq C n d A U H ∧ vx_L C n d A U H
theorem vx_Zq.moved {C n d : String} {A : Nat → Prop} {u U : State} {H : Heap} (hvm : u.vm.Alike U.vm) (h : vx_Zq C n d A u H) : vx_Zq C n d A U H := ⟨va_Zq.moved hvm h.1, vx_L.moved hvm h.2⟩
theorem vx_Zq.kept {C n d : String} {A : Nat → Prop} {U : State} {H H1 : Heap} (h : vx_Zq C n d A U H) (hq : ∀ a : Nat, a < H.size → ¬ A a → H1[a]? = H[a]?) : vx_Zq C n d A U H1 := ⟨va_Zq.kept h.1 hq, vx_L.kept h.2 hq⟩
theorem vx_Zq.narrow {C n d : String} {A B : Nat → Prop} {U : State} {H : Heap} (h : vx_Zq C n d A U H) (hAB : ∀ q, B q → A q) : vx_Zq C n d B U H := ⟨va_Zq.narrow h.1 hAB, vx_L.narrow h.2 hAB⟩
theorem vx_Zqof {args : Array Value} {s : State} {C n d : String} {A : Nat → Prop} (hl : (Cond.laysStatic C n d).before args s = true) (hini : (Cond.initialized C).before args s = true) (h : (Cond.isRef (.static C n d)).before args s = true) (hA : ∀ a : Nat, a < s.heap.size → ¬ A a) : vx_Zq C n d A s s.heap := by
  refine ⟨va_Zqof hl hini h hA, ?_⟩
  obtain ⟨c, k, i, f, a, cell, h1, h2, h3, h4, h5, h6, h7, h8, h9⟩ := Cond.laysStatic_spec hl
  exact ⟨c, k, i, f, a, cell, h1, h2, h3, h4, h5, h6, h7, h8, h9, hA a (Array.getElem?_eq_some_iff.mp h5).1⟩
theorem vx_isRef {C n d : String} {v : Value} {A : Nat → Prop} {s : State} {args : Array Value} (h : va_Z C n d v A s s.heap) (hv : v.isRef = true) : (Cond.isRef (.static C n d)).before args s = true := by
  obtain ⟨cf, kf, fi, f, a, cell, h1, h2, h3, h4, h5, h6, h7, -⟩ := h
  have he : (Term.static C n d).eval args s none [] s = some v := by
    simp [Term.eval, State.fieldNamed?, h1, h2, h4, h5, h6, h7]
  simp only [Cond.before, Cond.holds, Cond.value, he]
  cases v <;> simp_all [Value.isRef]
theorem vx_isRefq {C n d : String} {A : Nat → Prop} {s : State} {args : Array Value} (h : va_Zq C n d A s s.heap) : (Cond.isRef (.static C n d)).before args s = true := by
  rcases h with h | ⟨t, h⟩
  · exact vx_isRef h rfl
  · exact vx_isRef h rfl
/-- the same frame, seen from here: as if the method were called anew in this heap -/
theorem vx_rebase {T : State} (X : Stand p l e R s m args below meth c T locs cells slots) {R' : Room} (hf : R'.frames ≤ R.frames) (hl : R'.locals ≤ R.locals) (hc : cells + R'.cells ≤ R.cells) (hs : slots + R'.slots ≤ R.slots) :
    Stand p l e R' ((T.setVm s.vm).setFrames (.invoking m args :: below)) m args below meth c T [] 0 0 := by
  have htop : (T.setVm s.vm).topJava?.isSome := X.here.top
  have hF : ((T.setVm s.vm).setFrames (.invoking m args :: below)).frames = .invoking m args :: below := State.frames_setFrames _ (State.cur_lt_of_top htop)
  obtain ⟨g₀, hg0⟩ := Option.isSome_iff_exists.mp htop
  obtain ⟨r, hr⟩ := State.topJava?_eq_some.mp hg0
  have hl9 : e.platform.stackLimits (T.setVm s.vm).me = e.platform.stackLimits s.me := X.limits
  have hb9 : (T.setVm s.vm).me.stackBytes = s.me.stackBytes := X.bytes
  refine ⟨X.admits, X.cas, X.clock, hF, ?_, X.hears, X.method, X.code, X.here, X.tail, X.warmed, ?_, ?_, ?_⟩
  · have h := X.room
    have hU : ((T.setVm s.vm).setFrames (.invoking m args :: below)).localsInUse = s.localsInUse := by
      rw [State.localsInUse_invoking hF (meth := meth) (c := c) X.method X.code, State.localsInUse_invoking X.frames X.method X.code]
    simp only [State.hasRoom, Bool.and_eq_true, decide_eq_true_eq] at h ⊢
    obtain ⟨⟨⟨⟨h1, h2, h3, h4, h5, h6⟩, h7⟩, h8⟩, h9⟩ := h
    rw [X.frames, List.length_cons] at h2 h3
    have q1 := X.heapSize
    have q2 := X.used
    simp only [hF, hU, List.length_cons, State.stackLimits_setFrames, State.stackBytes_setFrames, hl9, hb9]
    refine ⟨⟨⟨⟨by omega, by omega, by omega, by omega, by omega, h6⟩, ?_⟩, ?_⟩, X.book⟩
    · show T.heap.size + R'.cells ≤ e.platform.maxCells
      omega
    · show T.slotsUsed + R'.slots ≤ e.platform.maxSlots
      omega
  · rw [State.stackLimits_setFrames]; rfl
  · rw [State.stackBytes_setFrames]; rfl
  · refine ⟨?_, Nat.le_refl _, Nat.le_refl _, ?_, ?_, fun a c9 h9 => ⟨c9, h9, rfl, rfl, fun _ _ => rfl⟩⟩
    · obtain ⟨t, ht, -⟩ := State.frames_cons hr
      show T.setVm s.vm = { ((T.setVm s.vm).setFrames (.invoking m args :: below)).setFrames (T.setVm s.vm).frames with heap := T.heap, slotsUsed := T.slotsUsed }
      rw [State.setFrames_setFrames, State.setFrames_self ht]
      rfl
    · show T.slotsUsed = T.slotsUsed + ((T.heap.toList.drop T.heap.size).map (·.slots.size)).sum
      rw [List.drop_eq_nil_of_le (Nat.le_of_eq Array.length_toList)]
      rfl
    · show ((T.heap.toList.drop T.heap.size).map (·.slots.size)).sum ≤ 0
      rw [List.drop_eq_nil_of_le (Nat.le_of_eq Array.length_toList)]
      exact Nat.le_refl _
/-- 'throw new E()': new; dup; invokespecial; athrow -/
theorem vx_throw0 {cc : ByteArray} {pc : Nat} (hexec : p.tables.exec = Jvm.exec) (hb : c.code = cc) (hl : l.stackTraces = false) {own cls : String} {names : List String} {ik ic mc ms : Nat} {A : Nat → Prop}
    (hown : s.vm.findClass own = some m.cls) (hcls : Bundle.fit cls = true) (hnames : ∀ n ∈ names, Bundle.fit n = true)
    (hk : (Cond.classLink own ik cls).before args s = true) (hini : (Cond.initialized cls).before args s = true) (hat : ∀ w ∈ vx_at0 own ic cls names, w.before args s = true)
    (hgood : ∀ w ∈ Cond.classLink own ik cls :: Cond.initialized cls :: vx_at0 own ic cls names, vx_ot w = true)
    (hU : vx_Zq Bundle.tN "UNASSIGNED_STACK" Bundle.steD A s s.heap) (hN : vx_Zq Bundle.tN "SUPPRESSED_SENTINEL" Bundle.listD A s s.heap) (hS : va_S A s.heap H locs) (hsize : ls.size = c.maxLocals)
    (d0 : decode cc pc = .ok (.new ik, 3)) (d3 : decode cc (pc + 3) = .ok (.dup, 1)) (d4 : decode cc (pc + 4) = .ok (.invokespecial ic, 3)) (d7 : decode cc (pc + 7) = .ok (.athrow, 1))
    (hout : ∀ x ∈ c.exceptionTable.toList, covers x (pc + 7) = false)
    (hRframes : names.length + 3 < R.frames) (hRlocals : (rest.map fun v => v.category).sum + (13 * (names.length + 1) + 42) ≤ R.locals) (hRcells : cells + 1 ≤ R.cells) (hRslots : slots + 6 ≤ R.slots) (hlocks : meth.locks = false)
    (hx : ∀ t : State, s.vm.Alike t.vm → H.size ≤ t.heap.size → (∀ q : Nat, q < H.size → t.heap[q]? = H[q]?) → XC cls s t)
    (hf : ∀ z ∈ locs, free z.base) (hc : cells + 1 ≤ mc) (hs : slots + 6 ≤ ms) :
    W p l e R s m args below meth c H locs cells slots (vx_MQ below Qc XC args s mc ms free) (F0 m pc ls rest) := by
  intro T hT X
  have htr : e.platform.stackTraces = false := (show e.platform.stackTraces = l.stackTraces by rw [X.admits.platform]).trans hl
  have Y := vx_rebase X (R' := { frames := R.frames, locals := R.locals, cells := 1, slots := 6 }) (Nat.le_refl _) (Nat.le_refl _) hRcells hRslots
  obtain ⟨s', hA⟩ : ∃ z, z = (T.setVm s.vm).setFrames (.invoking m args :: below) := ⟨_, rfl⟩
  rw [← hA] at Y
  have hvm : s'.vm = s.vm := by rw [hA]; rfl
  have hhp : s'.heap = H := by rw [hA]; exact hT
  have hW0 : s.WarmedH s'.vm := by rw [hvm]; exact State.WarmedH.refl s
  have hat' : ∀ w ∈ vx_at0 own ic cls names, w.before args s' = true := fun w hw => vx_ot_at hW0 hvm.symm (hgood w (List.mem_cons_of_mem _ (List.mem_cons_of_mem _ hw))) (hat w hw)
  have hk' : (Cond.classLink own ik cls).before args s' = true := vx_ot_at hW0 hvm.symm (hgood _ List.mem_cons_self) hk
  have hini' : (Cond.initialized cls).before args s' = true := vx_ot_at hW0 hvm.symm (hgood _ (List.mem_cons_of_mem _ List.mem_cons_self)) hini
  have hU' : vx_Zq Bundle.tN "UNASSIGNED_STACK" Bundle.steD A s' s'.heap := by rw [hhp]; exact vx_Zq.moved hW0.alike (hU.kept hS.2.1)
  have hN' : vx_Zq Bundle.tN "SUPPRESSED_SENTINEL" Bundle.listD A s' s'.heap := by rw [hhp]; exact vx_Zq.moved hW0.alike (hN.kept hS.2.1)
  have h : ∀ w ∈ Bundle.ownAtoms0 own ic cls names, w.before args s' = true := vx_own hat' (vx_isRefq hU'.1) (vx_isRefq hN'.1) hU'.2.word hN'.2.word
  have hown' : s'.vm.findClass own = some m.cls := by rw [hvm]; exact hown
  have hins : (Cond.instantiable cls 6).before args s' = true := h _ (by simp [Bundle.ownAtoms0])
  obtain ⟨vm₁, cX, kX, hfX, hkX, -, -, X₁, st1⟩ := Y.newCold hexec (own := own) (C := cls) (index := ik) (n := 6) hown' hk' hins hini'
    (g := F0 m pc ls rest) rfl (by rw [hb]; exact d0) (Nat.le_refl _) (Nat.le_refl _)
  generalize hT1 : (T.setVm vm₁).pushCell { cls := cX, slots := kX.instanceTypes.map defaultValue, vm := .none } = T1 at X₁ st1
  have hcat : (Value.ref T.heap.size).category = 1 := rfl
  have hcellA : T1.heap[T.heap.size]? = some (freshCell cX kX) := by rw [← hT1]; exact State.heap_pushCell_size _ _
  have d3' : decode c.code (pc + 3) = .ok (.dup, 1) := by rw [hb]; exact d3
  obtain ⟨U, hsteps, hrun, hend, hW, hsame, ce, hce, hO⟩ := X₁.ctorThrow0 hexec htr (own := own) (cls := cls) (names := names) (ic := ic) hown' hcls hnames h (fun x hx => nomatch hx) hfX hkX hcellA (by rw [hhp, hT]; exact Nat.le_refl _)
    (g := { method := m, pc := pc + 4, locals := ls, stack := .ref T.heap.size :: .ref T.heap.size :: rest, locked := none }) rfl hsize rfl rfl (rest := rest) rfl
    (by rw [hb]; exact d4) (by rw [hb]; exact d7) hout hRframes (by simp only [List.map_cons, List.sum_cons, hcat]; omega) hlocks
  obtain ⟨f1, f2⟩ := vx_frame hsame
  rw [hhp] at f1 f2
  have hWs : s.WarmedH U.vm := State.WarmedH.trans hW0 hW
  have hcl : s.vm.findClass cls = some ce.cls := by
    have h9 := hO.cls
    rw [hvm] at h9
    exact h9
  have hall : s.sameButNew ({ U with vm := s.vm } : State) locs mc ms := by
    subst hA
    obtain ⟨e1, e2⟩ := hsame
    rw [State.setFrames_setFrames] at e1
    have h2 : (T.setVm s.vm).sameButNew ({ U with vm := s.vm } : State) [] (0 + 1) (0 + 6) := ⟨e1, e2⟩
    have h3 := X.same.trans h2
    rw [List.append_nil] at h3
    exact h3.mono hc hs
  refine ⟨U, ?_, .threw T.heap.size, hrun, hend, Or.inr ⟨T.heap.size, rfl, cls, ce, locs, hx U hWs.alike f1 (fun q hq => f2 q hq (fun z hz => nomatch hz)), hce, hO.vm, hcl, hWs, hall, hf⟩⟩
  refine st1 _ ?_
  show Steps p.tables e below (T1.setTop { method := m, pc := pc + 3, locals := ls, stack := .ref T.heap.size :: rest, locked := none }) _
  jvm_step X₁.here [X₁.here.top, hexec, d3', Value.category]
  exact hsteps
/-- 'throw new E("text")': new; dup; ldc; invokespecial; athrow -/
theorem vx_throwS {cc : ByteArray} {pc : Nat} (hexec : p.tables.exec = Jvm.exec) (hb : c.code = cc) (hl : l.stackTraces = false) {own cls text : String} {names : List String} {ik is ic mc ms sa : Nat} {A : Nat → Prop}
    (hown : s.vm.findClass own = some m.cls) (hcls : Bundle.fit cls = true) (hnames : ∀ n ∈ names, Bundle.fit n = true)
    (hk : (Cond.classLink own ik cls).before args s = true) (hini : (Cond.initialized cls).before args s = true) (hstr : vk_R own is text sa s) (hat : ∀ w ∈ vx_atS own ic cls names, w.before args s = true)
    (hgood : ∀ w ∈ Cond.classLink own ik cls :: Cond.initialized cls :: vx_atS own ic cls names, vx_ot w = true)
    (hU : vx_Zq Bundle.tN "UNASSIGNED_STACK" Bundle.steD A s s.heap) (hN : vx_Zq Bundle.tN "SUPPRESSED_SENTINEL" Bundle.listD A s s.heap) (hS : va_S A s.heap H locs) (hsize : ls.size = c.maxLocals)
    (d0 : decode cc pc = .ok (.new ik, 3)) (d3 : decode cc (pc + 3) = .ok (.dup, 1)) (d4 : decode cc (pc + 4) = .ok (.ldc is, 2)) (d6 : decode cc (pc + 6) = .ok (.invokespecial ic, 3)) (d9 : decode cc (pc + 9) = .ok (.athrow, 1))
    (hout : ∀ x ∈ c.exceptionTable.toList, covers x (pc + 9) = false)
    (hRframes : names.length + 3 < R.frames) (hRlocals : (rest.map fun v => v.category).sum + (13 * (names.length + 1) + 43) ≤ R.locals) (hRcells : cells + 1 ≤ R.cells) (hRslots : slots + 6 ≤ R.slots) (hlocks : meth.locks = false)
    (hx : ∀ t : State, s.vm.Alike t.vm → H.size ≤ t.heap.size → (∀ q : Nat, q < H.size → t.heap[q]? = H[q]?) → XC cls s t)
    (hf : ∀ z ∈ locs, free z.base) (hc : cells + 1 ≤ mc) (hs : slots + 6 ≤ ms) :
    W p l e R s m args below meth c H locs cells slots (vx_MQ below Qc XC args s mc ms free) (F0 m pc ls rest) := by
  intro T hT X
  have htr : e.platform.stackTraces = false := (show e.platform.stackTraces = l.stackTraces by rw [X.admits.platform]).trans hl
  have Y := vx_rebase X (R' := { frames := R.frames, locals := R.locals, cells := 1, slots := 6 }) (Nat.le_refl _) (Nat.le_refl _) hRcells hRslots
  obtain ⟨s', hA⟩ : ∃ z, z = (T.setVm s.vm).setFrames (.invoking m args :: below) := ⟨_, rfl⟩
  rw [← hA] at Y
  have hvm : s'.vm = s.vm := by rw [hA]; rfl
  have hhp : s'.heap = H := by rw [hA]; exact hT
  have hW0 : s.WarmedH s'.vm := by rw [hvm]; exact State.WarmedH.refl s
  have hat' : ∀ w ∈ vx_atS own ic cls names, w.before args s' = true := fun w hw => vx_ot_at hW0 hvm.symm (hgood w (List.mem_cons_of_mem _ (List.mem_cons_of_mem _ hw))) (hat w hw)
  have hk' : (Cond.classLink own ik cls).before args s' = true := vx_ot_at hW0 hvm.symm (hgood _ List.mem_cons_self) hk
  have hini' : (Cond.initialized cls).before args s' = true := vx_ot_at hW0 hvm.symm (hgood _ (List.mem_cons_of_mem _ List.mem_cons_self)) hini
  have hU' : vx_Zq Bundle.tN "UNASSIGNED_STACK" Bundle.steD A s' s'.heap := by rw [hhp]; exact vx_Zq.moved hW0.alike (hU.kept hS.2.1)
  have hN' : vx_Zq Bundle.tN "SUPPRESSED_SENTINEL" Bundle.listD A s' s'.heap := by rw [hhp]; exact vx_Zq.moved hW0.alike (hN.kept hS.2.1)
  have h : ∀ w ∈ Bundle.ownAtoms own ic cls names, w.before args s' = true := vx_own hat' (vx_isRefq hU'.1) (vx_isRefq hN'.1) hU'.2.word hN'.2.word
  have hown' : s'.vm.findClass own = some m.cls := by rw [hvm]; exact hown
  have hins : (Cond.instantiable cls 6).before args s' = true := h _ (by simp [Bundle.ownAtoms])
  obtain ⟨vm₁, cX, kX, hfX, hkX, -, -, X₁, st1⟩ := Y.newCold hexec (own := own) (C := cls) (index := ik) (n := 6) hown' hk' hins hini'
    (g := F0 m pc ls rest) rfl (by rw [hb]; exact d0) (Nat.le_refl _) (Nat.le_refl _)
  generalize hT1 : (T.setVm vm₁).pushCell { cls := cX, slots := kX.instanceTypes.map defaultValue, vm := .none } = T1 at X₁ st1
  have hcat : (Value.ref T.heap.size).category = 1 := rfl
  have hcellA : T1.heap[T.heap.size]? = some (freshCell cX kX) := by rw [← hT1]; exact State.heap_pushCell_size _ _
  have d3' : decode c.code (pc + 3) = .ok (.dup, 1) := by rw [hb]; exact d3
  have d4' : decode c.code (pc + 4) = .ok (.ldc is, 2) := by rw [hb]; exact d4
  have hstr' : vk_R own is text sa s' := vk_R.warm hW0 hstr
  obtain ⟨U, hsteps, hrun, hend, hW, hsame, ce, hce, hO⟩ := X₁.ctorThrowS hexec htr (own := own) (cls := cls) (names := names) (ic := ic) hown' hcls hnames h (fun x hx => nomatch hx) hfX hkX hcellA (by rw [hhp, hT]; exact Nat.le_refl _) (msg := .ref sa) rfl
    (g := { method := m, pc := pc + 6, locals := ls, stack := .ref sa :: .ref T.heap.size :: .ref T.heap.size :: rest, locked := none }) rfl hsize rfl rfl (rest := rest) rfl
    (by rw [hb]; exact d6) (by rw [hb]; exact d9) hout hRframes (by simp only [List.map_cons, List.sum_cons, hcat]; omega) hlocks
  obtain ⟨f1, f2⟩ := vx_frame hsame
  rw [hhp] at f1 f2
  have hWs : s.WarmedH U.vm := State.WarmedH.trans hW0 hW
  have hcl : s.vm.findClass cls = some ce.cls := by
    have h9 := hO.cls
    rw [hvm] at h9
    exact h9
  have hall : s.sameButNew ({ U with vm := s.vm } : State) locs mc ms := by
    subst hA
    obtain ⟨e1, e2⟩ := hsame
    rw [State.setFrames_setFrames] at e1
    have h2 : (T.setVm s.vm).sameButNew ({ U with vm := s.vm } : State) [] (0 + 1) (0 + 6) := ⟨e1, e2⟩
    have h3 := X.same.trans h2
    rw [List.append_nil] at h3
    exact h3.mono hc hs
  refine ⟨U, ?_, .threw T.heap.size, hrun, hend, Or.inr ⟨T.heap.size, rfl, cls, ce, locs, hx U hWs.alike f1 (fun q hq => f2 q hq (fun z hz => nomatch hz)), hce, hO.vm, hcl, hWs, hall, hf⟩⟩
  refine st1 _ ?_
  show Steps p.tables e below (T1.setTop { method := m, pc := pc + 3, locals := ls, stack := .ref T.heap.size :: rest, locked := none }) _
  jvm_step X₁.here [X₁.here.top, hexec, d3', Value.category]
  exact X₁.ldcString hexec (own := own) (text := text) (index := is) (a := sa) hown' hstr'.1 hstr'.2
    (g := { method := m, pc := pc + 4, locals := ls, stack := .ref T.heap.size :: .ref T.heap.size :: rest, locked := none }) rfl d4' _ hsteps
/-- 'throw new E("text")', the text by a wide index -/
theorem vx_throwSW {cc : ByteArray} {pc : Nat} (hexec : p.tables.exec = Jvm.exec) (hb : c.code = cc) (hl : l.stackTraces = false) {own cls text : String} {names : List String} {ik is ic mc ms sa : Nat} {A : Nat → Prop}
    (hown : s.vm.findClass own = some m.cls) (hcls : Bundle.fit cls = true) (hnames : ∀ n ∈ names, Bundle.fit n = true)
    (hk : (Cond.classLink own ik cls).before args s = true) (hini : (Cond.initialized cls).before args s = true) (hstr : vk_R own is text sa s) (hat : ∀ w ∈ vx_atS own ic cls names, w.before args s = true)
    (hgood : ∀ w ∈ Cond.classLink own ik cls :: Cond.initialized cls :: vx_atS own ic cls names, vx_ot w = true)
    (hU : vx_Zq Bundle.tN "UNASSIGNED_STACK" Bundle.steD A s s.heap) (hN : vx_Zq Bundle.tN "SUPPRESSED_SENTINEL" Bundle.listD A s s.heap) (hS : va_S A s.heap H locs) (hsize : ls.size = c.maxLocals)
    (d0 : decode cc pc = .ok (.new ik, 3)) (d3 : decode cc (pc + 3) = .ok (.dup, 1)) (d4 : decode cc (pc + 4) = .ok (.ldc_w is, 3)) (d7 : decode cc (pc + 7) = .ok (.invokespecial ic, 3)) (d10 : decode cc (pc + 10) = .ok (.athrow, 1))
    (hout : ∀ x ∈ c.exceptionTable.toList, covers x (pc + 10) = false)
    (hRframes : names.length + 3 < R.frames) (hRlocals : (rest.map fun v => v.category).sum + (13 * (names.length + 1) + 43) ≤ R.locals) (hRcells : cells + 1 ≤ R.cells) (hRslots : slots + 6 ≤ R.slots) (hlocks : meth.locks = false)
    (hx : ∀ t : State, s.vm.Alike t.vm → H.size ≤ t.heap.size → (∀ q : Nat, q < H.size → t.heap[q]? = H[q]?) → XC cls s t)
    (hf : ∀ z ∈ locs, free z.base) (hc : cells + 1 ≤ mc) (hs : slots + 6 ≤ ms) :
    W p l e R s m args below meth c H locs cells slots (vx_MQ below Qc XC args s mc ms free) (F0 m pc ls rest) := by
  intro T hT X
  have htr : e.platform.stackTraces = false := (show e.platform.stackTraces = l.stackTraces by rw [X.admits.platform]).trans hl
  have Y := vx_rebase X (R' := { frames := R.frames, locals := R.locals, cells := 1, slots := 6 }) (Nat.le_refl _) (Nat.le_refl _) hRcells hRslots
  obtain ⟨s', hA⟩ : ∃ z, z = (T.setVm s.vm).setFrames (.invoking m args :: below) := ⟨_, rfl⟩
  rw [← hA] at Y
  have hvm : s'.vm = s.vm := by rw [hA]; rfl
  have hhp : s'.heap = H := by rw [hA]; exact hT
  have hW0 : s.WarmedH s'.vm := by rw [hvm]; exact State.WarmedH.refl s
  have hat' : ∀ w ∈ vx_atS own ic cls names, w.before args s' = true := fun w hw => vx_ot_at hW0 hvm.symm (hgood w (List.mem_cons_of_mem _ (List.mem_cons_of_mem _ hw))) (hat w hw)
  have hk' : (Cond.classLink own ik cls).before args s' = true := vx_ot_at hW0 hvm.symm (hgood _ List.mem_cons_self) hk
  have hini' : (Cond.initialized cls).before args s' = true := vx_ot_at hW0 hvm.symm (hgood _ (List.mem_cons_of_mem _ List.mem_cons_self)) hini
  have hU' : vx_Zq Bundle.tN "UNASSIGNED_STACK" Bundle.steD A s' s'.heap := by rw [hhp]; exact vx_Zq.moved hW0.alike (hU.kept hS.2.1)
  have hN' : vx_Zq Bundle.tN "SUPPRESSED_SENTINEL" Bundle.listD A s' s'.heap := by rw [hhp]; exact vx_Zq.moved hW0.alike (hN.kept hS.2.1)
  have h : ∀ w ∈ Bundle.ownAtoms own ic cls names, w.before args s' = true := vx_own hat' (vx_isRefq hU'.1) (vx_isRefq hN'.1) hU'.2.word hN'.2.word
  have hown' : s'.vm.findClass own = some m.cls := by rw [hvm]; exact hown
  have hins : (Cond.instantiable cls 6).before args s' = true := h _ (by simp [Bundle.ownAtoms])
  obtain ⟨vm₁, cX, kX, hfX, hkX, -, -, X₁, st1⟩ := Y.newCold hexec (own := own) (C := cls) (index := ik) (n := 6) hown' hk' hins hini'
    (g := F0 m pc ls rest) rfl (by rw [hb]; exact d0) (Nat.le_refl _) (Nat.le_refl _)
  generalize hT1 : (T.setVm vm₁).pushCell { cls := cX, slots := kX.instanceTypes.map defaultValue, vm := .none } = T1 at X₁ st1
  have hcat : (Value.ref T.heap.size).category = 1 := rfl
  have hcellA : T1.heap[T.heap.size]? = some (freshCell cX kX) := by rw [← hT1]; exact State.heap_pushCell_size _ _
  have d3' : decode c.code (pc + 3) = .ok (.dup, 1) := by rw [hb]; exact d3
  have d4' : decode c.code (pc + 4) = .ok (.ldc_w is, 3) := by rw [hb]; exact d4
  have hstr' : vk_R own is text sa s' := vk_R.warm hW0 hstr
  obtain ⟨U, hsteps, hrun, hend, hW, hsame, ce, hce, hO⟩ := X₁.ctorThrowS hexec htr (own := own) (cls := cls) (names := names) (ic := ic) hown' hcls hnames h (fun x hx => nomatch hx) hfX hkX hcellA (by rw [hhp, hT]; exact Nat.le_refl _) (msg := .ref sa) rfl
    (g := { method := m, pc := pc + 7, locals := ls, stack := .ref sa :: .ref T.heap.size :: .ref T.heap.size :: rest, locked := none }) rfl hsize rfl rfl (rest := rest) rfl
    (by rw [hb]; exact d7) (by rw [hb]; exact d10) hout hRframes (by simp only [List.map_cons, List.sum_cons, hcat]; omega) hlocks
  obtain ⟨f1, f2⟩ := vx_frame hsame
  rw [hhp] at f1 f2
  have hWs : s.WarmedH U.vm := State.WarmedH.trans hW0 hW
  have hcl : s.vm.findClass cls = some ce.cls := by
    have h9 := hO.cls
    rw [hvm] at h9
    exact h9
  have hall : s.sameButNew ({ U with vm := s.vm } : State) locs mc ms := by
    subst hA
    obtain ⟨e1, e2⟩ := hsame
    rw [State.setFrames_setFrames] at e1
    have h2 : (T.setVm s.vm).sameButNew ({ U with vm := s.vm } : State) [] (0 + 1) (0 + 6) := ⟨e1, e2⟩
    have h3 := X.same.trans h2
    rw [List.append_nil] at h3
    exact h3.mono hc hs
  refine ⟨U, ?_, .threw T.heap.size, hrun, hend, Or.inr ⟨T.heap.size, rfl, cls, ce, locs, hx U hWs.alike f1 (fun q hq => f2 q hq (fun z hz => nomatch hz)), hce, hO.vm, hcl, hWs, hall, hf⟩⟩
  refine st1 _ ?_
  show Steps p.tables e below (T1.setTop { method := m, pc := pc + 3, locals := ls, stack := .ref T.heap.size :: rest, locked := none }) _
  jvm_step X₁.here [X₁.here.top, hexec, d3', Value.category]
  exact X₁.ldcStringW hexec (own := own) (text := text) (index := is) (a := sa) hown' hstr'.1 hstr'.2
    (g := { method := m, pc := pc + 4, locals := ls, stack := .ref T.heap.size :: .ref T.heap.size :: rest, locked := none }) rfl d4' _ hsteps
end Ends
section Bodies
variable {l : Launch}
theorem vx_ofW {y : MethodName} {ws ws' : List Cond} {rm : Room} {Pc : Array Value → State → Prop} {Qc : Array Value → State → Outcome → State → Prop} {XC : String → State → State → Prop} {mc ms : Nat} {free : Addr → Prop} {cc : ByteArray} {maxL : Nat} {ret : Option FieldType}
    (hy : plainName y.cls = true) (hw : ws = Cond.code y cc maxL ret :: ws')
    (body : ∀ p e s m args below meth c s₁, BodyLoose p l y (headSpec ws rm) cc maxL ret e s m args below meth c s₁ → c.maxLocals = maxL → (∀ x ∈ c.exceptionTable.toList, False) → Pc args s →
      W p l e (headSpec ws rm).room s m args below meth c s.heap [] 0 0 (vx_MQ below Qc XC args s mc ms free) (entryFrame m args maxL)) : vx_Met l y ws rm Pc Qc XC mc ms free := by
  refine MetFree.of_bodyS (code := cc) (maxLocals := maxL) (ret := ret) hy ?_ ?_
  · intro args s m h hn
    obtain ⟨meth, c, h1, h2, h3, h4, h5, h6, -, -⟩ := Cond.code_spec hn (atoms_spec (ws := ws) h _ (by rw [hw]; exact List.mem_cons_self))
    exact ⟨meth, c, h1, h2, h3, h4, h5, h6⟩
  · intro p e s m args below meth c s₁ B hml hP _
    have hh0 : s₁.heap = s.heap := by rw [B.state]; rfl
    have ht : ∀ x ∈ c.exceptionTable.toList, False := by
      obtain ⟨meth9, c9, h1, h2, -, -, -, -, h7, -⟩ := Cond.code_spec B.named (atoms_spec (ws := ws) B.pre _ (by rw [hw]; exact List.mem_cons_self))
      cases Option.some.inj (h1.symm.trans B.method)
      cases Option.some.inj (h2.symm.trans (Stand.of_body B).code)
      intro x hx
      rw [Array.isEmpty_iff.mp h7] at hx
      cases hx
    obtain ⟨t, a1, o, b1, b2, b3⟩ := body p e s m args below meth c s₁ B hml ht hP s₁ hh0 (Stand.of_body B)
    exact ⟨t, o, a1, b1, b2, b3⟩
/-- the table of a body with handlers -/
theorem vx_table {p : Program} {x y : MethodName} {S : Spec} {cc bytes : ByteArray} {maxL maxL' : Nat} {ret ret' : Option FieldType} {e : Env} {s s₁ : State} {m : MethodId} {args : Array Value} {below : List Frame} {meth : Method} {c : Code} {hh : List (Nat × Nat × Nat × Nat)}
    (B : BodyLoose p l y S cc maxL ret e s m args below meth c s₁) (h : (Cond.codeWith y bytes maxL' ret' hh).before args s = true) : c.exceptionTable.toList = tableOf hh := by
  obtain ⟨m9, meth9, c9, hn9, h1, h2, -, -, h6, -⟩ := Cond.codeWith_spec h
  cases Option.some.inj (hn9.symm.trans B.named)
  cases Option.some.inj (h1.symm.trans B.method)
  cases Option.some.inj (h2.symm.trans (Stand.of_body B).code)
  rw [← h6, table_eq]
end Bodies
end VXA
/-! ===== END ===== -/
/-! ===== BEGIN a static call of a method with an exception table ===== -/
section VXS
variable {p : Program} {l : Launch} {e : Env} {R : Room} {s : State} {m : MethodId} {args : Array Value} {below : List Frame} {meth : Method} {c : Code} {T : State} {H : Heap} {locs : List Loc} {cells slots : Nat}
abbrev vx_CSW (R : Room) (s : State) (args : Array Value) (own : String) (index : Nat) (y : MethodName) (bytes : ByteArray) (maxL : Nat) (ret : Option FieldType) (hh : List (Nat × Nat × Nat × Nat)) (ws : List Cond) (rm : Room) (mc ms n : Nat) : Prop :=
  (rm.cells = mc ∧ rm.slots = ms ∧ rm.frames + 1 ≤ R.frames ∧ 8 + (maxL + 11) + rm.locals ≤ R.locals ∧ (∀ w ∈ ws, ∀ (a' : Array Value) (U : State), s.WarmedH U.vm → w.before a' U = true) ∧ Cond.codeWith y bytes maxL ret hh ∈ ws) ∧
  (Cond.codeWith y bytes maxL ret hh).before args s = true ∧ (Cond.initialized y.cls).before args s = true ∧ (y.cls ≠ "java/lang/invoke/MethodHandle" ∧ y.cls ≠ "java/lang/invoke/VarHandle") ∧
  (∀ sig, parseMethodDescriptor y.desc = some sig → n = sig.parameters.length) ∧ (Cond.methodLink own index y).before args s = true ∧ (Cond.static y).before args s = true
theorem vx_cwSW {own : String} {index maxL mc ms : Nat} {y : MethodName} {bytes : ByteArray} {ret : Option FieldType} {hh : List (Nat × Nat × Nat × Nat)} {Ts ws ws' : List Cond} {rm : Room} (n : Nat) (ht : ∀ w ∈ Ts, w.before args s = true) (hT : GoodIn Ts (va_wsS own index y ws)) (hw : ws = Cond.codeWith y bytes maxL ret hh :: ws') (hrc : rm.cells = mc) (hrs : rm.slots = ms)
    (hd : y.cls ≠ "java/lang/invoke/MethodHandle" ∧ y.cls ≠ "java/lang/invoke/VarHandle" ∧ (parseMethodDescriptor y.desc).map (fun d => d.parameters.length) = some n) (hR : rm.frames + 1 ≤ R.frames ∧ 8 + (maxL + 11) + rm.locals ≤ R.locals) :
    vx_CSW R s args own index y bytes maxL ret hh ws rm mc ms n := by
  have ok : ∀ w ∈ va_wsS own index y ws, w.before args s = true := fun w h => ht w (hT w h).1
  have hG : GoodIn Ts ws := fun w h => hT w (by unfold va_wsS; exact List.mem_append_right _ h)
  have hc : Cond.codeWith y bytes maxL ret hh ∈ ws := by rw [hw]; exact List.mem_cons_self
  refine ⟨⟨hrc, hrs, hR.1, hR.2, pay_in ht hG, hc⟩, ht _ (hG _ hc).1, ok _ (by simp [va_wsS]), ⟨hd.1, hd.2.1⟩, fun sig h => ?_, ok _ (by simp [va_wsS]), ok _ (by simp [va_wsS])⟩
  have h2 := hd.2.2
  rw [h] at h2
  exact (Option.some.inj h2).symm
theorem vx_callSW (X : Stand p l e R s m args below meth c T locs cells slots) (hexec : p.tables.exec = Jvm.exec) {own : String} {index : Nat} {y : MethodName} {bytes : ByteArray} {maxL : Nat} {ret : Option FieldType} {hh : List (Nat × Nat × Nat × Nat)}
    (hown : s.vm.findClass own = some m.cls) (hlink : (Cond.methodLink own index y).before args s = true) (hstat : (Cond.static y).before args s = true) (hinit : (Cond.initialized y.cls).before args s = true)
    (hcode : (Cond.codeWith y bytes maxL ret hh).before args s = true) (hy : y.cls ≠ "java/lang/invoke/MethodHandle" ∧ y.cls ≠ "java/lang/invoke/VarHandle")
    {W9 : Nat} {Pre : Pt → Array Value → Prop} {Post : Pt → Array Value → Option Value → Pt → Prop} (hK : Back l R p e below s args y 3 W9 Pre Post)
    {g : JFrame} (hg : g.method = m) (hsize : g.locals.size = c.maxLocals) {argsL rest : List Value} (hlen : ∀ sig, parseMethodDescriptor y.desc = some sig → argsL.length = sig.parameters.length)
    (hstack : g.stack = argsL.reverse ++ rest) (hW : 2 * g.monitorRoom + (rest.map fun v => v.category).sum ≤ W9) (hdg : decode c.code g.pc = .ok (.invokestatic index, 3))
    (hpre : ∀ vm₁, s.WarmedH vm₁ → Pre ⟨T.setVm vm₁, locs, cells, slots⟩ argsL.toArray) :
    ∃ (v : Option Value) (vm₁ : Vm) (B : Pt), s.WarmedH vm₁ ∧ Stand p l e R s m args below meth c B.U B.locs B.cells B.slots ∧ Post ⟨T.setVm vm₁, locs, cells, slots⟩ argsL.toArray v B ∧
      ∀ target, Steps p.tables e below (B.U.setTop { g with pc := g.pc + 3, stack := v.toList ++ rest }) target → Steps p.tables e below (T.setTop g) target := by
  obtain ⟨mk, methM, cM, hnamed, hmethM, -, -, -, -, -, -, hsigM⟩ := Cond.codeWith_spec hcode
  have hstatic : methM.isStatic = true := Cond.static_spec hnamed hmethM hstat
  obtain ⟨kP, hkP, -⟩ := className_of_methodNamed hnamed
  have hinitP : kP.init = .initialized := Cond.initialized_spec (findClass_of_methodNamed hnamed) hkP hinit
  obtain ⟨vm₁, X₁, hstep₁⟩ := X.invokestatic hexec hown hlink hnamed hmethM hstatic hkP hinitP hy (g := g) hg (argsL := argsL) (rest := rest) (hlen _ hsigM) hstack hdg
  obtain ⟨v, B, X', hpost, hsteps⟩ := hK m meth c ⟨T.setVm vm₁, locs, cells, slots⟩ { g with stack := rest } (.invokestatic index) mk argsL.toArray X₁ hg hsize hdg hW (X₁.named hnamed) (hpre vm₁ X₁.warmed)
  exact ⟨v, vm₁, B, X₁.warmed, X', hpost, fun target h => hstep₁ _ fun acts => by rw [doInvoke_state]; exact hsteps.trans h⟩
theorem vx_runSW {y : MethodName} {bytes cc : ByteArray} {maxL nL mc ms n index : Nat} {ret : Option FieldType} {hh : List (Nat × Nat × Nat × Nat)} {ws : List Cond} {rm : Room} {Pc : Array Value → State → Prop} {Qc : Array Value → State → Outcome → State → Prop} {free : Addr → Prop} {Ts : List Cond} {own : String} {As rest : List Value} {g : JFrame}
    (S : CallFix p m c cc nL s args Ts own) (hM : Met l y ws rm Pc Qc mc ms free) (cw : vx_CSW R s args own index y bytes maxL ret hh ws rm mc ms n) (hp : PreS s H Pc As)
    (hg : g.method = m) (hn : As.length = n) (hsize : g.locals.size = nL) (hstack : g.stack = As.reverse ++ rest) (hW : 2 * g.monitorRoom + (rest.map fun v => v.category).sum ≤ 8) (hdg : decode cc g.pc = .ok (.invokestatic index, 3)) (hf : cells + mc ≤ R.cells ∧ slots + ms ≤ R.slots) :
    va_Run p l e R s m args below meth c H locs cells slots mc ms g rest (Qc As.toArray) (free) := by
  obtain ⟨⟨hrc, hrs, hfr, hlo, hws, hcw⟩, hcode, hini, hy, hlen, hl, hstt⟩ := cw
  have hK : Back l R p e below s args y 3 8 (PreOf R mc ms Pc) (PostOf Qc mc ms free) := va_backW (hh := hh) (bytes := bytes) (maxL := maxL) (ret := ret) hM hp.1 hrc hrs hfr hlo hws hcw (fun a' U hW => word_at hW (Or.inl (by first | rfl | simp [Cond.onTables, Cond.keeps, Cond.steady])) hini)
  obtain ⟨hx, hb, hml, ho, -⟩ := S
  intro T hT X
  obtain ⟨v, vm₁, ⟨U', l2, c2, s2⟩, hW₁, X', ⟨g', mk, t, L, e1, e2, hq, h1, hL, h2, h3⟩, st⟩ := vx_callSW X hx (hh := hh) (bytes := bytes) (maxL := maxL) (ret := ret) ho hl hstt hini hcode hy hK hg (hsize.trans hml.symm) (argsL := As) (rest := rest) (fun sig h => hn.trans (hlen sig h)) hstack hW (by rw [hb]; exact hdg)
    (fun vm₁ hW₁ => ⟨hf.1, hf.2, hp.2 (T.setVm vm₁) hT hW₁⟩)
  dsimp only [Pt.U, Pt.locs, Pt.cells, Pt.slots] at X' e1 e2 h1 h2 h3 st
  subst h1; subst h2; subst h3
  exact ⟨v, (T.setVm vm₁).calling g' mk As.toArray, t, U', L, hT, X', hL, e1, e2, hq, st⟩
/-- not caught here, past rows that name other classes: it goes on to the caller -/
theorem vx_outP {p : Program} {l : Launch} {e : Env} {R : Room} {s : State} {m : MethodId} {args : Array Value} {below : List Frame} {meth : Method} {c : Code} {H : Heap} {locs : List Loc} {cells slots : Nat} {free : Addr → Prop} {ls : Array Slot} {rest : List Value} {Qc : Array Value → State → Outcome → State → Prop} {XC : String → State → State → Prop}
    {pc : Nat} {own E : String} {ce : Cell} {q : Addr} {mc ms : Nat} (hown : s.vm.findClass own = some m.cls) (hlocks : meth.locks = false)
    (hpass : ∀ z ∈ c.exceptionTable.toList, covers z pc = false ∨ (z.catchType ≠ 0 ∧ ∃ nm : String, (Cond.classLink own z.catchType nm).before args s = true ∧ va_Nc E nm s)) (hcell : H[q]? = some ce) (hv : ce.vm = .none) (hcl : s.vm.findClass E = some ce.cls)
    (hx : ∀ t : State, t.heap = H → s.vm.Alike t.vm → XC E s t) (hf : ∀ z ∈ locs, free z.base) (hc : cells ≤ mc) (hs : slots ≤ ms) :
    vx_W p l e R s m args below meth c H locs cells slots (vx_MQ below Qc XC args s mc ms free) (F0 m pc ls rest) q := by
  intro T hT X
  have hpl : e.platform.magicAccessors = ({} : Platform).magicAccessors := by rw [X.admits.platform]
  obtain ⟨vm', hW', X', st⟩ := Jvm.Stand.outThrough X hlocks q (g := F0 m pc ls rest) rfl rfl rfl (cell := ce) (by rw [hT]; exact hcell) (by rw [hv]; rfl)
    (by obtain ⟨k9, h9, -⟩ := Vm.findClass_spec hcl; exact ⟨k9, h9⟩) (fun z hz => by
      rcases hpass z hz with h | ⟨hz0, nm, hl1, hn1⟩
      · exact Or.inl h
      · obtain ⟨c6, hc6, hcl6⟩ := Cond.classLink_spec hown hl1 e.platform hpl
        obtain ⟨a8, b8, h1, h2, h3⟩ := hn1
        cases Option.some.inj (h1.symm.trans hcl)
        cases Option.some.inj (h2.symm.trans hc6)
        exact Or.inr ⟨hz0, _, hcl6, h3⟩)
  obtain ⟨g₀, hfr⟩ := X'.frames_eq
  have hcell9 : ((T.setVm vm').setFrames (.throwing q :: below)).heap[q]? = some ce := by
    show T.heap[q]? = some ce
    rw [hT]; exact hcell
  have hend : Ended ((T.setVm vm').setFrames (.throwing q :: below)) below (.threw q) := State.frames_setFrames _ (State.cur_lt_of_frames hfr)
  refine ⟨(T.setVm vm').setFrames (.throwing q :: below), ?_, .threw q, X'.here.running, hend, Or.inr ⟨q, rfl, E, ce, locs, hx _ hT (X'.ends _).1.alike, hcell9, hv, hcl, (X'.ends _).1, (X'.ends _).2.mono hc hs, hf⟩⟩
  rw [X.pushThrowing_eq]
  exact st
/-- a thing of a world lies in the heap -/
theorem vx_lt {D : va_G} {cl : List vw_C} {ws : va_W} {H1 : Heap} (h : va_P D cl ws H1) {k : Nat} {q : Nat × va_E} (hk : ws[k]? = some q) : q.1 < H1.size := (h k q hk).lt
end VXS
/-! ===== END ===== -/
/-! ===== BEGIN methods with a table of their own: called by a name, returning or throwing ===== -/
section VXH
/-! vx_backW, vx_callVX, vx_callSX, vx_callVW, vx_runVW, vx_runVX, vx_runSX, vx_ofWH follow the same proofs as their sisters above (Free/Laws.lean, Shelf42/LK1.lean); vx_outP calls Shelf42/NT130.lean (outThrough). -/
section
variable {l : Launch} {R : Room} {p : Program} {e : Env} {below : List Frame} {s : State} {sargs : Array Value} {y : MethodName} {len W9 : Nat}
theorem vx_backW {ws : List Cond} {rm : Room} {Pc : Array Value → State → Prop} {Qc : Array Value → State → Outcome → State → Prop} {XC : String → State → State → Prop} {mc ms : Nat} {free : Addr → Prop} {bytes : ByteArray} {maxL : Nat} {ret : Option FieldType} {hh : List (Nat × Nat × Nat × Nat)}
    (hM : vx_Met l y ws rm Pc Qc XC mc ms free) (hblind : FrameBlind Pc) (hrc : rm.cells = mc) (hrs : rm.slots = ms)
    (hframes : rm.frames + 1 ≤ R.frames) (hlocals : W9 + (maxL + 11) + rm.locals ≤ R.locals)
    (hws : ∀ w ∈ ws, ∀ a' U, s.WarmedH U.vm → w.before a' U = true) (hcode : Cond.codeWith y bytes maxL ret hh ∈ ws) (hinit : ∀ a' U, s.WarmedH U.vm → (Cond.initialized y.cls).before a' U = true) :
    vx_Back l R p e below s sargs y len W9 (PreOf R mc ms Pc) (PostOf Qc mc ms free) (vx_Post XC mc ms free) := by
  intro m meth c A g ig mk a X hg hsize hdg hW hn hp
  have h1 : (headSpec ws rm).pre.before a A.U = true := atoms_intro fun w hw => hws w hw _ _ X.warmed
  have h2 : (Cond.codeWith y bytes maxL ret hh).before a A.U = true := hws _ hcode _ _ X.warmed
  have h3 : (Cond.initialized y.cls).before a A.U = true := hinit _ _ X.warmed
  have h4 : A.cells + (headSpec ws rm).room.cells ≤ R.cells := by rw [show (headSpec ws rm).room.cells = mc from hrc]; exact hp.1
  have h5 : A.slots + (headSpec ws rm).room.slots ≤ R.slots := by rw [show (headSpec ws rm).room.slots = ms from hrs]; exact hp.2.1
  have hPc : Pc a (A.U.calling g mk a) := hblind _ _ _ _ hp.2.2
  obtain ⟨U, Ls, c0, s0⟩ := A
  dsimp only [Pt.U, Pt.locs, Pt.cells, Pt.slots] at h1 h2 h3 h4 h5 X hn hPc ⊢
  obtain ⟨m9, methY, cY, hn9, hmY, hcY, -, hlY, -⟩ := Cond.codeWith_spec h2
  cases Option.some.inj (hn9.symm.trans hn)
  obtain ⟨kY, hkY, -⟩ := className_of_methodNamed hn
  have hinitY : kY.init = .initialized := Cond.initialized_spec (findClass_of_methodNamed hn) hkY h3
  have h : At U g.method c below := by rw [hg]; exact X.here
  have hlocals9 : W9 + (maxL + 11) + (headSpec ws rm).room.locals ≤ R.locals := hlocals
  have happ : (headSpec ws rm).appliesLoose y e.platform (U.calling g mk a) = true :=
    Spec.appliesLoose_calling (g := g) h hdg hn hkY hinitY
      (X.room_calling (g := g) (R' := (headSpec ws rm).room) hsize hmY hcY hframes (by rw [hlY]; omega) h4 h5) h1
  obtain ⟨mid, hmid⟩ := h.above
  have hfr : (U.setTop g).frames = (.java g :: mid) ++ below := by rw [State.frames_setTop' g h.top, hmid]; rfl
  obtain ⟨o, s₂, hsteps, -, hend, hq⟩ := Steps.callFree hM p X.admits X.cas X.clock (acts := []) hfr happ hPc trivial
  have hq' : vx_Q Qc XC mc ms free a (U.calling g mk a) o s₂ := hq
  rw [State.frames_setTop' g h.top] at hend
  obtain ⟨g₀, hg0⟩ := Option.isSome_iff_exists.mp h.top
  obtain ⟨r, hr⟩ := State.topJava?_eq_some.mp hg0
  have hr' : (({ U with heap := s₂.heap, slotsUsed := s₂.slotsUsed } : State).setVm s₂.vm).frames = .java g₀ :: r := hr
  rcases hq' with ⟨hqc, L, hfe, hL⟩ | ⟨q, rfl, E, ce, L, hx, hce, hcv, hcl, hW₂, hsm, hL⟩
  · obtain ⟨⟨v, rfl⟩, hW₂, e2, q2, q3, q4, q5, q6⟩ := id hfe
    have e3 : s₂ = ({ (U.calling g mk a).setFrames s₂.frames with heap := s₂.heap, slotsUsed := s₂.slotsUsed } : State).setVm s₂.vm := by
      have : s₂ = ({ s₂ with vm := (U.calling g mk a).vm } : State).setVm s₂.vm := rfl
      rw [e2] at this
      exact this
    obtain ⟨c₂, i₂, len₂, hc₂, hd₂, hf₂⟩ := hend
    have hW' : U.WarmedH s₂.vm := hW₂
    have hcc : c₂ = c := by
      have h1 : s₂.code? g.method = U.code? g.method := by
        rw [State.code?_eq, State.code?_eq, hW'.alike.method?]
      exact Option.some.inj (hc₂.symm.trans (h1.trans h.code))
    subst hcc
    have hlen : len₂ = len := by rw [hdg] at hd₂; cases hd₂; rfl
    subst hlen
    have hs₂ : s₂ = (({ U with heap := s₂.heap, slotsUsed := s₂.slotsUsed } : State).setVm s₂.vm).setTop { g with pc := g.pc + len₂, stack := v.toList ++ g.stack } := by
      refine e3.trans ?_
      rw [hf₂, State.calling_eq h.top, State.setFrames_setFrames, State.setTop_of_frames _ hr', hr]
      rfl
    have hsame : U.sameButNew ({ U with heap := s₂.heap, slotsUsed := s₂.slotsUsed } : State) L mc ms := by
      refine ⟨?_, q2, q3, q4, q5, q6⟩
      obtain ⟨t, ht, -⟩ := State.frames_cons hr
      show ({ U with heap := s₂.heap, slotsUsed := s₂.slotsUsed } : State) = { U.setFrames U.frames with heap := s₂.heap, slotsUsed := s₂.slotsUsed }
      rw [State.setFrames_self ht]
    subst hg
    refine Or.inl ⟨v, ⟨(({ U with heap := s₂.heap, slotsUsed := s₂.slotsUsed } : State).setVm s₂.vm), Ls ++ L, c0 + mc, s0 + ms⟩,
      ⟨X.admits, X.cas, X.clock, X.frames, X.room, X.hears, X.method, X.code, (X.here.setHeapUsed s₂.heap s₂.slotsUsed).setVm hW'.alike, X.tail, State.WarmedH.trans X.warmed hW', X.limits, X.bytes, X.same.trans (hsame.setVm s.vm)⟩,
      ⟨g, mk, s₂, L, rfl, rfl, hqc, rfl, hL, rfl, rfl⟩, ?_⟩
    show Steps p.tables e below _ ((({ U with heap := s₂.heap, slotsUsed := s₂.slotsUsed } : State).setVm s₂.vm).setTop { g with pc := g.pc + len₂, stack := v.toList ++ g.stack })
    rw [← hs₂]
    exact hsteps
  · obtain ⟨e2, q2, q3, q4, q5, q6⟩ := id hsm
    have e3 : s₂ = ({ (U.calling g mk a).setFrames s₂.frames with heap := s₂.heap, slotsUsed := s₂.slotsUsed } : State).setVm s₂.vm := by
      have : s₂ = ({ s₂ with vm := (U.calling g mk a).vm } : State).setVm s₂.vm := rfl
      rw [e2] at this
      exact this
    have hf₂ : s₂.frames = .throwing q :: .java g :: U.frames.tail := hend
    have hW' : U.WarmedH s₂.vm := hW₂
    have hs₂ : s₂ = ((({ U with heap := s₂.heap, slotsUsed := s₂.slotsUsed } : State).setVm s₂.vm).setTop g).pushFrame (.throwing q) := by
      refine e3.trans ?_
      rw [hf₂, State.calling_eq h.top, State.setFrames_setFrames, State.pushFrame, State.frames_setTop _ hr', State.setTop_of_frames _ hr', State.setFrames_setFrames, hr]
      rfl
    have hsame : U.sameButNew ({ U with heap := s₂.heap, slotsUsed := s₂.slotsUsed } : State) L mc ms := by
      refine ⟨?_, q2, q3, q4, q5, q6⟩
      obtain ⟨t, ht, -⟩ := State.frames_cons hr
      show ({ U with heap := s₂.heap, slotsUsed := s₂.slotsUsed } : State) = { U.setFrames U.frames with heap := s₂.heap, slotsUsed := s₂.slotsUsed }
      rw [State.setFrames_self ht]
    subst hg
    refine Or.inr ⟨q, ⟨(({ U with heap := s₂.heap, slotsUsed := s₂.slotsUsed } : State).setVm s₂.vm), Ls ++ L, c0 + mc, s0 + ms⟩,
      ⟨X.admits, X.cas, X.clock, X.frames, X.room, X.hears, X.method, X.code, (X.here.setHeapUsed s₂.heap s₂.slotsUsed).setVm hW'.alike, X.tail, State.WarmedH.trans X.warmed hW', X.limits, X.bytes, X.same.trans (hsame.setVm s.vm)⟩,
      ⟨g, mk, s₂, L, E, ce, rfl, rfl, hx, hce, hcv, hcl, rfl, hL, rfl, rfl⟩, ?_⟩
    show Steps p.tables e below _ (((({ U with heap := s₂.heap, slotsUsed := s₂.slotsUsed } : State).setVm s₂.vm).setTop g).pushFrame (.throwing q))
    rw [← hs₂]
    exact hsteps
end
variable {p : Program} {l : Launch} {e : Env} {R : Room} {s : State} {m : MethodId} {args : Array Value} {below : List Frame} {meth : Method} {c : Code} {T : State} {H : Heap} {locs : List Loc} {cells slots : Nat}
theorem vx_callVX (X : Stand p l e R s m args below meth c T locs cells slots) (hexec : p.tables.exec = Jvm.exec) {own C : String} {index : Nat} {y : MethodName} {bytes : ByteArray} {maxL : Nat} {ret : Option FieldType} {hh : List (Nat × Nat × Nat × Nat)}
    (hown : s.vm.findClass own = some m.cls) (hlink : (Cond.methodLink own index y).before args s = true) (hinst : (Cond.instanceMethod y).before args s = true) (hsel : (Cond.selects C y y).before args s = true)
    (hcode : (Cond.codeWith y bytes maxL ret hh).before args s = true) (hy : y.cls ≠ "java/lang/invoke/MethodHandle" ∧ y.cls ≠ "java/lang/invoke/VarHandle")
    {W9 : Nat} {Pre : Pt → Array Value → Prop} {Post : Pt → Array Value → Option Value → Pt → Prop} {PostX : Pt → Array Value → Addr → Pt → Prop} (hK : vx_Back l R p e below s args y 3 W9 Pre Post PostX)
    {b : Addr} {cellB : Cell} (hcell : T.heap[b]? = some cellB) (hobj : cellB.vm.isStatics = false) (hcls : s.vm.findClass C = some cellB.cls)
    {g : JFrame} (hg : g.method = m) (hsize : g.locals.size = c.maxLocals) {argsL rest : List Value} (hlen : ∀ sig, parseMethodDescriptor y.desc = some sig → argsL.length = sig.parameters.length)
    (hstack : g.stack = argsL.reverse ++ .ref b :: rest) (hW : 2 * g.monitorRoom + (rest.map fun v => v.category).sum ≤ W9) (hdg : decode c.code g.pc = .ok (.invokevirtual index, 3))
    (hpre : ∀ vm₁, s.WarmedH vm₁ → Pre ⟨T.setVm vm₁, locs, cells, slots⟩ (Value.ref b :: argsL).toArray) :
    (∃ (v : Option Value) (vm₁ : Vm) (B : Pt), s.WarmedH vm₁ ∧ Stand p l e R s m args below meth c B.U B.locs B.cells B.slots ∧ Post ⟨T.setVm vm₁, locs, cells, slots⟩ (Value.ref b :: argsL).toArray v B ∧
      ∀ target, Steps p.tables e below (B.U.setTop { g with pc := g.pc + 3, stack := v.toList ++ rest }) target → Steps p.tables e below (T.setTop g) target) ∨
    (∃ (q : Addr) (vm₁ : Vm) (B : Pt), s.WarmedH vm₁ ∧ Stand p l e R s m args below meth c B.U B.locs B.cells B.slots ∧ PostX ⟨T.setVm vm₁, locs, cells, slots⟩ (Value.ref b :: argsL).toArray q B ∧
      Steps p.tables e below (T.setTop g) ((B.U.setTop { g with stack := rest }).pushFrame (.throwing q))) := by
  obtain ⟨mk, methM, hnamed, hmethM, hstM, habM⟩ := Cond.instanceMethod_spec hinst
  obtain ⟨m8, methM', cM, hn8, hmethM', -, -, -, -, -, -, hsigM⟩ := Cond.codeWith_spec hcode
  cases Option.some.inj (hn8.symm.trans hnamed)
  cases hmethM.symm.trans hmethM'
  obtain ⟨c2, r2, m2, q1, q2, q3, q4, kP, hkP, hkPi⟩ := Cond.selects_spec hsel
  cases hcls.symm.trans q1
  cases (State.methodFound?_of_named hnamed hy).symm.trans q2
  cases hnamed.symm.trans q3
  have hselP : selectMethod e.platform s.vm cellB.cls mk = .method mk := by rw [Launch.admits_selectMethod X.admits]; exact q4
  obtain ⟨vm₁, X₁, hstep₁⟩ := X.invokevirtual hexec hown hlink hnamed hmethM hstM hkP hkPi hy (a := b) (cell := cellB) hcell
    (fun z h => by rw [h] at hobj; cases hobj) hselP hmethM habM hkP hkPi (g := g) hg (argsL := argsL) (rest := rest) (hlen _ hsigM) hstack hdg
  rcases hK m meth c ⟨T.setVm vm₁, locs, cells, slots⟩ { g with stack := rest } (.invokevirtual index) mk (Value.ref b :: argsL).toArray X₁ hg hsize hdg hW (X₁.named hnamed) (hpre vm₁ X₁.warmed) with ⟨v, B, X', hpost, hsteps⟩ | ⟨q, B, X', hpost, hsteps⟩
  · exact Or.inl ⟨v, vm₁, B, X₁.warmed, X', hpost, fun target h => hstep₁ _ fun acts => by rw [doInvoke_state]; exact hsteps.trans h⟩
  · exact Or.inr ⟨q, vm₁, B, X₁.warmed, X', hpost, hstep₁ _ fun acts => by rw [doInvoke_state]; exact hsteps⟩
theorem vx_callSX (X : Stand p l e R s m args below meth c T locs cells slots) (hexec : p.tables.exec = Jvm.exec) {own : String} {index : Nat} {y : MethodName} {bytes : ByteArray} {maxL : Nat} {ret : Option FieldType} {hh : List (Nat × Nat × Nat × Nat)}
    (hown : s.vm.findClass own = some m.cls) (hlink : (Cond.methodLink own index y).before args s = true) (hstat : (Cond.static y).before args s = true) (hinit : (Cond.initialized y.cls).before args s = true)
    (hcode : (Cond.codeWith y bytes maxL ret hh).before args s = true) (hy : y.cls ≠ "java/lang/invoke/MethodHandle" ∧ y.cls ≠ "java/lang/invoke/VarHandle")
    {W9 : Nat} {Pre : Pt → Array Value → Prop} {Post : Pt → Array Value → Option Value → Pt → Prop} {PostX : Pt → Array Value → Addr → Pt → Prop} (hK : vx_Back l R p e below s args y 3 W9 Pre Post PostX)
    {g : JFrame} (hg : g.method = m) (hsize : g.locals.size = c.maxLocals) {argsL rest : List Value} (hlen : ∀ sig, parseMethodDescriptor y.desc = some sig → argsL.length = sig.parameters.length)
    (hstack : g.stack = argsL.reverse ++ rest) (hW : 2 * g.monitorRoom + (rest.map fun v => v.category).sum ≤ W9) (hdg : decode c.code g.pc = .ok (.invokestatic index, 3))
    (hpre : ∀ vm₁, s.WarmedH vm₁ → Pre ⟨T.setVm vm₁, locs, cells, slots⟩ argsL.toArray) :
    (∃ (v : Option Value) (vm₁ : Vm) (B : Pt), s.WarmedH vm₁ ∧ Stand p l e R s m args below meth c B.U B.locs B.cells B.slots ∧ Post ⟨T.setVm vm₁, locs, cells, slots⟩ argsL.toArray v B ∧
      ∀ target, Steps p.tables e below (B.U.setTop { g with pc := g.pc + 3, stack := v.toList ++ rest }) target → Steps p.tables e below (T.setTop g) target) ∨
    (∃ (q : Addr) (vm₁ : Vm) (B : Pt), s.WarmedH vm₁ ∧ Stand p l e R s m args below meth c B.U B.locs B.cells B.slots ∧ PostX ⟨T.setVm vm₁, locs, cells, slots⟩ argsL.toArray q B ∧
      Steps p.tables e below (T.setTop g) ((B.U.setTop { g with stack := rest }).pushFrame (.throwing q))) := by
  obtain ⟨mk, methM, cM, hnamed, hmethM, -, -, -, -, -, -, hsigM⟩ := Cond.codeWith_spec hcode
  have hstatic : methM.isStatic = true := Cond.static_spec hnamed hmethM hstat
  obtain ⟨kP, hkP, -⟩ := className_of_methodNamed hnamed
  have hinitP : kP.init = .initialized := Cond.initialized_spec (findClass_of_methodNamed hnamed) hkP hinit
  obtain ⟨vm₁, X₁, hstep₁⟩ := X.invokestatic hexec hown hlink hnamed hmethM hstatic hkP hinitP hy (g := g) hg (argsL := argsL) (rest := rest) (hlen _ hsigM) hstack hdg
  rcases hK m meth c ⟨T.setVm vm₁, locs, cells, slots⟩ { g with stack := rest } (.invokestatic index) mk argsL.toArray X₁ hg hsize hdg hW (X₁.named hnamed) (hpre vm₁ X₁.warmed) with ⟨v, B, X', hpost, hsteps⟩ | ⟨q, B, X', hpost, hsteps⟩
  · exact Or.inl ⟨v, vm₁, B, X₁.warmed, X', hpost, fun target h => hstep₁ _ fun acts => by rw [doInvoke_state]; exact hsteps.trans h⟩
  · exact Or.inr ⟨q, vm₁, B, X₁.warmed, X', hpost, hstep₁ _ fun acts => by rw [doInvoke_state]; exact hsteps⟩
theorem vx_callVW (X : Stand p l e R s m args below meth c T locs cells slots) (hexec : p.tables.exec = Jvm.exec) {own C : String} {index : Nat} {y : MethodName} {bytes : ByteArray} {maxL : Nat} {ret : Option FieldType} {hh : List (Nat × Nat × Nat × Nat)}
    (hown : s.vm.findClass own = some m.cls) (hlink : (Cond.methodLink own index y).before args s = true) (hinst : (Cond.instanceMethod y).before args s = true) (hsel : (Cond.selects C y y).before args s = true)
    (hcode : (Cond.codeWith y bytes maxL ret hh).before args s = true) (hy : y.cls ≠ "java/lang/invoke/MethodHandle" ∧ y.cls ≠ "java/lang/invoke/VarHandle")
    {W9 : Nat} {Pre : Pt → Array Value → Prop} {Post : Pt → Array Value → Option Value → Pt → Prop} (hK : Back l R p e below s args y 3 W9 Pre Post)
    {b : Addr} {cellB : Cell} (hcell : T.heap[b]? = some cellB) (hobj : cellB.vm.isStatics = false) (hcls : s.vm.findClass C = some cellB.cls)
    {g : JFrame} (hg : g.method = m) (hsize : g.locals.size = c.maxLocals) {argsL rest : List Value} (hlen : ∀ sig, parseMethodDescriptor y.desc = some sig → argsL.length = sig.parameters.length)
    (hstack : g.stack = argsL.reverse ++ .ref b :: rest) (hW : 2 * g.monitorRoom + (rest.map fun v => v.category).sum ≤ W9) (hdg : decode c.code g.pc = .ok (.invokevirtual index, 3))
    (hpre : ∀ vm₁, s.WarmedH vm₁ → Pre ⟨T.setVm vm₁, locs, cells, slots⟩ (Value.ref b :: argsL).toArray) :
    ∃ (v : Option Value) (vm₁ : Vm) (B : Pt), s.WarmedH vm₁ ∧ Stand p l e R s m args below meth c B.U B.locs B.cells B.slots ∧ Post ⟨T.setVm vm₁, locs, cells, slots⟩ (Value.ref b :: argsL).toArray v B ∧
      ∀ target, Steps p.tables e below (B.U.setTop { g with pc := g.pc + 3, stack := v.toList ++ rest }) target → Steps p.tables e below (T.setTop g) target := by
  obtain ⟨mk, methM, hnamed, hmethM, hstM, habM⟩ := Cond.instanceMethod_spec hinst
  obtain ⟨m8, methM', cM, hn8, hmethM', -, -, -, -, -, -, hsigM⟩ := Cond.codeWith_spec hcode
  cases Option.some.inj (hn8.symm.trans hnamed)
  cases hmethM.symm.trans hmethM'
  obtain ⟨c2, r2, m2, q1, q2, q3, q4, kP, hkP, hkPi⟩ := Cond.selects_spec hsel
  cases hcls.symm.trans q1
  cases (State.methodFound?_of_named hnamed hy).symm.trans q2
  cases hnamed.symm.trans q3
  have hselP : selectMethod e.platform s.vm cellB.cls mk = .method mk := by rw [Launch.admits_selectMethod X.admits]; exact q4
  obtain ⟨vm₁, X₁, hstep₁⟩ := X.invokevirtual hexec hown hlink hnamed hmethM hstM hkP hkPi hy (a := b) (cell := cellB) hcell
    (fun z h => by rw [h] at hobj; cases hobj) hselP hmethM habM hkP hkPi (g := g) hg (argsL := argsL) (rest := rest) (hlen _ hsigM) hstack hdg
  obtain ⟨v, B, X', hpost, hsteps⟩ := hK m meth c ⟨T.setVm vm₁, locs, cells, slots⟩ { g with stack := rest } (.invokevirtual index) mk (Value.ref b :: argsL).toArray X₁ hg hsize hdg hW (X₁.named hnamed) (hpre vm₁ X₁.warmed)
  exact ⟨v, vm₁, B, X₁.warmed, X', hpost, fun target h => hstep₁ _ fun acts => by rw [doInvoke_state]; exact hsteps.trans h⟩
abbrev vx_CVW (R : Room) (s : State) (args : Array Value) (own C : String) (index : Nat) (y : MethodName) (bytes : ByteArray) (maxL : Nat) (ret : Option FieldType) (hh : List (Nat × Nat × Nat × Nat)) (ws : List Cond) (rm : Room) (mc ms n : Nat) : Prop :=
  (rm.cells = mc ∧ rm.slots = ms ∧ rm.frames + 1 ≤ R.frames ∧ 8 + (maxL + 11) + rm.locals ≤ R.locals ∧ (∀ w ∈ ws, ∀ (a' : Array Value) (U : State), s.WarmedH U.vm → w.before a' U = true) ∧ Cond.codeWith y bytes maxL ret hh ∈ ws) ∧
  (Cond.codeWith y bytes maxL ret hh).before args s = true ∧ (Cond.initialized y.cls).before args s = true ∧ (y.cls ≠ "java/lang/invoke/MethodHandle" ∧ y.cls ≠ "java/lang/invoke/VarHandle") ∧
  (∀ sig, parseMethodDescriptor y.desc = some sig → n = sig.parameters.length) ∧ (Cond.methodLink own index y).before args s = true ∧ (Cond.instanceMethod y).before args s = true ∧ (Cond.selects C y y).before args s = true
theorem vx_cwVW {own C : String} {index maxL mc ms : Nat} {y : MethodName} {bytes : ByteArray} {ret : Option FieldType} {hh : List (Nat × Nat × Nat × Nat)} {Ts ws ws' : List Cond} {rm : Room} (n : Nat) (ht : ∀ w ∈ Ts, w.before args s = true) (hT : GoodIn Ts (wsV own index C y ws)) (hw : ws = Cond.codeWith y bytes maxL ret hh :: ws') (hrc : rm.cells = mc) (hrs : rm.slots = ms)
    (hd : y.cls = C ∧ y.cls ≠ "java/lang/invoke/MethodHandle" ∧ y.cls ≠ "java/lang/invoke/VarHandle" ∧ (parseMethodDescriptor y.desc).map (fun d => d.parameters.length) = some n) (hR : rm.frames + 1 ≤ R.frames ∧ 8 + (maxL + 11) + rm.locals ≤ R.locals) :
    vx_CVW R s args own C index y bytes maxL ret hh ws rm mc ms n := by
  obtain ⟨hC, hd⟩ := hd
  subst hC
  have ok : ∀ w ∈ wsV own index y.cls y ws, w.before args s = true := fun w h => ht w (hT w h).1
  have hG : GoodIn Ts ws := fun w h => hT w (by unfold wsV; exact List.mem_append_right _ h)
  have hc : Cond.codeWith y bytes maxL ret hh ∈ ws := by rw [hw]; exact List.mem_cons_self
  refine ⟨⟨hrc, hrs, hR.1, hR.2, pay_in ht hG, hc⟩, ht _ (hG _ hc).1, ok _ (by simp [wsV]), ⟨hd.1, hd.2.1⟩, fun sig h => ?_, ok _ (by simp [wsV]), ok _ (by simp [wsV]), ok _ (by simp [wsV])⟩
  have h2 := hd.2.2
  rw [h] at h2
  exact (Option.some.inj h2).symm
theorem vx_runVW {y : MethodName} {bytes cc : ByteArray} {maxL nL mc ms n index : Nat} {ret : Option FieldType} {hh : List (Nat × Nat × Nat × Nat)} {ws : List Cond} {rm : Room} {Pc : Array Value → State → Prop} {Qc : Array Value → State → Outcome → State → Prop} {free : Addr → Prop} {Ts : List Cond} {own C : String} {b : Addr} {As rest : List Value} {g : JFrame}
    (S : CallFix p m c cc nL s args Ts own) (hM : Met l y ws rm Pc Qc mc ms free) (cw : vx_CVW R s args own C index y bytes maxL ret hh ws rm mc ms n) (hp : PreV s H C b Pc As)
    (hg : g.method = m) (hn : As.length = n) (hsize : g.locals.size = nL) (hstack : g.stack = As.reverse ++ .ref b :: rest) (hW : 2 * g.monitorRoom + (rest.map fun v => v.category).sum ≤ 8) (hdg : decode cc g.pc = .ok (.invokevirtual index, 3)) (hf : cells + mc ≤ R.cells ∧ slots + ms ≤ R.slots) :
    va_Run p l e R s m args below meth c H locs cells slots mc ms g rest (Qc (Value.ref b :: As).toArray) free := by
  obtain ⟨⟨hrc, hrs, hfr, hlo, hws, hcw⟩, hcode, hini, hy, hlen, hl, hin, hse⟩ := cw
  have hK : Back l R p e below s args y 3 8 (PreOf R mc ms Pc) (PostOf Qc mc ms free) := va_backW (hh := hh) (bytes := bytes) (maxL := maxL) (ret := ret) hM hp.1 hrc hrs hfr hlo hws hcw (fun a' U hW => word_at hW (Or.inl (by first | rfl | simp [Cond.onTables, Cond.keeps, Cond.steady])) hini)
  obtain ⟨hx, hb, hml, ho, -⟩ := S
  obtain ⟨-, ⟨cellB, hcB, hoB, hclB⟩, hPc⟩ := hp
  intro T hT X
  obtain ⟨v, vm₁, ⟨U', l2, c2, s2⟩, hW₁, X', ⟨g', mk, t, L, e1, e2, hq, h1, hL, h2, h3⟩, st⟩ := vx_callVW X hx (C := C) (hh := hh) (bytes := bytes) (maxL := maxL) (ret := ret) ho hl hin hse hcode hy hK (by rw [hT]; exact hcB) hoB hclB hg (hsize.trans hml.symm) (argsL := As) (rest := rest) (fun sig h => hn.trans (hlen sig h)) hstack hW (by rw [hb]; exact hdg)
    (fun vm₁ hW₁ => ⟨hf.1, hf.2, hPc (T.setVm vm₁) hT hW₁⟩)
  dsimp only [Pt.U, Pt.locs, Pt.cells, Pt.slots] at X' e1 e2 h1 h2 h3 st
  subst h1; subst h2; subst h3
  exact ⟨v, (T.setVm vm₁).calling g' mk (Value.ref b :: As).toArray, t, U', L, hT, X', hL, e1, e2, hq, st⟩
section
variable {y : MethodName} {bytes cc : ByteArray} {maxL nL mc ms n index : Nat} {ret : Option FieldType} {ws : List Cond} {rm : Room} {Pc : Array Value → State → Prop} {Qc : Array Value → State → Outcome → State → Prop} {XC : String → State → State → Prop} {free : Addr → Prop} {Ts : List Cond} {own C : String} {b : Addr} {As rest : List Value} {g : JFrame}
theorem vx_runVX {hh : List (Nat × Nat × Nat × Nat)} (S : CallFix p m c cc nL s args Ts own) (hM : vx_Met l y ws rm Pc Qc XC mc ms free) (cw : vx_CVW R s args own C index y bytes maxL ret hh ws rm mc ms n) (hp : PreV s H C b Pc As)
    (hg : g.method = m) (hn : As.length = n) (hsize : g.locals.size = nL) (hstack : g.stack = As.reverse ++ .ref b :: rest) (hW : 2 * g.monitorRoom + (rest.map fun v => v.category).sum ≤ 8) (hdg : decode cc g.pc = .ok (.invokevirtual index, 3)) (hf : cells + mc ≤ R.cells ∧ slots + ms ≤ R.slots) :
    vx_Run p l e R s m args below meth c H locs cells slots mc ms g rest (Qc (Value.ref b :: As).toArray) XC free := by
  obtain ⟨⟨hrc, hrs, hfr, hlo, hws, hcw⟩, hcode, hini, hy, hlen, hl, hin, hse⟩ := cw
  have hK : vx_Back l R p e below s args y 3 8 (PreOf R mc ms Pc) (PostOf Qc mc ms free) (vx_Post XC mc ms free) := vx_backW (hh := hh) (bytes := bytes) (maxL := maxL) (ret := ret) hM hp.1 hrc hrs hfr hlo hws hcw (fun a' U hW => word_at hW (Or.inl (by first | rfl | simp [Cond.onTables, Cond.keeps, Cond.steady])) hini)
  obtain ⟨hx, hb, hml, ho, -⟩ := S
  obtain ⟨-, ⟨cellB, hcB, hoB, hclB⟩, hPc⟩ := hp
  intro T hT X
  rcases vx_callVX X hx (C := C) (hh := hh) (bytes := bytes) (maxL := maxL) (ret := ret) ho hl hin hse hcode hy hK (by rw [hT]; exact hcB) hoB hclB hg (hsize.trans hml.symm) (argsL := As) (rest := rest) (fun sig h => hn.trans (hlen sig h)) hstack hW (by rw [hb]; exact hdg)
    (fun vm₁ hW₁ => ⟨hf.1, hf.2, hPc (T.setVm vm₁) hT hW₁⟩) with ⟨v, vm₁, ⟨U', l2, c2, s2⟩, hW₁, X', ⟨g', mk, t, L, e1, e2, hq, h1, hL, h2, h3⟩, st⟩ | ⟨q, vm₁, ⟨U', l2, c2, s2⟩, hW₁, X', ⟨g', mk, t, L, E, ce, e1, e2, hq, hce, hcv, hcl, h1, hL, h2, h3⟩, st⟩
  · dsimp only [Pt.U, Pt.locs, Pt.cells, Pt.slots] at X' e1 e2 h1 h2 h3 st
    subst h1; subst h2; subst h3
    exact Or.inl ⟨v, (T.setVm vm₁).calling g' mk (Value.ref b :: As).toArray, t, U', L, hT, X', hL, e1, e2, hq, st⟩
  · dsimp only [Pt.U, Pt.locs, Pt.cells, Pt.slots] at X' e1 e2 h1 h2 h3 st hcl
    subst h1; subst h2; subst h3
    exact Or.inr ⟨q, (T.setVm vm₁).calling g' mk (Value.ref b :: As).toArray, t, U', L, E, ce, hT, X', hL, e1, e2, hq, hce, hcv, vx_cls hW₁ hcl, st⟩
theorem vx_runSX {hh : List (Nat × Nat × Nat × Nat)} (S : CallFix p m c cc nL s args Ts own) (hM : vx_Met l y ws rm Pc Qc XC mc ms free) (cw : vx_CSW R s args own index y bytes maxL ret hh ws rm mc ms n) (hp : PreS s H Pc As)
    (hg : g.method = m) (hn : As.length = n) (hsize : g.locals.size = nL) (hstack : g.stack = As.reverse ++ rest) (hW : 2 * g.monitorRoom + (rest.map fun v => v.category).sum ≤ 8) (hdg : decode cc g.pc = .ok (.invokestatic index, 3)) (hf : cells + mc ≤ R.cells ∧ slots + ms ≤ R.slots) :
    vx_Run p l e R s m args below meth c H locs cells slots mc ms g rest (Qc As.toArray) XC free := by
  obtain ⟨⟨hrc, hrs, hfr, hlo, hws, hcw⟩, hcode, hini, hy, hlen, hl, hstt⟩ := cw
  have hK : vx_Back l R p e below s args y 3 8 (PreOf R mc ms Pc) (PostOf Qc mc ms free) (vx_Post XC mc ms free) := vx_backW (hh := hh) (bytes := bytes) (maxL := maxL) (ret := ret) hM hp.1 hrc hrs hfr hlo hws hcw (fun a' U hW => word_at hW (Or.inl (by first | rfl | simp [Cond.onTables, Cond.keeps, Cond.steady])) hini)
  obtain ⟨hx, hb, hml, ho, -⟩ := S
  intro T hT X
  rcases vx_callSX X hx (hh := hh) (bytes := bytes) (maxL := maxL) (ret := ret) ho hl hstt hini hcode hy hK hg (hsize.trans hml.symm) (argsL := As) (rest := rest) (fun sig h => hn.trans (hlen sig h)) hstack hW (by rw [hb]; exact hdg)
    (fun vm₁ hW₁ => ⟨hf.1, hf.2, hp.2 (T.setVm vm₁) hT hW₁⟩) with ⟨v, vm₁, ⟨U', l2, c2, s2⟩, hW₁, X', ⟨g', mk, t, L, e1, e2, hq, h1, hL, h2, h3⟩, st⟩ | ⟨q, vm₁, ⟨U', l2, c2, s2⟩, hW₁, X', ⟨g', mk, t, L, E, ce, e1, e2, hq, hce, hcv, hcl, h1, hL, h2, h3⟩, st⟩
  · dsimp only [Pt.U, Pt.locs, Pt.cells, Pt.slots] at X' e1 e2 h1 h2 h3 st
    subst h1; subst h2; subst h3
    exact Or.inl ⟨v, (T.setVm vm₁).calling g' mk As.toArray, t, U', L, hT, X', hL, e1, e2, hq, st⟩
  · dsimp only [Pt.U, Pt.locs, Pt.cells, Pt.slots] at X' e1 e2 h1 h2 h3 st hcl
    subst h1; subst h2; subst h3
    exact Or.inr ⟨q, (T.setVm vm₁).calling g' mk As.toArray, t, U', L, E, ce, hT, X', hL, e1, e2, hq, hce, hcv, vx_cls hW₁ hcl, st⟩
end
end VXH
theorem vx_ofWH {l : Launch} {y : MethodName} {ws ws' : List Cond} {rm : Room} {Pc : Array Value → State → Prop} {Qc : Array Value → State → Outcome → State → Prop} {XC : String → State → State → Prop} {mc ms : Nat} {free : Addr → Prop} {cc : ByteArray} {maxL : Nat} {ret : Option FieldType} {hh : List (Nat × Nat × Nat × Nat)}
    (hy : plainName y.cls = true) (hw : ws = Cond.codeWith y cc maxL ret hh :: ws')
    (body : ∀ p e s m args below meth c s₁, BodyLoose p l y (headSpec ws rm) cc maxL ret e s m args below meth c s₁ → c.maxLocals = maxL → Pc args s →
      W p l e (headSpec ws rm).room s m args below meth c s.heap [] 0 0 (vx_MQ below Qc XC args s mc ms free) (entryFrame m args maxL)) : vx_Met l y ws rm Pc Qc XC mc ms free := by
  refine MetFree.of_bodyS (code := cc) (maxLocals := maxL) (ret := ret) hy ?_ ?_
  · intro args s m h hn
    obtain ⟨m9, meth, c, hn9, h1, h2, h3, h4, -, h5, h6, -⟩ := Cond.codeWith_spec (atoms_spec (ws := ws) h _ (by rw [hw]; exact List.mem_cons_self))
    cases hn.symm.trans hn9
    exact ⟨meth, c, h1, h2, h3, h4, h5, h6⟩
  · intro p e s m args below meth c s₁ B hml hP _
    have hh0 : s₁.heap = s.heap := by rw [B.state]; rfl
    obtain ⟨t, a1, o, b1, b2, b3⟩ := body p e s m args below meth c s₁ B hml hP s₁ hh0 (Stand.of_body B)
    exact ⟨t, o, a1, b1, b2, b3⟩
/-! ===== END ===== -/
end
section
/-! ===== BEGIN printed: names, fields, word lists, decode rows ===== -/
def RX0 : String := "StaffHeads$Chord"
def TX0 : u_T := fun k => match k with
  | 0 => ("StaffHeads$Chord", "heads", "[I", true)
  | 1 => ("StaffHeads$Chord", "size", "I", false)
  | 2 => ("StaffHeads$Chord", "lowest", "I", false)
  | 3 => ("StaffHeads$Chord", "highest", "I", false)
  | 4 => ("StaffHeads$Chord", "onlyWhole", "Z", false)
  | 5 => ("StaffHeads$Chord", "up", "Z", false)
  | _ => ("StaffHeads$Chord", "moved", "I", false)
def tyX0 : Nat → FieldType := fun k => match k with
  | 0 => .array .int
  | 1 => .int
  | 2 => .int
  | 3 => .int
  | 4 => .boolean
  | 5 => .boolean
  | _ => .int
abbrev wsX00 : List Cond := u_ws RX0 TX0 7
theorem nmX0 : ∀ a, a < 7 → ∀ b, b < 7 → a ≠ b → (TX0 a).2.1 ≠ (TX0 b).2.1 := by decide +kernel
theorem tyX0_ok : ∀ k, k < 7 → parseFieldDescriptor (TX0 k).2.2.1 = some (tyX0 k) := by decide +kernel
abbrev cX0_init : ByteArray := prog_2_method_1_code
def yX0_init : MethodName := ⟨RX0, "<init>", "()V"⟩
abbrev cX0_clear : ByteArray := prog_2_method_2_code
def yX0_clear : MethodName := ⟨RX0, "clear", "()V"⟩
abbrev cX0_add : ByteArray := prog_2_method_3_code
def yX0_add : MethodName := ⟨RX0, "add", "(III)V"⟩
abbrev cX0_liesLow : ByteArray := prog_2_method_4_code
def yX0_liesLow : MethodName := ⟨RX0, "liesLow", "()Z"⟩
abbrev cX0_sortFromStemsFarEnd : ByteArray := prog_2_method_5_code
def yX0_sortFromStemsFarEnd : MethodName := ⟨RX0, "sortFromStemsFarEnd", "([I)V"⟩
abbrev cX0_isBefore : ByteArray := prog_2_method_6_code
def yX0_isBefore : MethodName := ⟨RX0, "isBefore", "(II)Z"⟩
abbrev cX0_turnHeads : ByteArray := prog_2_method_7_code
def yX0_turnHeads : MethodName := ⟨RX0, "turnHeads", "([I[I)V"⟩
abbrev cX0_reachUp : ByteArray := prog_2_method_8_code
def yX0_reachUp : MethodName := ⟨RX0, "reachUp", "()I"⟩
abbrev cX0_reachDown : ByteArray := prog_2_method_9_code
def yX0_reachDown : MethodName := ⟨RX0, "reachDown", "()I"⟩
def RX1 : String := "StaffHeads$Layout"
def TX1 : u_T := fun k => match k with
  | 0 => ("StaffHeads$Layout", "stale", "Z", false)
  | 1 => ("StaffHeads$Layout", "step", "[I", true)
  | 2 => ("StaffHeads$Layout", "stem", "[I", true)
  | 3 => ("StaffHeads$Layout", "aside", "[I", true)
  | 4 => ("StaffHeads$Layout", "moved", "[I", true)
  | 5 => ("StaffHeads$Layout", "chordSize", "[I", true)
  | 6 => ("StaffHeads$Layout", "signColumn", "[I", true)
  | 7 => ("StaffHeads$Layout", "high", "[I", true)
  | 8 => ("StaffHeads$Layout", "low", "[I", true)
  | 9 => ("StaffHeads$Layout", "noteCount", "[I", true)
  | 10 => ("StaffHeads$Layout", "chordCount", "[I", true)
  | 11 => ("StaffHeads$Layout", "signColumns", "[I", true)
  | 12 => ("StaffHeads$Layout", "mostMoved", "[I", true)
  | 13 => ("StaffHeads$Layout", "chords", "[LStaffHeads$Chord;", true)
  | _ => ("StaffHeads$Layout", "signs", "LStaffHeads$Signs;", true)
def tyX1 : Nat → FieldType := fun k => match k with
  | 0 => .boolean
  | 1 => .array .int
  | 2 => .array .int
  | 3 => .array .int
  | 4 => .array .int
  | 5 => .array .int
  | 6 => .array .int
  | 7 => .array .int
  | 8 => .array .int
  | 9 => .array .int
  | 10 => .array .int
  | 11 => .array .int
  | 12 => .array .int
  | 13 => .array (.object "StaffHeads$Chord")
  | _ => .object "StaffHeads$Signs"
abbrev wsX10 : List Cond := u_ws RX1 TX1 15
theorem nmX1 : ∀ a, a < 15 → ∀ b, b < 15 → a ≠ b → (TX1 a).2.1 ≠ (TX1 b).2.1 := by decide +kernel
theorem tyX1_ok : ∀ k, k < 15 → parseFieldDescriptor (TX1 k).2.2.1 = some (tyX1 k) := by decide +kernel
abbrev cX1_init : ByteArray := prog_3_method_1_code
def yX1_init : MethodName := ⟨RX1, "<init>", "()V"⟩
abbrev cX1_refresh : ByteArray := prog_3_method_2_code
def yX1_refresh : MethodName := ⟨RX1, "refresh", "(LStaffHeads$Notes;LStaffHeads$Staves;)V"⟩
abbrev cX1_clear : ByteArray := prog_3_method_3_code
def yX1_clear : MethodName := ⟨RX1, "clear", "()V"⟩
abbrev cX1_layCell : ByteArray := prog_3_method_4_code
def yX1_layCell : MethodName := ⟨RX1, "layCell", "(LStaffHeads$Notes;II)V"⟩
abbrev cX1_gather : ByteArray := prog_3_method_5_code
def yX1_gather : MethodName := ⟨RX1, "gather", "(LStaffHeads$Notes;II)V"⟩
abbrev cX1_turnStems : ByteArray := prog_3_method_6_code
def yX1_turnStems : MethodName := ⟨RX1, "turnStems", "(I)V"⟩
abbrev cX1_moveChords : ByteArray := prog_3_method_7_code
def yX1_moveChords : MethodName := ⟨RX1, "moveChords", "(LStaffHeads$Notes;)V"⟩
abbrev cX1_liesOverLesser : ByteArray := prog_3_method_8_code
def yX1_liesOverLesser : MethodName := ⟨RX1, "liesOverLesser", "(LStaffHeads$Notes;I)Z"⟩
abbrev cX1_lieOver : ByteArray := prog_3_method_9_code
def yX1_lieOver : MethodName := ⟨RX1, "lieOver", "(LStaffHeads$Notes;LStaffHeads$Chord;LStaffHeads$Chord;)Z"⟩
abbrev cX1_areShared : ByteArray := prog_3_method_10_code
def yX1_areShared : MethodName := ⟨RX1, "areShared", "(LStaffHeads$Notes;II)Z"⟩
abbrev cX1_keep : ByteArray := prog_3_method_11_code
def yX1_keep : MethodName := ⟨RX1, "keep", "(LStaffHeads$Chord;I)V"⟩
def RX2 : String := "StaffHeads$Notes"
def TX2 : u_T := fun k => match k with
  | 0 => ("StaffHeads$Notes", "staff", "[I", true)
  | 1 => ("StaffHeads$Notes", "voice", "[I", true)
  | 2 => ("StaffHeads$Notes", "tick", "[I", true)
  | 3 => ("StaffHeads$Notes", "number", "[I", true)
  | 4 => ("StaffHeads$Notes", "sign", "[I", true)
  | 5 => ("StaffHeads$Notes", "head", "[I", true)
  | _ => ("StaffHeads$Notes", "count", "I", false)
def tyX2 : Nat → FieldType := fun k => match k with
  | 0 => .array .int
  | 1 => .array .int
  | 2 => .array .int
  | 3 => .array .int
  | 4 => .array .int
  | 5 => .array .int
  | _ => .int
abbrev wsX20 : List Cond := u_ws RX2 TX2 7
theorem nmX2 : ∀ a, a < 7 → ∀ b, b < 7 → a ≠ b → (TX2 a).2.1 ≠ (TX2 b).2.1 := by decide +kernel
theorem tyX2_ok : ∀ k, k < 7 → parseFieldDescriptor (TX2 k).2.2.1 = some (tyX2 k) := by decide +kernel
abbrev cX2_init : ByteArray := prog_4_method_1_code
def yX2_init : MethodName := ⟨RX2, "<init>", "()V"⟩
abbrev cX2_has : ByteArray := prog_4_method_2_code
def yX2_has : MethodName := ⟨RX2, "has", "(I)Z"⟩
abbrev cX2_anyOn : ByteArray := prog_4_method_3_code
def yX2_anyOn : MethodName := ⟨RX2, "anyOn", "(I)Z"⟩
abbrev cX2_together : ByteArray := prog_4_method_4_code
def yX2_together : MethodName := ⟨RX2, "together", "(II)Z"⟩
abbrev cX2_add : ByteArray := prog_4_method_5_code
def yX2_add : MethodName := ⟨RX2, "add", "(IIIIII)V"⟩
abbrev cX2_remove : ByteArray := prog_4_method_6_code
def yX2_remove : MethodName := ⟨RX2, "remove", "(I)V"⟩
def RX3 : String := "StaffHeads$Signs"
def TX3 : u_T := fun k => match k with
  | 0 => ("StaffHeads$Signs", "bearers", "[I", true)
  | 1 => ("StaffHeads$Signs", "size", "I", false)
  | _ => ("StaffHeads$Signs", "takenInTurn", "[I", true)
def tyX3 : Nat → FieldType := fun k => match k with
  | 0 => .array .int
  | 1 => .int
  | _ => .array .int
abbrev wsX30 : List Cond := u_ws RX3 TX3 3
theorem nmX3 : ∀ a, a < 3 → ∀ b, b < 3 → a ≠ b → (TX3 a).2.1 ≠ (TX3 b).2.1 := by decide +kernel
theorem tyX3_ok : ∀ k, k < 3 → parseFieldDescriptor (TX3 k).2.2.1 = some (tyX3 k) := by decide +kernel
abbrev cX3_init : ByteArray := prog_5_method_1_code
def yX3_init : MethodName := ⟨RX3, "<init>", "()V"⟩
abbrev cX3_clear : ByteArray := prog_5_method_2_code
def yX3_clear : MethodName := ⟨RX3, "clear", "()V"⟩
abbrev cX3_add : ByteArray := prog_5_method_3_code
def yX3_add : MethodName := ⟨RX3, "add", "(I)V"⟩
abbrev cX3_placeAll : ByteArray := prog_5_method_4_code
def yX3_placeAll : MethodName := ⟨RX3, "placeAll", "([I[I[I)I"⟩
abbrev cX3_outermost : ByteArray := prog_5_method_5_code
def yX3_outermost : MethodName := ⟨RX3, "outermost", "(Z[I[I)I"⟩
abbrev cX3_columnFor : ByteArray := prog_5_method_6_code
def yX3_columnFor : MethodName := ⟨RX3, "columnFor", "(II[I[I[I)I"⟩
def RX4 : String := "StaffHeads$Staves"
def TX4 : u_T := fun k => match k with
  | 0 => ("StaffHeads$Staves", "lowestLine", "[I", true)
  | 1 => ("StaffHeads$Staves", "shiftStaff", "[I", true)
  | 2 => ("StaffHeads$Staves", "shiftFrom", "[I", true)
  | 3 => ("StaffHeads$Staves", "shiftTo", "[I", true)
  | 4 => ("StaffHeads$Staves", "shiftOctaves", "[I", true)
  | _ => ("StaffHeads$Staves", "shifts", "I", false)
def tyX4 : Nat → FieldType := fun k => match k with
  | 0 => .array .int
  | 1 => .array .int
  | 2 => .array .int
  | 3 => .array .int
  | 4 => .array .int
  | _ => .int
abbrev wsX40 : List Cond := u_ws RX4 TX4 6
theorem nmX4 : ∀ a, a < 6 → ∀ b, b < 6 → a ≠ b → (TX4 a).2.1 ≠ (TX4 b).2.1 := by decide +kernel
theorem tyX4_ok : ∀ k, k < 6 → parseFieldDescriptor (TX4 k).2.2.1 = some (tyX4 k) := by decide +kernel
abbrev cX4_init : ByteArray := prog_6_method_1_code
def yX4_init : MethodName := ⟨RX4, "<init>", "()V"⟩
abbrev cX4_putClef : ByteArray := prog_6_method_2_code
def yX4_putClef : MethodName := ⟨RX4, "putClef", "(III)V"⟩
abbrev cX4_addShift : ByteArray := prog_6_method_3_code
def yX4_addShift : MethodName := ⟨RX4, "addShift", "(IIII)V"⟩
abbrev cX4_stepOf : ByteArray := prog_6_method_4_code
def yX4_stepOf : MethodName := ⟨RX4, "stepOf", "(III)I"⟩
def RX5 : String := "StaffHeads"
def TX5 : u_T := fun k => match k with
  | 0 => ("StaffHeads", "unit", "I", true)
  | 1 => ("StaffHeads", "staves", "LStaffHeads$Staves;", true)
  | 2 => ("StaffHeads", "notes", "LStaffHeads$Notes;", true)
  | 3 => ("StaffHeads", "layout", "LStaffHeads$Layout;", true)
  | 4 => ("StaffHeads", "pad", "I", false)
  | 5 => ("StaffHeads", "least", "I", false)
  | _ => ("StaffHeads", "hiding", "Z", false)
def tyX5 : Nat → FieldType := fun k => match k with
  | 0 => .int
  | 1 => .object "StaffHeads$Staves"
  | 2 => .object "StaffHeads$Notes"
  | 3 => .object "StaffHeads$Layout"
  | 4 => .int
  | 5 => .int
  | _ => .boolean
abbrev wsX50 : List Cond := u_ws RX5 TX5 7
theorem nmX5 : ∀ a, a < 7 → ∀ b, b < 7 → a ≠ b → (TX5 a).2.1 ≠ (TX5 b).2.1 := by decide +kernel
theorem tyX5_ok : ∀ k, k < 7 → parseFieldDescriptor (TX5 k).2.2.1 = some (tyX5 k) := by decide +kernel
abbrev cX5_init : ByteArray := prog_1_method_1_code
def yX5_init : MethodName := ⟨RX5, "<init>", "(I)V"⟩
abbrev cX5_clef : ByteArray := prog_1_method_2_code
def yX5_clef : MethodName := ⟨RX5, "clef", "(III)I"⟩
abbrev cX5_shift : ByteArray := prog_1_method_3_code
def yX5_shift : MethodName := ⟨RX5, "shift", "(IIII)I"⟩
abbrev cX5_plain : ByteArray := prog_1_method_4_code
def yX5_plain : MethodName := ⟨RX5, "plain", "()I"⟩
abbrev cX5_note : ByteArray := prog_1_method_5_code
def yX5_note : MethodName := ⟨RX5, "note", "(IIIIIII)I"⟩
abbrev cX5_drop : ByteArray := prog_1_method_6_code
def yX5_drop : MethodName := ⟨RX5, "drop", "(I)I"⟩
abbrev cX5_of : ByteArray := prog_1_method_7_code
def yX5_of : MethodName := ⟨RX5, "of", "(II)I"⟩
abbrev cX5_height : ByteArray := prog_1_method_8_code
def yX5_height : MethodName := ⟨RX5, "height", "(I)J"⟩
abbrev cX5_at : ByteArray := prog_1_method_9_code
def yX5_at : MethodName := ⟨RX5, "at", "(III)I"⟩
abbrev cX5_shared : ByteArray := prog_1_method_10_code
def yX5_shared : MethodName := ⟨RX5, "shared", "(II)I"⟩
abbrev cX5_setting : ByteArray := prog_1_method_11_code
def yX5_setting : MethodName := ⟨RX5, "setting", "(II)I"⟩
abbrev cX5_hides : ByteArray := prog_1_method_12_code
def yX5_hides : MethodName := ⟨RX5, "hides", "(Z)I"⟩
abbrev cX5_gap : ByteArray := prog_1_method_13_code
def yX5_gap : MethodName := ⟨RX5, "gap", "(I)I"⟩
abbrev cX5_place : ByteArray := prog_1_method_14_code
def yX5_place : MethodName := ⟨RX5, "place", "(I)J"⟩
abbrev cX5_crowded : ByteArray := prog_1_method_15_code
def yX5_crowded : MethodName := ⟨RX5, "crowded", "(I)I"⟩
abbrev cX5_about : ByteArray := prog_1_method_16_code
def yX5_about : MethodName := ⟨RX5, "about", "(I)I"⟩
abbrev cX5_within : ByteArray := prog_1_method_17_code
def yX5_within : MethodName := ⟨RX5, "within", "(III)Z"⟩
abbrev cX5_isStaff : ByteArray := prog_1_method_18_code
def yX5_isStaff : MethodName := ⟨RX5, "isStaff", "(I)Z"⟩
abbrev cX5_isTick : ByteArray := prog_1_method_19_code
def yX5_isTick : MethodName := ⟨RX5, "isTick", "(I)Z"⟩
abbrev cX5_isPitch : ByteArray := prog_1_method_20_code
def yX5_isPitch : MethodName := ⟨RX5, "isPitch", "(II)Z"⟩
abbrev cX5_cellOf : ByteArray := prog_1_method_21_code
def yX5_cellOf : MethodName := ⟨RX5, "cellOf", "(II)I"⟩
abbrev cX5_isHidden : ByteArray := prog_1_method_22_code
def yX5_isHidden : MethodName := ⟨RX5, "isHidden", "(I)Z"⟩
abbrev cX5_shownStaves : ByteArray := prog_1_method_23_code
def yX5_shownStaves : MethodName := ⟨RX5, "shownStaves", "()I"⟩
abbrev cX5_shownAbove : ByteArray := prog_1_method_24_code
def yX5_shownAbove : MethodName := ⟨RX5, "shownAbove", "(I)I"⟩
abbrev cX5_gapBetween : ByteArray := prog_1_method_25_code
def yX5_gapBetween : MethodName := ⟨RX5, "gapBetween", "(II)I"⟩
abbrev cX5_stepsDownTo : ByteArray := prog_1_method_26_code
def yX5_stepsDownTo : MethodName := ⟨RX5, "stepsDownTo", "(I)I"⟩
def RX6 : String := "StaffHeadsModel"
def TX6 : u_T := fun k => match k with
  | 0 => ("StaffHeadsModel", "thrown", "I", false)
  | 1 => ("StaffHeadsModel", "unit", "I", true)
  | 2 => ("StaffHeadsModel", "clefKind", "[I", true)
  | 3 => ("StaffHeadsModel", "clefLine", "[I", true)
  | 4 => ("StaffHeadsModel", "shifts", "I", false)
  | 5 => ("StaffHeadsModel", "shiftStaff", "[I", true)
  | 6 => ("StaffHeadsModel", "shiftFrom", "[I", true)
  | 7 => ("StaffHeadsModel", "shiftTo", "[I", true)
  | 8 => ("StaffHeadsModel", "shiftBy", "[I", true)
  | 9 => ("StaffHeadsModel", "notes", "I", false)
  | 10 => ("StaffHeadsModel", "staffOf", "[I", true)
  | 11 => ("StaffHeadsModel", "voiceOf", "[I", true)
  | 12 => ("StaffHeadsModel", "tickOf", "[I", true)
  | 13 => ("StaffHeadsModel", "numberOf", "[I", true)
  | 14 => ("StaffHeadsModel", "signOf", "[I", true)
  | 15 => ("StaffHeadsModel", "headOf", "[I", true)
  | 16 => ("StaffHeadsModel", "pad", "I", false)
  | 17 => ("StaffHeadsModel", "least", "I", false)
  | 18 => ("StaffHeadsModel", "hiding", "Z", false)
  | 19 => ("StaffHeadsModel", "stepOf", "[I", true)
  | 20 => ("StaffHeadsModel", "movedBy", "[I", true)
  | 21 => ("StaffHeadsModel", "columnOf", "[I", true)
  | _ => ("StaffHeadsModel", "signColumn", "[I", true)
def tyX6 : Nat → FieldType := fun k => match k with
  | 0 => .int
  | 1 => .int
  | 2 => .array .int
  | 3 => .array .int
  | 4 => .int
  | 5 => .array .int
  | 6 => .array .int
  | 7 => .array .int
  | 8 => .array .int
  | 9 => .int
  | 10 => .array .int
  | 11 => .array .int
  | 12 => .array .int
  | 13 => .array .int
  | 14 => .array .int
  | 15 => .array .int
  | 16 => .int
  | 17 => .int
  | 18 => .boolean
  | 19 => .array .int
  | 20 => .array .int
  | 21 => .array .int
  | _ => .array .int
abbrev wsX60 : List Cond := u_ws RX6 TX6 23
theorem nmX6 : ∀ a, a < 23 → ∀ b, b < 23 → a ≠ b → (TX6 a).2.1 ≠ (TX6 b).2.1 := by decide +kernel
theorem tyX6_ok : ∀ k, k < 23 → parseFieldDescriptor (TX6 k).2.2.1 = some (tyX6 k) := by decide +kernel
abbrev cX6_init : ByteArray := prog_8_method_1_code
def yX6_init : MethodName := ⟨RX6, "<init>", "(I)V"⟩
abbrev cX6_thrown : ByteArray := prog_8_method_2_code
def yX6_thrown : MethodName := ⟨RX6, "thrown", "()I"⟩
abbrev cX6_in : ByteArray := prog_8_method_3_code
def yX6_in : MethodName := ⟨RX6, "in", "(III)Z"⟩
abbrev cX6_isStaff : ByteArray := prog_8_method_4_code
def yX6_isStaff : MethodName := ⟨RX6, "isStaff", "(I)Z"⟩
abbrev cX6_isNote : ByteArray := prog_8_method_5_code
def yX6_isNote : MethodName := ⟨RX6, "isNote", "(I)Z"⟩
abbrev cX6_clef : ByteArray := prog_8_method_6_code
def yX6_clef : MethodName := ⟨RX6, "clef", "(III)I"⟩
abbrev cX6_shift : ByteArray := prog_8_method_7_code
def yX6_shift : MethodName := ⟨RX6, "shift", "(IIII)I"⟩
abbrev cX6_plain : ByteArray := prog_8_method_8_code
def yX6_plain : MethodName := ⟨RX6, "plain", "()I"⟩
abbrev cX6_note : ByteArray := prog_8_method_9_code
def yX6_note : MethodName := ⟨RX6, "note", "(IIIIIII)I"⟩
abbrev cX6_drop : ByteArray := prog_8_method_10_code
def yX6_drop : MethodName := ⟨RX6, "drop", "(I)I"⟩
abbrev cX6_reckon : ByteArray := prog_8_method_11_code
def yX6_reckon : MethodName := ⟨RX6, "reckon", "()V"⟩
abbrev cX6_step : ByteArray := prog_8_method_12_code
def yX6_step : MethodName := ⟨RX6, "step", "(I)I"⟩
abbrev cX6_reckonStep : ByteArray := prog_8_method_13_code
def yX6_reckonStep : MethodName := ⟨RX6, "reckonStep", "(I)I"⟩
abbrev cX6_isAt : ByteArray := prog_8_method_14_code
def yX6_isAt : MethodName := ⟨RX6, "isAt", "(III)Z"⟩
abbrev cX6_isIn : ByteArray := prog_8_method_15_code
def yX6_isIn : MethodName := ⟨RX6, "isIn", "(IIII)Z"⟩
abbrev cX6_many : ByteArray := prog_8_method_16_code
def yX6_many : MethodName := ⟨RX6, "many", "(III)I"⟩
abbrev cX6_end : ByteArray := prog_8_method_17_code
def yX6_end : MethodName := ⟨RX6, "end", "(IIIZ)I"⟩
abbrev cX6_stem : ByteArray := prog_8_method_18_code
def yX6_stem : MethodName := ⟨RX6, "stem", "(III)I"⟩
abbrev cX6_stemOf : ByteArray := prog_8_method_19_code
def yX6_stemOf : MethodName := ⟨RX6, "stemOf", "(I)I"⟩
abbrev cX6_isAhead : ByteArray := prog_8_method_20_code
def yX6_isAhead : MethodName := ⟨RX6, "isAhead", "(IIZ)Z"⟩
abbrev cX6_aside : ByteArray := prog_8_method_21_code
def yX6_aside : MethodName := ⟨RX6, "aside", "(I)I"⟩
abbrev cX6_areShared : ByteArray := prog_8_method_22_code
def yX6_areShared : MethodName := ⟨RX6, "areShared", "(II)Z"⟩
abbrev cX6_move : ByteArray := prog_8_method_23_code
def yX6_move : MethodName := ⟨RX6, "move", "(II)V"⟩
abbrev cX6_liesOver : ByteArray := prog_8_method_24_code
def yX6_liesOver : MethodName := ⟨RX6, "liesOver", "(III)Z"⟩
abbrev cX6_placeSigns : ByteArray := prog_8_method_25_code
def yX6_placeSigns : MethodName := ⟨RX6, "placeSigns", "(II)V"⟩
abbrev cX6_columnFor : ByteArray := prog_8_method_26_code
def yX6_columnFor : MethodName := ⟨RX6, "columnFor", "(III)I"⟩
abbrev cX6_of : ByteArray := prog_8_method_27_code
def yX6_of : MethodName := ⟨RX6, "of", "(II)I"⟩
abbrev cX6_high : ByteArray := prog_8_method_28_code
def yX6_high : MethodName := ⟨RX6, "high", "(II)I"⟩
abbrev cX6_low : ByteArray := prog_8_method_29_code
def yX6_low : MethodName := ⟨RX6, "low", "(II)I"⟩
abbrev cX6_at : ByteArray := prog_8_method_30_code
def yX6_at : MethodName := ⟨RX6, "at", "(III)I"⟩
abbrev cX6_shared : ByteArray := prog_8_method_31_code
def yX6_shared : MethodName := ⟨RX6, "shared", "(II)I"⟩
abbrev cX6_setting : ByteArray := prog_8_method_32_code
def yX6_setting : MethodName := ⟨RX6, "setting", "(II)I"⟩
abbrev cX6_hides : ByteArray := prog_8_method_33_code
def yX6_hides : MethodName := ⟨RX6, "hides", "(Z)I"⟩
abbrev cX6_isHidden : ByteArray := prog_8_method_34_code
def yX6_isHidden : MethodName := ⟨RX6, "isHidden", "(I)Z"⟩
abbrev cX6_gapAbove : ByteArray := prog_8_method_35_code
def yX6_gapAbove : MethodName := ⟨RX6, "gapAbove", "(I)I"⟩
abbrev cX6_isFirstAt : ByteArray := prog_8_method_36_code
def yX6_isFirstAt : MethodName := ⟨RX6, "isFirstAt", "(III)Z"⟩
abbrev cX6_placeOf : ByteArray := prog_8_method_37_code
def yX6_placeOf : MethodName := ⟨RX6, "placeOf", "(I)J"⟩
abbrev cX6_gap : ByteArray := prog_8_method_38_code
def yX6_gap : MethodName := ⟨RX6, "gap", "(I)I"⟩
abbrev cX6_place : ByteArray := prog_8_method_39_code
def yX6_place : MethodName := ⟨RX6, "place", "(I)J"⟩
abbrev cX6_height : ByteArray := prog_8_method_40_code
def yX6_height : MethodName := ⟨RX6, "height", "(I)J"⟩
abbrev cX6_crowded : ByteArray := prog_8_method_41_code
def yX6_crowded : MethodName := ⟨RX6, "crowded", "(I)I"⟩
abbrev cX6_about : ByteArray := prog_8_method_42_code
def yX6_about : MethodName := ⟨RX6, "about", "(I)I"⟩
def RJ9 : String := "java/lang/Math"
def TJ9 : u_T := fun k => match k with
  | _ => ("", "", "", false)
def tyJ9 : Nat → FieldType := fun k => match k with
  | _ => .int
abbrev wsJ90 : List Cond := u_ws RJ9 TJ9 0
theorem nmJ9 : ∀ a, a < 0 → ∀ b, b < 0 → a ≠ b → (TJ9 a).2.1 ≠ (TJ9 b).2.1 := by decide +kernel
theorem tyJ9_ok : ∀ k, k < 0 → parseFieldDescriptor (TJ9 k).2.2.1 = some (tyJ9 k) := by decide +kernel
abbrev cJ9_abs_0f7a4 : ByteArray := prog_11_method_59_code
def yJ9_abs_0f7a4 : MethodName := ⟨RJ9, "abs", "(I)I"⟩
abbrev cJ9_max_7cf53 : ByteArray := prog_11_method_65_code
def yJ9_max_7cf53 : MethodName := ⟨RJ9, "max", "(II)I"⟩
abbrev cJ9_min_7cf53 : ByteArray := prog_11_method_69_code
def yJ9_min_7cf53 : MethodName := ⟨RJ9, "min", "(II)I"⟩
def RJ0 : String := "java/lang/String"
def TJ0 : u_T := fun k => match k with
  | _ => ("", "", "", false)
def tyJ0 : Nat → FieldType := fun k => match k with
  | _ => .int
abbrev wsJ00 : List Cond := u_ws RJ0 TJ0 0
theorem nmJ0 : ∀ a, a < 0 → ∀ b, b < 0 → a ≠ b → (TJ0 a).2.1 ≠ (TJ0 b).2.1 := by decide +kernel
theorem tyJ0_ok : ∀ k, k < 0 → parseFieldDescriptor (TJ0 k).2.2.1 = some (tyJ0 k) := by decide +kernel
def RJ7 : String := "java/util/Arrays"
def TJ7 : u_T := fun k => match k with
  | _ => ("", "", "", false)
def tyJ7 : Nat → FieldType := fun k => match k with
  | _ => .int
abbrev wsJ70 : List Cond := u_ws RJ7 TJ7 0
theorem nmJ7 : ∀ a, a < 0 → ∀ b, b < 0 → a ≠ b → (TJ7 a).2.1 ≠ (TJ7 b).2.1 := by decide +kernel
theorem tyJ7_ok : ∀ k, k < 0 → parseFieldDescriptor (TJ7 k).2.2.1 = some (tyJ7 k) := by decide +kernel
abbrev cJ7_fill_53178 : ByteArray := prog_15_method_103_code
def yJ7_fill_53178 : MethodName := ⟨RJ7, "fill", "([II)V"⟩
def RL : String := "StaffHeadsLaw"
abbrev cL_cell : ByteArray := method_2_code
def yL_cell : MethodName := ⟨RL, "cell", "([II)I"⟩
abbrev cL_crowded : ByteArray := method_3_code
def yL_crowded : MethodName := ⟨RL, "crowded", "(LStaffHeads;I[J)I"⟩
abbrev cL_law : ByteArray := code
def yL_law : MethodName := ⟨RL, "law", "([I)Z"⟩
def wsX0_init : List Cond := .code yX0_init cX0_init 1 none :: ([.methodLink RX0 3 objectInit, .instanceMethod objectInit, .code objectInit ⟨#[0xb1]⟩ 1 none, .arrayClass .int, .fieldLink RX0 9 "StaffHeads$Chord" "heads" "[I"] ++ wsX00)
def wsX0_clear : List Cond := .code yX0_clear cX0_clear 1 none :: ([.fieldLink RX0 15 "StaffHeads$Chord" "size" "I", .fieldLink RX0 19 "StaffHeads$Chord" "onlyWhole" "Z", .fieldLink RX0 23 "StaffHeads$Chord" "moved" "I"] ++ wsX00)
def wsX0_add : List Cond := .code yX0_add cX0_add 4 none :: ([.fieldLink RX0 15 "StaffHeads$Chord" "size" "I", .fieldLink RX0 26 "StaffHeads$Chord" "lowest" "I", .methodLink RX0 29 Lib.Math.min.name, .static Lib.Math.min.name, .initialized "java/lang/Math", .code Lib.Math.min.name Lib.Math.min.code 2 (some .int), .fieldLink RX0 35 "StaffHeads$Chord" "highest" "I", .methodLink RX0 38 Lib.Math.max.name, .static Lib.Math.max.name, .code Lib.Math.max.name Lib.Math.max.code 2 (some .int), .fieldLink RX0 19 "StaffHeads$Chord" "onlyWhole" "Z", .fieldLink RX0 9 "StaffHeads$Chord" "heads" "[I"] ++ wsX00)
def wsX0_liesLow : List Cond := .code yX0_liesLow cX0_liesLow 1 (some .boolean) :: ([.fieldLink RX0 35 "StaffHeads$Chord" "highest" "I", .fieldLink RX0 26 "StaffHeads$Chord" "lowest" "I"] ++ wsX00)
def wsX0_isBefore : List Cond := .code yX0_isBefore cX0_isBefore 3 (some .boolean) :: ([.fieldLink RX0 45 "StaffHeads$Chord" "up" "Z"] ++ wsX00)
def wsX0_sortFromStemsFarEnd : List Cond := .code yX0_sortFromStemsFarEnd cX0_sortFromStemsFarEnd 5 none :: ([.fieldLink RX0 15 "StaffHeads$Chord" "size" "I", .fieldLink RX0 9 "StaffHeads$Chord" "heads" "[I", .methodLink RX0 41 yX0_isBefore, .instanceMethod yX0_isBefore, .selects RX0 yX0_isBefore yX0_isBefore, .initialized RX0, .code yX0_isBefore cX0_isBefore 3 (some .boolean), .fieldLink RX0 45 "StaffHeads$Chord" "up" "Z"] ++ wsX00)
def wsX0_turnHeads : List Cond := .code yX0_turnHeads cX0_turnHeads 7 none :: ([.fieldLink RX0 15 "StaffHeads$Chord" "size" "I", .fieldLink RX0 9 "StaffHeads$Chord" "heads" "[I", .methodLink RX0 48 Lib.Math.abs.name, .static Lib.Math.abs.name, .initialized "java/lang/Math", .code Lib.Math.abs.name Lib.Math.abs.code 1 (some .int), .fieldLink RX0 45 "StaffHeads$Chord" "up" "Z"] ++ wsX00)
def wsX0_reachUp : List Cond := .code yX0_reachUp cX0_reachUp 1 (some .int) :: ([.fieldLink RX0 45 "StaffHeads$Chord" "up" "Z", .fieldLink RX0 19 "StaffHeads$Chord" "onlyWhole" "Z", .fieldLink RX0 35 "StaffHeads$Chord" "highest" "I", .methodLink RX0 38 Lib.Math.max.name, .static Lib.Math.max.name, .initialized "java/lang/Math", .code Lib.Math.max.name Lib.Math.max.code 2 (some .int)] ++ wsX00)
def wsX0_reachDown : List Cond := .code yX0_reachDown cX0_reachDown 1 (some .int) :: ([.fieldLink RX0 45 "StaffHeads$Chord" "up" "Z", .fieldLink RX0 19 "StaffHeads$Chord" "onlyWhole" "Z", .fieldLink RX0 26 "StaffHeads$Chord" "lowest" "I", .methodLink RX0 29 Lib.Math.min.name, .static Lib.Math.min.name, .initialized "java/lang/Math", .code Lib.Math.min.name Lib.Math.min.code 2 (some .int)] ++ wsX00)
def wsX3_init : List Cond := .code yX3_init cX3_init 1 none :: ([.methodLink RX3 3 objectInit, .instanceMethod objectInit, .code objectInit ⟨#[0xb1]⟩ 1 none, .arrayClass .int, .fieldLink RX3 9 "StaffHeads$Signs" "bearers" "[I", .fieldLink RX3 15 "StaffHeads$Signs" "takenInTurn" "[I"] ++ wsX30)
def wsX1_init_r1 : List Cond := [Cond.methodLink RX1 3 objectInit, Cond.instanceMethod objectInit, Cond.code objectInit ⟨#[0xb1]⟩ 1 none, Cond.fieldLink RX1 9 "StaffHeads$Layout" "stale" "Z", Cond.arrayClass .int, Cond.fieldLink RX1 15 "StaffHeads$Layout" "step" "[I", Cond.fieldLink RX1 19 "StaffHeads$Layout" "stem" "[I", Cond.fieldLink RX1 22 "StaffHeads$Layout" "aside" "[I", Cond.fieldLink RX1 25 "StaffHeads$Layout" "moved" "[I", Cond.fieldLink RX1 28 "StaffHeads$Layout" "chordSize" "[I", Cond.fieldLink RX1 31 "StaffHeads$Layout" "signColumn" "[I", Cond.fieldLink RX1 34 "StaffHeads$Layout" "high" "[I", Cond.fieldLink RX1 37 "StaffHeads$Layout" "low" "[I", Cond.fieldLink RX1 40 "StaffHeads$Layout" "noteCount" "[I", Cond.fieldLink RX1 43 "StaffHeads$Layout" "chordCount" "[I", Cond.fieldLink RX1 46 "StaffHeads$Layout" "signColumns" "[I", Cond.fieldLink RX1 49 "StaffHeads$Layout" "mostMoved" "[I", Cond.classLink RX1 52 RX0, Cond.instantiable RX0 7, Cond.initialized RX0, Cond.fieldLink RX1 55 "StaffHeads$Layout" "chords" "[LStaffHeads$Chord;", Cond.classLink RX1 59 RX3, Cond.instantiable RX3 3, Cond.initialized RX3]
def wsX1_init_r2 : List Cond := [Cond.fieldLink RX1 62 "StaffHeads$Layout" "signs" "LStaffHeads$Signs;", Cond.instanceMethod yX0_init, Cond.code yX0_init cX0_init 1 none, Cond.methodLink RX0 3 objectInit, Cond.fieldLink RX0 9 "StaffHeads$Chord" "heads" "[I", Cond.instanceMethod yX3_init, Cond.code yX3_init cX3_init 1 none, Cond.methodLink RX3 3 objectInit, Cond.fieldLink RX3 9 "StaffHeads$Signs" "bearers" "[I", Cond.fieldLink RX3 15 "StaffHeads$Signs" "takenInTurn" "[I"]
def wsX1_init : List Cond := .code yX1_init cX1_init 1 none :: ((wsX1_init_r1 ++ wsX1_init_r2) ++ wsX10 ++ wsX00 ++ wsX30)
def wsJ7_fill_53178 : List Cond := .code yJ7_fill_53178 cJ7_fill_53178 4 none :: ([])
def wsX1_clear : List Cond := .code yX1_clear cX1_clear 1 none :: ([.fieldLink RX1 31 "StaffHeads$Layout" "signColumn" "[I", .fieldLink RX1 34 "StaffHeads$Layout" "high" "[I", .fieldLink RX1 37 "StaffHeads$Layout" "low" "[I", .fieldLink RX1 40 "StaffHeads$Layout" "noteCount" "[I", .fieldLink RX1 43 "StaffHeads$Layout" "chordCount" "[I", .fieldLink RX1 46 "StaffHeads$Layout" "signColumns" "[I", .fieldLink RX1 49 "StaffHeads$Layout" "mostMoved" "[I", .methodLink RX1 98 yJ7_fill_53178, .static yJ7_fill_53178, .initialized RJ7, .code yJ7_fill_53178 cJ7_fill_53178 4 none] ++ wsX10)
def wsX5_within : List Cond := .code yX5_within cX5_within 3 (some .boolean) :: ([])
def wsX4_stepOf : List Cond := .code yX4_stepOf cX4_stepOf 6 (some .int) :: ([.fieldLink RX4 27 "StaffHeads$Staves" "shifts" "I", .fieldLink RX4 15 "StaffHeads$Staves" "shiftStaff" "[I", .fieldLink RX4 18 "StaffHeads$Staves" "shiftFrom" "[I", .fieldLink RX4 21 "StaffHeads$Staves" "shiftTo" "[I", .fieldLink RX4 24 "StaffHeads$Staves" "shiftOctaves" "[I", .fieldLink RX4 9 "StaffHeads$Staves" "lowestLine" "[I", .static yX5_within, .initialized RX5, .code yX5_within cX5_within 3 (some .boolean)] ++ wsX40)
def wsX5_cellOf : List Cond := .code yX5_cellOf cX5_cellOf 2 (some .int) :: ([])
def wsX3_clear : List Cond := .code yX3_clear cX3_clear 1 none :: ([.fieldLink RX3 18 "StaffHeads$Signs" "size" "I"] ++ wsX30)
def wsX2_together : List Cond := .code yX2_together cX2_together 3 (some .boolean) :: ([.fieldLink RX2 9 "StaffHeads$Notes" "staff" "[I", .fieldLink RX2 18 "StaffHeads$Notes" "tick" "[I"] ++ wsX20)
def wsX3_add : List Cond := .code yX3_add cX3_add 2 none :: ([.fieldLink RX3 9 "StaffHeads$Signs" "bearers" "[I", .fieldLink RX3 18 "StaffHeads$Signs" "size" "I"] ++ wsX30)
def wsX1_gather_r1 : List Cond := [Cond.fieldLink RX1 55 "StaffHeads$Layout" "chords" "[LStaffHeads$Chord;", Cond.fieldLink RX1 62 "StaffHeads$Layout" "signs" "LStaffHeads$Signs;", Cond.fieldLink RX1 69 "StaffHeads$Notes" "count" "I", Cond.fieldLink RX1 143 "StaffHeads$Notes" "voice" "[I", Cond.fieldLink RX1 15 "StaffHeads$Layout" "step" "[I", Cond.fieldLink RX1 146 "StaffHeads$Notes" "head" "[I", Cond.fieldLink RX1 40 "StaffHeads$Layout" "noteCount" "[I", Cond.fieldLink RX1 130 "StaffHeads$Notes" "sign" "[I", Cond.methodLink RX1 137 yX0_clear, Cond.instanceMethod yX0_clear, Cond.selects RX0 yX0_clear yX0_clear, Cond.initialized RX0, Cond.code yX0_clear cX0_clear 1 none, Cond.fieldLink RX0 15 "StaffHeads$Chord" "size" "I", Cond.fieldLink RX0 19 "StaffHeads$Chord" "onlyWhole" "Z", Cond.fieldLink RX0 23 "StaffHeads$Chord" "moved" "I", Cond.methodLink RX1 138 yX3_clear, Cond.instanceMethod yX3_clear, Cond.selects RX3 yX3_clear yX3_clear, Cond.initialized RX3, Cond.code yX3_clear cX3_clear 1 none, Cond.fieldLink RX3 18 "StaffHeads$Signs" "size" "I", Cond.methodLink RX1 139 yX2_together, Cond.instanceMethod yX2_together]
def wsX1_gather_r2 : List Cond := [Cond.selects RX2 yX2_together yX2_together, Cond.initialized RX2, Cond.code yX2_together cX2_together 3 (some .boolean), Cond.fieldLink RX2 9 "StaffHeads$Notes" "staff" "[I", Cond.fieldLink RX2 18 "StaffHeads$Notes" "tick" "[I", Cond.methodLink RX1 149 yX0_add, Cond.instanceMethod yX0_add, Cond.selects RX0 yX0_add yX0_add, Cond.code yX0_add cX0_add 4 none, Cond.fieldLink RX0 26 "StaffHeads$Chord" "lowest" "I", Cond.methodLink RX0 29 Lib.Math.min.name, Cond.static Lib.Math.min.name, Cond.initialized "java/lang/Math", Cond.code Lib.Math.min.name Lib.Math.min.code 2 (some .int), Cond.fieldLink RX0 35 "StaffHeads$Chord" "highest" "I", Cond.methodLink RX0 38 Lib.Math.max.name, Cond.static Lib.Math.max.name, Cond.code Lib.Math.max.name Lib.Math.max.code 2 (some .int), Cond.fieldLink RX0 9 "StaffHeads$Chord" "heads" "[I", Cond.methodLink RX1 153 yX3_add, Cond.instanceMethod yX3_add, Cond.selects RX3 yX3_add yX3_add, Cond.code yX3_add cX3_add 2 none, Cond.fieldLink RX3 9 "StaffHeads$Signs" "bearers" "[I"]
def wsX1_gather : List Cond := .code yX1_gather cX1_gather 5 none :: ((wsX1_gather_r1 ++ wsX1_gather_r2) ++ wsX10 ++ wsX20 ++ wsX00 ++ wsX30)
def wsX1_turnStems : List Cond := .code yX1_turnStems cX1_turnStems 6 none :: ([.fieldLink RX1 43 "StaffHeads$Layout" "chordCount" "[I", .fieldLink RX1 55 "StaffHeads$Layout" "chords" "[LStaffHeads$Chord;", .fieldLink RX1 123 "StaffHeads$Chord" "size" "I", .fieldLink RX1 159 "StaffHeads$Chord" "up" "Z", .fieldLink RX1 19 "StaffHeads$Layout" "stem" "[I", .fieldLink RX1 162 "StaffHeads$Chord" "heads" "[I", .methodLink RX1 155 yX0_liesLow, .instanceMethod yX0_liesLow, .selects RX0 yX0_liesLow yX0_liesLow, .initialized RX0, .code yX0_liesLow cX0_liesLow 1 (some .boolean), .fieldLink RX0 35 "StaffHeads$Chord" "highest" "I", .fieldLink RX0 26 "StaffHeads$Chord" "lowest" "I"] ++ wsX10 ++ wsX00)
def wsX1_areShared : List Cond := .code yX1_areShared cX1_areShared 4 (some .boolean) :: ([.fieldLink RX1 15 "StaffHeads$Layout" "step" "[I", .fieldLink RX1 146 "StaffHeads$Notes" "head" "[I", .fieldLink RX1 130 "StaffHeads$Notes" "sign" "[I", .fieldLink RX1 19 "StaffHeads$Layout" "stem" "[I"] ++ wsX10 ++ wsX20)
def wsX1_lieOver : List Cond := .code yX1_lieOver cX1_lieOver 8 (some .boolean) :: ([.fieldLink RX1 123 "StaffHeads$Chord" "size" "I", .fieldLink RX1 162 "StaffHeads$Chord" "heads" "[I", .fieldLink RX1 165 "StaffHeads$Chord" "moved" "I", .fieldLink RX1 22 "StaffHeads$Layout" "aside" "[I", .fieldLink RX1 15 "StaffHeads$Layout" "step" "[I", .methodLink RX1 175 Lib.Math.abs.name, .static Lib.Math.abs.name, .initialized "java/lang/Math", .code Lib.Math.abs.name Lib.Math.abs.code 1 (some .int), .methodLink RX1 181 yX1_areShared, .instanceMethod yX1_areShared, .selects RX1 yX1_areShared yX1_areShared, .initialized RX1, .code yX1_areShared cX1_areShared 4 (some .boolean), .fieldLink RX1 146 "StaffHeads$Notes" "head" "[I", .fieldLink RX1 130 "StaffHeads$Notes" "sign" "[I", .fieldLink RX1 19 "StaffHeads$Layout" "stem" "[I"] ++ wsX00 ++ wsX10 ++ wsX20)
def wsX1_liesOverLesser : List Cond := .code yX1_liesOverLesser cX1_liesOverLesser 4 (some .boolean) :: ([.fieldLink RX1 55 "StaffHeads$Layout" "chords" "[LStaffHeads$Chord;", .methodLink RX1 171 yX1_lieOver, .instanceMethod yX1_lieOver, .selects RX1 yX1_lieOver yX1_lieOver, .initialized RX1, .code yX1_lieOver cX1_lieOver 8 (some .boolean), .fieldLink RX1 123 "StaffHeads$Chord" "size" "I", .fieldLink RX1 162 "StaffHeads$Chord" "heads" "[I", .fieldLink RX1 165 "StaffHeads$Chord" "moved" "I", .fieldLink RX1 22 "StaffHeads$Layout" "aside" "[I", .fieldLink RX1 15 "StaffHeads$Layout" "step" "[I", .methodLink RX1 175 Lib.Math.abs.name, .static Lib.Math.abs.name, .initialized "java/lang/Math", .code Lib.Math.abs.name Lib.Math.abs.code 1 (some .int), .methodLink RX1 181 yX1_areShared, .instanceMethod yX1_areShared, .selects RX1 yX1_areShared yX1_areShared, .code yX1_areShared cX1_areShared 4 (some .boolean), .fieldLink RX1 146 "StaffHeads$Notes" "head" "[I", .fieldLink RX1 130 "StaffHeads$Notes" "sign" "[I", .fieldLink RX1 19 "StaffHeads$Layout" "stem" "[I"] ++ wsX10 ++ wsX00 ++ wsX20)
def wsX1_moveChords_r1 : List Cond := [Cond.fieldLink RX1 55 "StaffHeads$Layout" "chords" "[LStaffHeads$Chord;", Cond.fieldLink RX1 165 "StaffHeads$Chord" "moved" "I", Cond.methodLink RX1 167 yX1_liesOverLesser, Cond.instanceMethod yX1_liesOverLesser, Cond.selects RX1 yX1_liesOverLesser yX1_liesOverLesser, Cond.initialized RX1, Cond.code yX1_liesOverLesser cX1_liesOverLesser 4 (some .boolean), Cond.methodLink RX1 171 yX1_lieOver, Cond.instanceMethod yX1_lieOver, Cond.selects RX1 yX1_lieOver yX1_lieOver, Cond.code yX1_lieOver cX1_lieOver 8 (some .boolean), Cond.fieldLink RX1 123 "StaffHeads$Chord" "size" "I", Cond.fieldLink RX1 162 "StaffHeads$Chord" "heads" "[I", Cond.fieldLink RX1 22 "StaffHeads$Layout" "aside" "[I", Cond.fieldLink RX1 15 "StaffHeads$Layout" "step" "[I", Cond.methodLink RX1 175 Lib.Math.abs.name, Cond.static Lib.Math.abs.name, Cond.initialized "java/lang/Math", Cond.code Lib.Math.abs.name Lib.Math.abs.code 1 (some .int), Cond.methodLink RX1 181 yX1_areShared, Cond.instanceMethod yX1_areShared, Cond.selects RX1 yX1_areShared yX1_areShared, Cond.code yX1_areShared cX1_areShared 4 (some .boolean), Cond.fieldLink RX1 146 "StaffHeads$Notes" "head" "[I"]
def wsX1_moveChords_r2 : List Cond := [Cond.fieldLink RX1 130 "StaffHeads$Notes" "sign" "[I", Cond.fieldLink RX1 19 "StaffHeads$Layout" "stem" "[I"]
def wsX1_moveChords : List Cond := .code yX1_moveChords cX1_moveChords 4 none :: ((wsX1_moveChords_r1 ++ wsX1_moveChords_r2) ++ wsX10 ++ wsX00 ++ wsX20)
def wsX1_keep_r1 : List Cond := [Cond.fieldLink RX1 123 "StaffHeads$Chord" "size" "I", Cond.fieldLink RX1 25 "StaffHeads$Layout" "moved" "[I", Cond.fieldLink RX1 162 "StaffHeads$Chord" "heads" "[I", Cond.fieldLink RX1 165 "StaffHeads$Chord" "moved" "I", Cond.fieldLink RX1 28 "StaffHeads$Layout" "chordSize" "[I", Cond.fieldLink RX1 34 "StaffHeads$Layout" "high" "[I", Cond.methodLink RX1 189 Lib.Math.max.name, Cond.static Lib.Math.max.name, Cond.initialized "java/lang/Math", Cond.code Lib.Math.max.name Lib.Math.max.code 2 (some .int), Cond.fieldLink RX1 37 "StaffHeads$Layout" "low" "[I", Cond.methodLink RX1 195 Lib.Math.min.name, Cond.static Lib.Math.min.name, Cond.code Lib.Math.min.name Lib.Math.min.code 2 (some .int), Cond.fieldLink RX1 49 "StaffHeads$Layout" "mostMoved" "[I", Cond.methodLink RX1 185 yX0_reachUp, Cond.instanceMethod yX0_reachUp, Cond.selects RX0 yX0_reachUp yX0_reachUp, Cond.initialized RX0, Cond.code yX0_reachUp cX0_reachUp 1 (some .int), Cond.fieldLink RX0 45 "StaffHeads$Chord" "up" "Z", Cond.fieldLink RX0 19 "StaffHeads$Chord" "onlyWhole" "Z", Cond.fieldLink RX0 35 "StaffHeads$Chord" "highest" "I", Cond.methodLink RX0 38 Lib.Math.max.name]
def wsX1_keep_r2 : List Cond := [Cond.methodLink RX1 192 yX0_reachDown, Cond.instanceMethod yX0_reachDown, Cond.selects RX0 yX0_reachDown yX0_reachDown, Cond.code yX0_reachDown cX0_reachDown 1 (some .int), Cond.fieldLink RX0 26 "StaffHeads$Chord" "lowest" "I", Cond.methodLink RX0 29 Lib.Math.min.name]
def wsX1_keep : List Cond := .code yX1_keep cX1_keep 4 none :: ((wsX1_keep_r1 ++ wsX1_keep_r2) ++ wsX00 ++ wsX10)
def wsX3_outermost : List Cond := .code yX3_outermost cX3_outermost 7 (some .int) :: ([.fieldLink RX3 18 "StaffHeads$Signs" "size" "I", .fieldLink RX3 9 "StaffHeads$Signs" "bearers" "[I"] ++ wsX30)
def wsX3_columnFor : List Cond := .code yX3_columnFor cX3_columnFor 8 (some .int) :: ([.fieldLink RX3 18 "StaffHeads$Signs" "size" "I", .fieldLink RX3 9 "StaffHeads$Signs" "bearers" "[I", .methodLink RX3 42 Lib.Math.abs.name, .static Lib.Math.abs.name, .initialized "java/lang/Math", .code Lib.Math.abs.name Lib.Math.abs.code 1 (some .int), .fieldLink RX3 15 "StaffHeads$Signs" "takenInTurn" "[I"] ++ wsX30)
def wsX3_placeAll : List Cond := .code yX3_placeAll cX3_placeAll 7 (some .int) :: ([.fieldLink RX3 15 "StaffHeads$Signs" "takenInTurn" "[I", .fieldLink RX3 18 "StaffHeads$Signs" "size" "I", .methodLink RX3 36 Lib.Math.max.name, .static Lib.Math.max.name, .initialized "java/lang/Math", .code Lib.Math.max.name Lib.Math.max.code 2 (some .int), .methodLink RX3 22 yJ7_fill_53178, .static yJ7_fill_53178, .initialized RJ7, .code yJ7_fill_53178 cJ7_fill_53178 4 none, .methodLink RX3 28 yX3_outermost, .instanceMethod yX3_outermost, .selects RX3 yX3_outermost yX3_outermost, .initialized RX3, .code yX3_outermost cX3_outermost 7 (some .int), .fieldLink RX3 9 "StaffHeads$Signs" "bearers" "[I", .methodLink RX3 32 yX3_columnFor, .instanceMethod yX3_columnFor, .selects RX3 yX3_columnFor yX3_columnFor, .code yX3_columnFor cX3_columnFor 8 (some .int), .methodLink RX3 42 Lib.Math.abs.name, .static Lib.Math.abs.name, .code Lib.Math.abs.name Lib.Math.abs.code 1 (some .int)] ++ wsX30)
def wsX1_layCell_r1 : List Cond := [Cond.fieldLink RX1 55 "StaffHeads$Layout" "chords" "[LStaffHeads$Chord;", Cond.fieldLink RX1 15 "StaffHeads$Layout" "step" "[I", Cond.fieldLink RX1 22 "StaffHeads$Layout" "aside" "[I", Cond.fieldLink RX1 123 "StaffHeads$Chord" "size" "I", Cond.fieldLink RX1 46 "StaffHeads$Layout" "signColumns" "[I", Cond.fieldLink RX1 62 "StaffHeads$Layout" "signs" "LStaffHeads$Signs;", Cond.fieldLink RX1 130 "StaffHeads$Notes" "sign" "[I", Cond.fieldLink RX1 31 "StaffHeads$Layout" "signColumn" "[I", Cond.methodLink RX1 104 yX1_gather, Cond.instanceMethod yX1_gather, Cond.selects RX1 yX1_gather yX1_gather, Cond.initialized RX1, Cond.code yX1_gather cX1_gather 5 none, Cond.fieldLink RX1 69 "StaffHeads$Notes" "count" "I", Cond.fieldLink RX1 143 "StaffHeads$Notes" "voice" "[I", Cond.fieldLink RX1 146 "StaffHeads$Notes" "head" "[I", Cond.fieldLink RX1 40 "StaffHeads$Layout" "noteCount" "[I", Cond.methodLink RX1 137 yX0_clear, Cond.instanceMethod yX0_clear, Cond.selects RX0 yX0_clear yX0_clear, Cond.initialized RX0, Cond.code yX0_clear cX0_clear 1 none, Cond.fieldLink RX0 15 "StaffHeads$Chord" "size" "I", Cond.fieldLink RX0 19 "StaffHeads$Chord" "onlyWhole" "Z"]
def wsX1_layCell_r2 : List Cond := [Cond.fieldLink RX0 23 "StaffHeads$Chord" "moved" "I", Cond.methodLink RX1 138 yX3_clear, Cond.instanceMethod yX3_clear, Cond.selects RX3 yX3_clear yX3_clear, Cond.initialized RX3, Cond.code yX3_clear cX3_clear 1 none, Cond.fieldLink RX3 18 "StaffHeads$Signs" "size" "I", Cond.methodLink RX1 139 yX2_together, Cond.instanceMethod yX2_together, Cond.selects RX2 yX2_together yX2_together, Cond.initialized RX2, Cond.code yX2_together cX2_together 3 (some .boolean), Cond.fieldLink RX2 9 "StaffHeads$Notes" "staff" "[I", Cond.fieldLink RX2 18 "StaffHeads$Notes" "tick" "[I", Cond.methodLink RX1 149 yX0_add, Cond.instanceMethod yX0_add, Cond.selects RX0 yX0_add yX0_add, Cond.code yX0_add cX0_add 4 none, Cond.fieldLink RX0 26 "StaffHeads$Chord" "lowest" "I", Cond.methodLink RX0 29 Lib.Math.min.name, Cond.static Lib.Math.min.name, Cond.initialized "java/lang/Math", Cond.code Lib.Math.min.name Lib.Math.min.code 2 (some .int), Cond.fieldLink RX0 35 "StaffHeads$Chord" "highest" "I"]
def wsX1_layCell_r3 : List Cond := [Cond.methodLink RX0 38 Lib.Math.max.name, Cond.static Lib.Math.max.name, Cond.code Lib.Math.max.name Lib.Math.max.code 2 (some .int), Cond.fieldLink RX0 9 "StaffHeads$Chord" "heads" "[I", Cond.methodLink RX1 153 yX3_add, Cond.instanceMethod yX3_add, Cond.selects RX3 yX3_add yX3_add, Cond.code yX3_add cX3_add 2 none, Cond.fieldLink RX3 9 "StaffHeads$Signs" "bearers" "[I", Cond.methodLink RX1 107 yX1_turnStems, Cond.instanceMethod yX1_turnStems, Cond.selects RX1 yX1_turnStems yX1_turnStems, Cond.code yX1_turnStems cX1_turnStems 6 none, Cond.fieldLink RX1 43 "StaffHeads$Layout" "chordCount" "[I", Cond.fieldLink RX1 159 "StaffHeads$Chord" "up" "Z", Cond.fieldLink RX1 19 "StaffHeads$Layout" "stem" "[I", Cond.fieldLink RX1 162 "StaffHeads$Chord" "heads" "[I", Cond.methodLink RX1 155 yX0_liesLow, Cond.instanceMethod yX0_liesLow, Cond.selects RX0 yX0_liesLow yX0_liesLow, Cond.code yX0_liesLow cX0_liesLow 1 (some .boolean), Cond.methodLink RX1 111 yX0_sortFromStemsFarEnd, Cond.instanceMethod yX0_sortFromStemsFarEnd, Cond.selects RX0 yX0_sortFromStemsFarEnd yX0_sortFromStemsFarEnd]
def wsX1_layCell_r4 : List Cond := [Cond.code yX0_sortFromStemsFarEnd cX0_sortFromStemsFarEnd 5 none, Cond.methodLink RX0 41 yX0_isBefore, Cond.instanceMethod yX0_isBefore, Cond.selects RX0 yX0_isBefore yX0_isBefore, Cond.code yX0_isBefore cX0_isBefore 3 (some .boolean), Cond.fieldLink RX0 45 "StaffHeads$Chord" "up" "Z", Cond.methodLink RX1 115 yX0_turnHeads, Cond.instanceMethod yX0_turnHeads, Cond.selects RX0 yX0_turnHeads yX0_turnHeads, Cond.code yX0_turnHeads cX0_turnHeads 7 none, Cond.methodLink RX0 48 Lib.Math.abs.name, Cond.static Lib.Math.abs.name, Cond.code Lib.Math.abs.name Lib.Math.abs.code 1 (some .int), Cond.methodLink RX1 119 yX1_moveChords, Cond.instanceMethod yX1_moveChords, Cond.selects RX1 yX1_moveChords yX1_moveChords, Cond.code yX1_moveChords cX1_moveChords 4 none, Cond.fieldLink RX1 165 "StaffHeads$Chord" "moved" "I", Cond.methodLink RX1 167 yX1_liesOverLesser, Cond.instanceMethod yX1_liesOverLesser, Cond.selects RX1 yX1_liesOverLesser yX1_liesOverLesser, Cond.code yX1_liesOverLesser cX1_liesOverLesser 4 (some .boolean), Cond.methodLink RX1 171 yX1_lieOver, Cond.instanceMethod yX1_lieOver]
def wsX1_layCell_r5 : List Cond := [Cond.selects RX1 yX1_lieOver yX1_lieOver, Cond.code yX1_lieOver cX1_lieOver 8 (some .boolean), Cond.methodLink RX1 175 Lib.Math.abs.name, Cond.methodLink RX1 181 yX1_areShared, Cond.instanceMethod yX1_areShared, Cond.selects RX1 yX1_areShared yX1_areShared, Cond.code yX1_areShared cX1_areShared 4 (some .boolean), Cond.methodLink RX1 126 yX1_keep, Cond.instanceMethod yX1_keep, Cond.selects RX1 yX1_keep yX1_keep, Cond.code yX1_keep cX1_keep 4 none, Cond.fieldLink RX1 25 "StaffHeads$Layout" "moved" "[I", Cond.fieldLink RX1 28 "StaffHeads$Layout" "chordSize" "[I", Cond.fieldLink RX1 34 "StaffHeads$Layout" "high" "[I", Cond.methodLink RX1 189 Lib.Math.max.name, Cond.fieldLink RX1 37 "StaffHeads$Layout" "low" "[I", Cond.methodLink RX1 195 Lib.Math.min.name, Cond.fieldLink RX1 49 "StaffHeads$Layout" "mostMoved" "[I", Cond.methodLink RX1 185 yX0_reachUp, Cond.instanceMethod yX0_reachUp, Cond.selects RX0 yX0_reachUp yX0_reachUp, Cond.code yX0_reachUp cX0_reachUp 1 (some .int), Cond.methodLink RX1 192 yX0_reachDown, Cond.instanceMethod yX0_reachDown]
def wsX1_layCell_r6 : List Cond := [Cond.selects RX0 yX0_reachDown yX0_reachDown, Cond.code yX0_reachDown cX0_reachDown 1 (some .int), Cond.methodLink RX1 133 yX3_placeAll, Cond.instanceMethod yX3_placeAll, Cond.selects RX3 yX3_placeAll yX3_placeAll, Cond.code yX3_placeAll cX3_placeAll 7 (some .int), Cond.fieldLink RX3 15 "StaffHeads$Signs" "takenInTurn" "[I", Cond.methodLink RX3 36 Lib.Math.max.name, Cond.methodLink RX3 22 yJ7_fill_53178, Cond.static yJ7_fill_53178, Cond.initialized RJ7, Cond.code yJ7_fill_53178 cJ7_fill_53178 4 none, Cond.methodLink RX3 28 yX3_outermost, Cond.instanceMethod yX3_outermost, Cond.selects RX3 yX3_outermost yX3_outermost, Cond.code yX3_outermost cX3_outermost 7 (some .int), Cond.methodLink RX3 32 yX3_columnFor, Cond.instanceMethod yX3_columnFor, Cond.selects RX3 yX3_columnFor yX3_columnFor, Cond.code yX3_columnFor cX3_columnFor 8 (some .int), Cond.methodLink RX3 42 Lib.Math.abs.name]
def wsX1_layCell : List Cond := .code yX1_layCell cX1_layCell 5 none :: ((wsX1_layCell_r1 ++ (wsX1_layCell_r2 ++ (wsX1_layCell_r3 ++ (wsX1_layCell_r4 ++ (wsX1_layCell_r5 ++ wsX1_layCell_r6))))) ++ wsX10 ++ wsX00 ++ wsX20 ++ wsX30)
def wsX1_refresh_r1 : List Cond := [Cond.fieldLink RX1 9 "StaffHeads$Layout" "stale" "Z", Cond.fieldLink RX1 69 "StaffHeads$Notes" "count" "I", Cond.fieldLink RX1 15 "StaffHeads$Layout" "step" "[I", Cond.fieldLink RX1 75 "StaffHeads$Notes" "staff" "[I", Cond.fieldLink RX1 78 "StaffHeads$Notes" "tick" "[I", Cond.fieldLink RX1 81 "StaffHeads$Notes" "number" "[I", Cond.fieldLink RX1 40 "StaffHeads$Layout" "noteCount" "[I", Cond.methodLink RX1 66 yX1_clear, Cond.instanceMethod yX1_clear, Cond.selects RX1 yX1_clear yX1_clear, Cond.initialized RX1, Cond.code yX1_clear cX1_clear 1 none, Cond.fieldLink RX1 31 "StaffHeads$Layout" "signColumn" "[I", Cond.fieldLink RX1 34 "StaffHeads$Layout" "high" "[I", Cond.fieldLink RX1 37 "StaffHeads$Layout" "low" "[I", Cond.fieldLink RX1 43 "StaffHeads$Layout" "chordCount" "[I", Cond.fieldLink RX1 46 "StaffHeads$Layout" "signColumns" "[I", Cond.fieldLink RX1 49 "StaffHeads$Layout" "mostMoved" "[I", Cond.methodLink RX1 98 yJ7_fill_53178, Cond.static yJ7_fill_53178, Cond.initialized RJ7, Cond.code yJ7_fill_53178 cJ7_fill_53178 4 none, Cond.methodLink RX1 84 yX4_stepOf, Cond.instanceMethod yX4_stepOf]
def wsX1_refresh_r2 : List Cond := [Cond.selects RX4 yX4_stepOf yX4_stepOf, Cond.initialized RX4, Cond.code yX4_stepOf cX4_stepOf 6 (some .int), Cond.fieldLink RX4 27 "StaffHeads$Staves" "shifts" "I", Cond.fieldLink RX4 15 "StaffHeads$Staves" "shiftStaff" "[I", Cond.fieldLink RX4 18 "StaffHeads$Staves" "shiftFrom" "[I", Cond.fieldLink RX4 21 "StaffHeads$Staves" "shiftTo" "[I", Cond.fieldLink RX4 24 "StaffHeads$Staves" "shiftOctaves" "[I", Cond.fieldLink RX4 9 "StaffHeads$Staves" "lowestLine" "[I", Cond.static yX5_within, Cond.initialized RX5, Cond.code yX5_within cX5_within 3 (some .boolean), Cond.static yX5_cellOf, Cond.code yX5_cellOf cX5_cellOf 2 (some .int), Cond.methodLink RX1 94 yX1_layCell, Cond.instanceMethod yX1_layCell, Cond.selects RX1 yX1_layCell yX1_layCell, Cond.code yX1_layCell cX1_layCell 5 none, Cond.fieldLink RX1 55 "StaffHeads$Layout" "chords" "[LStaffHeads$Chord;", Cond.fieldLink RX1 22 "StaffHeads$Layout" "aside" "[I", Cond.fieldLink RX1 123 "StaffHeads$Chord" "size" "I", Cond.fieldLink RX1 62 "StaffHeads$Layout" "signs" "LStaffHeads$Signs;", Cond.fieldLink RX1 130 "StaffHeads$Notes" "sign" "[I", Cond.methodLink RX1 104 yX1_gather]
def wsX1_refresh_r3 : List Cond := [Cond.instanceMethod yX1_gather, Cond.selects RX1 yX1_gather yX1_gather, Cond.code yX1_gather cX1_gather 5 none, Cond.fieldLink RX1 143 "StaffHeads$Notes" "voice" "[I", Cond.fieldLink RX1 146 "StaffHeads$Notes" "head" "[I", Cond.methodLink RX1 137 yX0_clear, Cond.instanceMethod yX0_clear, Cond.selects RX0 yX0_clear yX0_clear, Cond.initialized RX0, Cond.code yX0_clear cX0_clear 1 none, Cond.fieldLink RX0 15 "StaffHeads$Chord" "size" "I", Cond.fieldLink RX0 19 "StaffHeads$Chord" "onlyWhole" "Z", Cond.fieldLink RX0 23 "StaffHeads$Chord" "moved" "I", Cond.methodLink RX1 138 yX3_clear, Cond.instanceMethod yX3_clear, Cond.selects RX3 yX3_clear yX3_clear, Cond.initialized RX3, Cond.code yX3_clear cX3_clear 1 none, Cond.fieldLink RX3 18 "StaffHeads$Signs" "size" "I", Cond.methodLink RX1 139 yX2_together, Cond.instanceMethod yX2_together, Cond.selects RX2 yX2_together yX2_together, Cond.initialized RX2, Cond.code yX2_together cX2_together 3 (some .boolean)]
def wsX1_refresh_r4 : List Cond := [Cond.fieldLink RX2 9 "StaffHeads$Notes" "staff" "[I", Cond.fieldLink RX2 18 "StaffHeads$Notes" "tick" "[I", Cond.methodLink RX1 149 yX0_add, Cond.instanceMethod yX0_add, Cond.selects RX0 yX0_add yX0_add, Cond.code yX0_add cX0_add 4 none, Cond.fieldLink RX0 26 "StaffHeads$Chord" "lowest" "I", Cond.methodLink RX0 29 Lib.Math.min.name, Cond.static Lib.Math.min.name, Cond.initialized "java/lang/Math", Cond.code Lib.Math.min.name Lib.Math.min.code 2 (some .int), Cond.fieldLink RX0 35 "StaffHeads$Chord" "highest" "I", Cond.methodLink RX0 38 Lib.Math.max.name, Cond.static Lib.Math.max.name, Cond.code Lib.Math.max.name Lib.Math.max.code 2 (some .int), Cond.fieldLink RX0 9 "StaffHeads$Chord" "heads" "[I", Cond.methodLink RX1 153 yX3_add, Cond.instanceMethod yX3_add, Cond.selects RX3 yX3_add yX3_add, Cond.code yX3_add cX3_add 2 none, Cond.fieldLink RX3 9 "StaffHeads$Signs" "bearers" "[I", Cond.methodLink RX1 107 yX1_turnStems, Cond.instanceMethod yX1_turnStems, Cond.selects RX1 yX1_turnStems yX1_turnStems]
def wsX1_refresh_r5 : List Cond := [Cond.code yX1_turnStems cX1_turnStems 6 none, Cond.fieldLink RX1 159 "StaffHeads$Chord" "up" "Z", Cond.fieldLink RX1 19 "StaffHeads$Layout" "stem" "[I", Cond.fieldLink RX1 162 "StaffHeads$Chord" "heads" "[I", Cond.methodLink RX1 155 yX0_liesLow, Cond.instanceMethod yX0_liesLow, Cond.selects RX0 yX0_liesLow yX0_liesLow, Cond.code yX0_liesLow cX0_liesLow 1 (some .boolean), Cond.methodLink RX1 111 yX0_sortFromStemsFarEnd, Cond.instanceMethod yX0_sortFromStemsFarEnd, Cond.selects RX0 yX0_sortFromStemsFarEnd yX0_sortFromStemsFarEnd, Cond.code yX0_sortFromStemsFarEnd cX0_sortFromStemsFarEnd 5 none, Cond.methodLink RX0 41 yX0_isBefore, Cond.instanceMethod yX0_isBefore, Cond.selects RX0 yX0_isBefore yX0_isBefore, Cond.code yX0_isBefore cX0_isBefore 3 (some .boolean), Cond.fieldLink RX0 45 "StaffHeads$Chord" "up" "Z", Cond.methodLink RX1 115 yX0_turnHeads, Cond.instanceMethod yX0_turnHeads, Cond.selects RX0 yX0_turnHeads yX0_turnHeads, Cond.code yX0_turnHeads cX0_turnHeads 7 none, Cond.methodLink RX0 48 Lib.Math.abs.name, Cond.static Lib.Math.abs.name, Cond.code Lib.Math.abs.name Lib.Math.abs.code 1 (some .int)]
def wsX1_refresh_r6 : List Cond := [Cond.methodLink RX1 119 yX1_moveChords, Cond.instanceMethod yX1_moveChords, Cond.selects RX1 yX1_moveChords yX1_moveChords, Cond.code yX1_moveChords cX1_moveChords 4 none, Cond.fieldLink RX1 165 "StaffHeads$Chord" "moved" "I", Cond.methodLink RX1 167 yX1_liesOverLesser, Cond.instanceMethod yX1_liesOverLesser, Cond.selects RX1 yX1_liesOverLesser yX1_liesOverLesser, Cond.code yX1_liesOverLesser cX1_liesOverLesser 4 (some .boolean), Cond.methodLink RX1 171 yX1_lieOver, Cond.instanceMethod yX1_lieOver, Cond.selects RX1 yX1_lieOver yX1_lieOver, Cond.code yX1_lieOver cX1_lieOver 8 (some .boolean), Cond.methodLink RX1 175 Lib.Math.abs.name, Cond.methodLink RX1 181 yX1_areShared, Cond.instanceMethod yX1_areShared, Cond.selects RX1 yX1_areShared yX1_areShared, Cond.code yX1_areShared cX1_areShared 4 (some .boolean), Cond.methodLink RX1 126 yX1_keep, Cond.instanceMethod yX1_keep, Cond.selects RX1 yX1_keep yX1_keep, Cond.code yX1_keep cX1_keep 4 none, Cond.fieldLink RX1 25 "StaffHeads$Layout" "moved" "[I", Cond.fieldLink RX1 28 "StaffHeads$Layout" "chordSize" "[I"]
def wsX1_refresh_r7 : List Cond := [Cond.methodLink RX1 189 Lib.Math.max.name, Cond.methodLink RX1 195 Lib.Math.min.name, Cond.methodLink RX1 185 yX0_reachUp, Cond.instanceMethod yX0_reachUp, Cond.selects RX0 yX0_reachUp yX0_reachUp, Cond.code yX0_reachUp cX0_reachUp 1 (some .int), Cond.methodLink RX1 192 yX0_reachDown, Cond.instanceMethod yX0_reachDown, Cond.selects RX0 yX0_reachDown yX0_reachDown, Cond.code yX0_reachDown cX0_reachDown 1 (some .int), Cond.methodLink RX1 133 yX3_placeAll, Cond.instanceMethod yX3_placeAll, Cond.selects RX3 yX3_placeAll yX3_placeAll, Cond.code yX3_placeAll cX3_placeAll 7 (some .int), Cond.fieldLink RX3 15 "StaffHeads$Signs" "takenInTurn" "[I", Cond.methodLink RX3 36 Lib.Math.max.name, Cond.methodLink RX3 22 yJ7_fill_53178, Cond.methodLink RX3 28 yX3_outermost, Cond.instanceMethod yX3_outermost, Cond.selects RX3 yX3_outermost yX3_outermost, Cond.code yX3_outermost cX3_outermost 7 (some .int), Cond.methodLink RX3 32 yX3_columnFor, Cond.instanceMethod yX3_columnFor, Cond.selects RX3 yX3_columnFor yX3_columnFor]
def wsX1_refresh_r8 : List Cond := [Cond.code yX3_columnFor cX3_columnFor 8 (some .int), Cond.methodLink RX3 42 Lib.Math.abs.name]
def wsX1_refresh : List Cond := .code yX1_refresh cX1_refresh 5 none :: ((wsX1_refresh_r1 ++ (wsX1_refresh_r2 ++ (wsX1_refresh_r3 ++ (wsX1_refresh_r4 ++ (wsX1_refresh_r5 ++ (wsX1_refresh_r6 ++ (wsX1_refresh_r7 ++ wsX1_refresh_r8))))))) ++ wsX10 ++ wsX20 ++ wsX40 ++ wsX00 ++ wsX30)
def wsX2_init : List Cond := .code yX2_init cX2_init 1 none :: ([.methodLink RX2 3 objectInit, .instanceMethod objectInit, .code objectInit ⟨#[0xb1]⟩ 1 none, .arrayClass .int, .fieldLink RX2 9 "StaffHeads$Notes" "staff" "[I", .fieldLink RX2 15 "StaffHeads$Notes" "voice" "[I", .fieldLink RX2 18 "StaffHeads$Notes" "tick" "[I", .fieldLink RX2 21 "StaffHeads$Notes" "number" "[I", .fieldLink RX2 24 "StaffHeads$Notes" "sign" "[I", .fieldLink RX2 27 "StaffHeads$Notes" "head" "[I", .fieldLink RX2 30 "StaffHeads$Notes" "count" "I"] ++ wsX20)
def wsX2_has : List Cond := .code yX2_has cX2_has 2 (some .boolean) :: ([.fieldLink RX2 30 "StaffHeads$Notes" "count" "I", .static yX5_within, .initialized RX5, .code yX5_within cX5_within 3 (some .boolean)] ++ wsX20)
def wsX2_anyOn : List Cond := .code yX2_anyOn cX2_anyOn 3 (some .boolean) :: ([.fieldLink RX2 30 "StaffHeads$Notes" "count" "I", .fieldLink RX2 9 "StaffHeads$Notes" "staff" "[I"] ++ wsX20)
def wsX2_add : List Cond := .code yX2_add cX2_add 7 none :: ([.fieldLink RX2 9 "StaffHeads$Notes" "staff" "[I", .fieldLink RX2 30 "StaffHeads$Notes" "count" "I", .fieldLink RX2 15 "StaffHeads$Notes" "voice" "[I", .fieldLink RX2 18 "StaffHeads$Notes" "tick" "[I", .fieldLink RX2 21 "StaffHeads$Notes" "number" "[I", .fieldLink RX2 24 "StaffHeads$Notes" "sign" "[I", .fieldLink RX2 27 "StaffHeads$Notes" "head" "[I"] ++ wsX20)
def wsX2_remove : List Cond := .code yX2_remove cX2_remove 3 none :: ([.fieldLink RX2 30 "StaffHeads$Notes" "count" "I", .fieldLink RX2 9 "StaffHeads$Notes" "staff" "[I", .fieldLink RX2 15 "StaffHeads$Notes" "voice" "[I", .fieldLink RX2 18 "StaffHeads$Notes" "tick" "[I", .fieldLink RX2 21 "StaffHeads$Notes" "number" "[I", .fieldLink RX2 24 "StaffHeads$Notes" "sign" "[I", .fieldLink RX2 27 "StaffHeads$Notes" "head" "[I"] ++ wsX20)
def wsX4_putClef : List Cond := .code yX4_putClef cX4_putClef 4 none :: ([.fieldLink RX4 9 "StaffHeads$Staves" "lowestLine" "[I"] ++ wsX40)
def wsX4_init : List Cond := .code yX4_init cX4_init 2 none :: ([.methodLink RX4 3 objectInit, .instanceMethod objectInit, .code objectInit ⟨#[0xb1]⟩ 1 none, .arrayClass .int, .fieldLink RX4 9 "StaffHeads$Staves" "lowestLine" "[I", .fieldLink RX4 15 "StaffHeads$Staves" "shiftStaff" "[I", .fieldLink RX4 18 "StaffHeads$Staves" "shiftFrom" "[I", .fieldLink RX4 21 "StaffHeads$Staves" "shiftTo" "[I", .fieldLink RX4 24 "StaffHeads$Staves" "shiftOctaves" "[I", .fieldLink RX4 27 "StaffHeads$Staves" "shifts" "I", .methodLink RX4 31 yX4_putClef, .instanceMethod yX4_putClef, .selects RX4 yX4_putClef yX4_putClef, .initialized RX4, .code yX4_putClef cX4_putClef 4 none] ++ wsX40)
def wsX4_addShift : List Cond := .code yX4_addShift cX4_addShift 5 none :: ([.fieldLink RX4 15 "StaffHeads$Staves" "shiftStaff" "[I", .fieldLink RX4 27 "StaffHeads$Staves" "shifts" "I", .fieldLink RX4 18 "StaffHeads$Staves" "shiftFrom" "[I", .fieldLink RX4 21 "StaffHeads$Staves" "shiftTo" "[I", .fieldLink RX4 24 "StaffHeads$Staves" "shiftOctaves" "[I"] ++ wsX40)
def wsX5_init_r1 : List Cond := [Cond.methodLink RX5 1 objectInit, Cond.instanceMethod objectInit, Cond.code objectInit ⟨#[0xb1]⟩ 1 none, Cond.classLink RX5 7 RX4, Cond.instantiable RX4 6, Cond.initialized RX4, Cond.fieldLink RX5 10 "StaffHeads" "staves" "LStaffHeads$Staves;", Cond.classLink RX5 16 RX2, Cond.instantiable RX2 7, Cond.initialized RX2, Cond.fieldLink RX5 19 "StaffHeads" "notes" "LStaffHeads$Notes;", Cond.classLink RX5 23 RX1, Cond.instantiable RX1 15, Cond.initialized RX1, Cond.fieldLink RX5 26 "StaffHeads" "layout" "LStaffHeads$Layout;", Cond.fieldLink RX5 30 "StaffHeads" "pad" "I", Cond.fieldLink RX5 34 "StaffHeads" "least" "I", Cond.fieldLink RX5 37 "StaffHeads" "hiding" "Z", Cond.constant RX5 41 (65536), Cond.fieldLink RX5 46 "StaffHeads" "unit" "I", Cond.methodLink RX5 9 yX4_init, Cond.instanceMethod yX4_init, Cond.code yX4_init cX4_init 2 none, Cond.methodLink RX4 3 objectInit]
def wsX5_init_r2 : List Cond := [Cond.arrayClass .int, Cond.fieldLink RX4 9 "StaffHeads$Staves" "lowestLine" "[I", Cond.fieldLink RX4 15 "StaffHeads$Staves" "shiftStaff" "[I", Cond.fieldLink RX4 18 "StaffHeads$Staves" "shiftFrom" "[I", Cond.fieldLink RX4 21 "StaffHeads$Staves" "shiftTo" "[I", Cond.fieldLink RX4 24 "StaffHeads$Staves" "shiftOctaves" "[I", Cond.fieldLink RX4 27 "StaffHeads$Staves" "shifts" "I", Cond.methodLink RX4 31 yX4_putClef, Cond.instanceMethod yX4_putClef, Cond.selects RX4 yX4_putClef yX4_putClef, Cond.code yX4_putClef cX4_putClef 4 none, Cond.instanceMethod yX2_init, Cond.code yX2_init cX2_init 1 none, Cond.methodLink RX2 3 objectInit, Cond.fieldLink RX2 9 "StaffHeads$Notes" "staff" "[I", Cond.fieldLink RX2 15 "StaffHeads$Notes" "voice" "[I", Cond.fieldLink RX2 18 "StaffHeads$Notes" "tick" "[I", Cond.fieldLink RX2 21 "StaffHeads$Notes" "number" "[I", Cond.fieldLink RX2 24 "StaffHeads$Notes" "sign" "[I", Cond.fieldLink RX2 27 "StaffHeads$Notes" "head" "[I", Cond.fieldLink RX2 30 "StaffHeads$Notes" "count" "I", Cond.instanceMethod yX1_init, Cond.code yX1_init cX1_init 1 none, Cond.methodLink RX1 3 objectInit]
def wsX5_init_r3 : List Cond := [Cond.fieldLink RX1 9 "StaffHeads$Layout" "stale" "Z", Cond.fieldLink RX1 15 "StaffHeads$Layout" "step" "[I", Cond.fieldLink RX1 19 "StaffHeads$Layout" "stem" "[I", Cond.fieldLink RX1 22 "StaffHeads$Layout" "aside" "[I", Cond.fieldLink RX1 25 "StaffHeads$Layout" "moved" "[I", Cond.fieldLink RX1 28 "StaffHeads$Layout" "chordSize" "[I", Cond.fieldLink RX1 31 "StaffHeads$Layout" "signColumn" "[I", Cond.fieldLink RX1 34 "StaffHeads$Layout" "high" "[I", Cond.fieldLink RX1 37 "StaffHeads$Layout" "low" "[I", Cond.fieldLink RX1 40 "StaffHeads$Layout" "noteCount" "[I", Cond.fieldLink RX1 43 "StaffHeads$Layout" "chordCount" "[I", Cond.fieldLink RX1 46 "StaffHeads$Layout" "signColumns" "[I", Cond.fieldLink RX1 49 "StaffHeads$Layout" "mostMoved" "[I", Cond.classLink RX1 52 RX0, Cond.instantiable RX0 7, Cond.initialized RX0, Cond.fieldLink RX1 55 "StaffHeads$Layout" "chords" "[LStaffHeads$Chord;", Cond.classLink RX1 59 RX3, Cond.instantiable RX3 3, Cond.initialized RX3, Cond.fieldLink RX1 62 "StaffHeads$Layout" "signs" "LStaffHeads$Signs;", Cond.instanceMethod yX0_init, Cond.code yX0_init cX0_init 1 none, Cond.methodLink RX0 3 objectInit]
def wsX5_init_r4 : List Cond := [Cond.fieldLink RX0 9 "StaffHeads$Chord" "heads" "[I", Cond.instanceMethod yX3_init, Cond.code yX3_init cX3_init 1 none, Cond.methodLink RX3 3 objectInit, Cond.fieldLink RX3 9 "StaffHeads$Signs" "bearers" "[I", Cond.fieldLink RX3 15 "StaffHeads$Signs" "takenInTurn" "[I", Cond.methodLink RX5 42 yX5_within, Cond.static yX5_within, Cond.initialized RX5, Cond.code yX5_within cX5_within 3 (some .boolean)]
def wsX5_init : List Cond := .code yX5_init cX5_init 2 none :: ((wsX5_init_r1 ++ (wsX5_init_r2 ++ (wsX5_init_r3 ++ wsX5_init_r4))) ++ wsX40 ++ wsX50 ++ wsX20 ++ wsX10 ++ wsX00 ++ wsX30)
def wsX5_isStaff : List Cond := .code yX5_isStaff cX5_isStaff 1 (some .boolean) :: ([.methodLink RX5 42 yX5_within, .static yX5_within, .initialized RX5, .code yX5_within cX5_within 3 (some .boolean)])
def wsX5_clef : List Cond := .code yX5_clef cX5_clef 4 (some .int) :: ([.fieldLink RX5 53 "StaffHeads" "CLEF_NUMBERS" "[I", .fieldLink RX5 10 "StaffHeads" "staves" "LStaffHeads$Staves;", .fieldLink RX5 26 "StaffHeads" "layout" "LStaffHeads$Layout;", .fieldLink RX5 61 "StaffHeads$Layout" "stale" "Z", .methodLink RX5 49 yX5_isStaff, .static yX5_isStaff, .initialized RX5, .code yX5_isStaff cX5_isStaff 1 (some .boolean), .methodLink RX5 42 yX5_within, .static yX5_within, .code yX5_within cX5_within 3 (some .boolean), .methodLink RX5 57 yX4_putClef, .instanceMethod yX4_putClef, .selects RX4 yX4_putClef yX4_putClef, .initialized RX4, .code yX4_putClef cX4_putClef 4 none, .fieldLink RX4 9 "StaffHeads$Staves" "lowestLine" "[I"] ++ wsX50 ++ wsX10 ++ wsX40)
def wsX5_isTick : List Cond := .code yX5_isTick cX5_isTick 1 (some .boolean) :: ([.methodLink RX5 42 yX5_within, .static yX5_within, .initialized RX5, .code yX5_within cX5_within 3 (some .boolean)])
def wsX5_shift : List Cond := .code yX5_shift cX5_shift 5 (some .int) :: ([.fieldLink RX5 10 "StaffHeads" "staves" "LStaffHeads$Staves;", .fieldLink RX5 67 "StaffHeads$Staves" "shifts" "I", .fieldLink RX5 26 "StaffHeads" "layout" "LStaffHeads$Layout;", .fieldLink RX5 61 "StaffHeads$Layout" "stale" "Z", .methodLink RX5 49 yX5_isStaff, .static yX5_isStaff, .initialized RX5, .code yX5_isStaff cX5_isStaff 1 (some .boolean), .methodLink RX5 42 yX5_within, .static yX5_within, .code yX5_within cX5_within 3 (some .boolean), .methodLink RX5 64 yX5_isTick, .static yX5_isTick, .code yX5_isTick cX5_isTick 1 (some .boolean), .methodLink RX5 70 yX4_addShift, .instanceMethod yX4_addShift, .selects RX4 yX4_addShift yX4_addShift, .initialized RX4, .code yX4_addShift cX4_addShift 5 none, .fieldLink RX4 15 "StaffHeads$Staves" "shiftStaff" "[I", .fieldLink RX4 27 "StaffHeads$Staves" "shifts" "I", .fieldLink RX4 18 "StaffHeads$Staves" "shiftFrom" "[I", .fieldLink RX4 21 "StaffHeads$Staves" "shiftTo" "[I", .fieldLink RX4 24 "StaffHeads$Staves" "shiftOctaves" "[I"] ++ wsX50 ++ wsX40 ++ wsX10)
def wsX5_plain : List Cond := .code yX5_plain cX5_plain 2 (some .int) :: ([.fieldLink RX5 10 "StaffHeads" "staves" "LStaffHeads$Staves;", .fieldLink RX5 67 "StaffHeads$Staves" "shifts" "I", .fieldLink RX5 26 "StaffHeads" "layout" "LStaffHeads$Layout;", .fieldLink RX5 61 "StaffHeads$Layout" "stale" "Z"] ++ wsX50 ++ wsX40 ++ wsX10)
def wsX5_isPitch : List Cond := .code yX5_isPitch cX5_isPitch 2 (some .boolean) :: ([.methodLink RX5 42 yX5_within, .static yX5_within, .initialized RX5, .code yX5_within cX5_within 3 (some .boolean)])
def wsX5_note_r1 : List Cond := [Cond.fieldLink RX5 19 "StaffHeads" "notes" "LStaffHeads$Notes;", Cond.fieldLink RX5 78 "StaffHeads$Notes" "count" "I", Cond.fieldLink RX5 26 "StaffHeads" "layout" "LStaffHeads$Layout;", Cond.fieldLink RX5 61 "StaffHeads$Layout" "stale" "Z", Cond.methodLink RX5 49 yX5_isStaff, Cond.static yX5_isStaff, Cond.initialized RX5, Cond.code yX5_isStaff cX5_isStaff 1 (some .boolean), Cond.methodLink RX5 42 yX5_within, Cond.static yX5_within, Cond.code yX5_within cX5_within 3 (some .boolean), Cond.methodLink RX5 64 yX5_isTick, Cond.static yX5_isTick, Cond.code yX5_isTick cX5_isTick 1 (some .boolean), Cond.methodLink RX5 74 yX5_isPitch, Cond.static yX5_isPitch, Cond.code yX5_isPitch cX5_isPitch 2 (some .boolean), Cond.methodLink RX5 81 yX2_add, Cond.instanceMethod yX2_add, Cond.selects RX2 yX2_add yX2_add, Cond.initialized RX2, Cond.code yX2_add cX2_add 7 none, Cond.fieldLink RX2 9 "StaffHeads$Notes" "staff" "[I", Cond.fieldLink RX2 30 "StaffHeads$Notes" "count" "I"]
def wsX5_note_r2 : List Cond := [Cond.fieldLink RX2 15 "StaffHeads$Notes" "voice" "[I", Cond.fieldLink RX2 18 "StaffHeads$Notes" "tick" "[I", Cond.fieldLink RX2 21 "StaffHeads$Notes" "number" "[I", Cond.fieldLink RX2 24 "StaffHeads$Notes" "sign" "[I", Cond.fieldLink RX2 27 "StaffHeads$Notes" "head" "[I"]
def wsX5_note : List Cond := .code yX5_note cX5_note 8 (some .int) :: ((wsX5_note_r1 ++ wsX5_note_r2) ++ wsX50 ++ wsX20 ++ wsX10)
def wsX5_drop : List Cond := .code yX5_drop cX5_drop 2 (some .int) :: ([.fieldLink RX5 19 "StaffHeads" "notes" "LStaffHeads$Notes;", .fieldLink RX5 26 "StaffHeads" "layout" "LStaffHeads$Layout;", .fieldLink RX5 61 "StaffHeads$Layout" "stale" "Z", .fieldLink RX5 78 "StaffHeads$Notes" "count" "I", .methodLink RX5 85 yX2_has, .instanceMethod yX2_has, .selects RX2 yX2_has yX2_has, .initialized RX2, .code yX2_has cX2_has 2 (some .boolean), .fieldLink RX2 30 "StaffHeads$Notes" "count" "I", .static yX5_within, .initialized RX5, .code yX5_within cX5_within 3 (some .boolean), .methodLink RX5 88 yX2_remove, .instanceMethod yX2_remove, .selects RX2 yX2_remove yX2_remove, .code yX2_remove cX2_remove 3 none, .fieldLink RX2 9 "StaffHeads$Notes" "staff" "[I", .fieldLink RX2 15 "StaffHeads$Notes" "voice" "[I", .fieldLink RX2 18 "StaffHeads$Notes" "tick" "[I", .fieldLink RX2 21 "StaffHeads$Notes" "number" "[I", .fieldLink RX2 24 "StaffHeads$Notes" "sign" "[I", .fieldLink RX2 27 "StaffHeads$Notes" "head" "[I"] ++ wsX50 ++ wsX10 ++ wsX20)
def wsX5_of_r1 : List Cond := [Cond.fieldLink RX5 19 "StaffHeads" "notes" "LStaffHeads$Notes;", Cond.fieldLink RX5 26 "StaffHeads" "layout" "LStaffHeads$Layout;", Cond.fieldLink RX5 10 "StaffHeads" "staves" "LStaffHeads$Staves;", Cond.fieldLink RX5 96 "StaffHeads$Layout" "step" "[I", Cond.fieldLink RX5 99 "StaffHeads$Layout" "stem" "[I", Cond.fieldLink RX5 102 "StaffHeads$Layout" "aside" "[I", Cond.fieldLink RX5 105 "StaffHeads$Layout" "moved" "[I", Cond.fieldLink RX5 108 "StaffHeads$Layout" "signColumn" "[I", Cond.fieldLink RX5 111 "StaffHeads$Layout" "chordSize" "[I", Cond.methodLink RX5 85 yX2_has, Cond.instanceMethod yX2_has, Cond.selects RX2 yX2_has yX2_has, Cond.initialized RX2, Cond.code yX2_has cX2_has 2 (some .boolean), Cond.fieldLink RX2 30 "StaffHeads$Notes" "count" "I", Cond.static yX5_within, Cond.initialized RX5, Cond.code yX5_within cX5_within 3 (some .boolean), Cond.methodLink RX5 92 yX1_refresh, Cond.instanceMethod yX1_refresh, Cond.selects RX1 yX1_refresh yX1_refresh, Cond.initialized RX1, Cond.code yX1_refresh cX1_refresh 5 none, Cond.fieldLink RX1 9 "StaffHeads$Layout" "stale" "Z"]
def wsX5_of_r2 : List Cond := [Cond.fieldLink RX1 69 "StaffHeads$Notes" "count" "I", Cond.fieldLink RX1 15 "StaffHeads$Layout" "step" "[I", Cond.fieldLink RX1 75 "StaffHeads$Notes" "staff" "[I", Cond.fieldLink RX1 78 "StaffHeads$Notes" "tick" "[I", Cond.fieldLink RX1 81 "StaffHeads$Notes" "number" "[I", Cond.fieldLink RX1 40 "StaffHeads$Layout" "noteCount" "[I", Cond.methodLink RX1 66 yX1_clear, Cond.instanceMethod yX1_clear, Cond.selects RX1 yX1_clear yX1_clear, Cond.code yX1_clear cX1_clear 1 none, Cond.fieldLink RX1 31 "StaffHeads$Layout" "signColumn" "[I", Cond.fieldLink RX1 34 "StaffHeads$Layout" "high" "[I", Cond.fieldLink RX1 37 "StaffHeads$Layout" "low" "[I", Cond.fieldLink RX1 43 "StaffHeads$Layout" "chordCount" "[I", Cond.fieldLink RX1 46 "StaffHeads$Layout" "signColumns" "[I", Cond.fieldLink RX1 49 "StaffHeads$Layout" "mostMoved" "[I", Cond.methodLink RX1 98 yJ7_fill_53178, Cond.static yJ7_fill_53178, Cond.initialized RJ7, Cond.code yJ7_fill_53178 cJ7_fill_53178 4 none, Cond.methodLink RX1 84 yX4_stepOf, Cond.instanceMethod yX4_stepOf, Cond.selects RX4 yX4_stepOf yX4_stepOf, Cond.initialized RX4]
def wsX5_of_r3 : List Cond := [Cond.code yX4_stepOf cX4_stepOf 6 (some .int), Cond.fieldLink RX4 27 "StaffHeads$Staves" "shifts" "I", Cond.fieldLink RX4 15 "StaffHeads$Staves" "shiftStaff" "[I", Cond.fieldLink RX4 18 "StaffHeads$Staves" "shiftFrom" "[I", Cond.fieldLink RX4 21 "StaffHeads$Staves" "shiftTo" "[I", Cond.fieldLink RX4 24 "StaffHeads$Staves" "shiftOctaves" "[I", Cond.fieldLink RX4 9 "StaffHeads$Staves" "lowestLine" "[I", Cond.static yX5_cellOf, Cond.code yX5_cellOf cX5_cellOf 2 (some .int), Cond.methodLink RX1 94 yX1_layCell, Cond.instanceMethod yX1_layCell, Cond.selects RX1 yX1_layCell yX1_layCell, Cond.code yX1_layCell cX1_layCell 5 none, Cond.fieldLink RX1 55 "StaffHeads$Layout" "chords" "[LStaffHeads$Chord;", Cond.fieldLink RX1 22 "StaffHeads$Layout" "aside" "[I", Cond.fieldLink RX1 123 "StaffHeads$Chord" "size" "I", Cond.fieldLink RX1 62 "StaffHeads$Layout" "signs" "LStaffHeads$Signs;", Cond.fieldLink RX1 130 "StaffHeads$Notes" "sign" "[I", Cond.methodLink RX1 104 yX1_gather, Cond.instanceMethod yX1_gather, Cond.selects RX1 yX1_gather yX1_gather, Cond.code yX1_gather cX1_gather 5 none, Cond.fieldLink RX1 143 "StaffHeads$Notes" "voice" "[I", Cond.fieldLink RX1 146 "StaffHeads$Notes" "head" "[I"]
def wsX5_of_r4 : List Cond := [Cond.methodLink RX1 137 yX0_clear, Cond.instanceMethod yX0_clear, Cond.selects RX0 yX0_clear yX0_clear, Cond.initialized RX0, Cond.code yX0_clear cX0_clear 1 none, Cond.fieldLink RX0 15 "StaffHeads$Chord" "size" "I", Cond.fieldLink RX0 19 "StaffHeads$Chord" "onlyWhole" "Z", Cond.fieldLink RX0 23 "StaffHeads$Chord" "moved" "I", Cond.methodLink RX1 138 yX3_clear, Cond.instanceMethod yX3_clear, Cond.selects RX3 yX3_clear yX3_clear, Cond.initialized RX3, Cond.code yX3_clear cX3_clear 1 none, Cond.fieldLink RX3 18 "StaffHeads$Signs" "size" "I", Cond.methodLink RX1 139 yX2_together, Cond.instanceMethod yX2_together, Cond.selects RX2 yX2_together yX2_together, Cond.code yX2_together cX2_together 3 (some .boolean), Cond.fieldLink RX2 9 "StaffHeads$Notes" "staff" "[I", Cond.fieldLink RX2 18 "StaffHeads$Notes" "tick" "[I", Cond.methodLink RX1 149 yX0_add, Cond.instanceMethod yX0_add, Cond.selects RX0 yX0_add yX0_add, Cond.code yX0_add cX0_add 4 none]
def wsX5_of_r5 : List Cond := [Cond.fieldLink RX0 26 "StaffHeads$Chord" "lowest" "I", Cond.methodLink RX0 29 Lib.Math.min.name, Cond.static Lib.Math.min.name, Cond.initialized "java/lang/Math", Cond.code Lib.Math.min.name Lib.Math.min.code 2 (some .int), Cond.fieldLink RX0 35 "StaffHeads$Chord" "highest" "I", Cond.methodLink RX0 38 Lib.Math.max.name, Cond.static Lib.Math.max.name, Cond.code Lib.Math.max.name Lib.Math.max.code 2 (some .int), Cond.fieldLink RX0 9 "StaffHeads$Chord" "heads" "[I", Cond.methodLink RX1 153 yX3_add, Cond.instanceMethod yX3_add, Cond.selects RX3 yX3_add yX3_add, Cond.code yX3_add cX3_add 2 none, Cond.fieldLink RX3 9 "StaffHeads$Signs" "bearers" "[I", Cond.methodLink RX1 107 yX1_turnStems, Cond.instanceMethod yX1_turnStems, Cond.selects RX1 yX1_turnStems yX1_turnStems, Cond.code yX1_turnStems cX1_turnStems 6 none, Cond.fieldLink RX1 159 "StaffHeads$Chord" "up" "Z", Cond.fieldLink RX1 19 "StaffHeads$Layout" "stem" "[I", Cond.fieldLink RX1 162 "StaffHeads$Chord" "heads" "[I", Cond.methodLink RX1 155 yX0_liesLow, Cond.instanceMethod yX0_liesLow]
def wsX5_of_r6 : List Cond := [Cond.selects RX0 yX0_liesLow yX0_liesLow, Cond.code yX0_liesLow cX0_liesLow 1 (some .boolean), Cond.methodLink RX1 111 yX0_sortFromStemsFarEnd, Cond.instanceMethod yX0_sortFromStemsFarEnd, Cond.selects RX0 yX0_sortFromStemsFarEnd yX0_sortFromStemsFarEnd, Cond.code yX0_sortFromStemsFarEnd cX0_sortFromStemsFarEnd 5 none, Cond.methodLink RX0 41 yX0_isBefore, Cond.instanceMethod yX0_isBefore, Cond.selects RX0 yX0_isBefore yX0_isBefore, Cond.code yX0_isBefore cX0_isBefore 3 (some .boolean), Cond.fieldLink RX0 45 "StaffHeads$Chord" "up" "Z", Cond.methodLink RX1 115 yX0_turnHeads, Cond.instanceMethod yX0_turnHeads, Cond.selects RX0 yX0_turnHeads yX0_turnHeads, Cond.code yX0_turnHeads cX0_turnHeads 7 none, Cond.methodLink RX0 48 Lib.Math.abs.name, Cond.static Lib.Math.abs.name, Cond.code Lib.Math.abs.name Lib.Math.abs.code 1 (some .int), Cond.methodLink RX1 119 yX1_moveChords, Cond.instanceMethod yX1_moveChords, Cond.selects RX1 yX1_moveChords yX1_moveChords, Cond.code yX1_moveChords cX1_moveChords 4 none, Cond.fieldLink RX1 165 "StaffHeads$Chord" "moved" "I", Cond.methodLink RX1 167 yX1_liesOverLesser]
def wsX5_of_r7 : List Cond := [Cond.instanceMethod yX1_liesOverLesser, Cond.selects RX1 yX1_liesOverLesser yX1_liesOverLesser, Cond.code yX1_liesOverLesser cX1_liesOverLesser 4 (some .boolean), Cond.methodLink RX1 171 yX1_lieOver, Cond.instanceMethod yX1_lieOver, Cond.selects RX1 yX1_lieOver yX1_lieOver, Cond.code yX1_lieOver cX1_lieOver 8 (some .boolean), Cond.methodLink RX1 175 Lib.Math.abs.name, Cond.methodLink RX1 181 yX1_areShared, Cond.instanceMethod yX1_areShared, Cond.selects RX1 yX1_areShared yX1_areShared, Cond.code yX1_areShared cX1_areShared 4 (some .boolean), Cond.methodLink RX1 126 yX1_keep, Cond.instanceMethod yX1_keep, Cond.selects RX1 yX1_keep yX1_keep, Cond.code yX1_keep cX1_keep 4 none, Cond.fieldLink RX1 25 "StaffHeads$Layout" "moved" "[I", Cond.fieldLink RX1 28 "StaffHeads$Layout" "chordSize" "[I", Cond.methodLink RX1 189 Lib.Math.max.name, Cond.methodLink RX1 195 Lib.Math.min.name, Cond.methodLink RX1 185 yX0_reachUp, Cond.instanceMethod yX0_reachUp, Cond.selects RX0 yX0_reachUp yX0_reachUp, Cond.code yX0_reachUp cX0_reachUp 1 (some .int)]
def wsX5_of_r8 : List Cond := [Cond.methodLink RX1 192 yX0_reachDown, Cond.instanceMethod yX0_reachDown, Cond.selects RX0 yX0_reachDown yX0_reachDown, Cond.code yX0_reachDown cX0_reachDown 1 (some .int), Cond.methodLink RX1 133 yX3_placeAll, Cond.instanceMethod yX3_placeAll, Cond.selects RX3 yX3_placeAll yX3_placeAll, Cond.code yX3_placeAll cX3_placeAll 7 (some .int), Cond.fieldLink RX3 15 "StaffHeads$Signs" "takenInTurn" "[I", Cond.methodLink RX3 36 Lib.Math.max.name, Cond.methodLink RX3 22 yJ7_fill_53178, Cond.methodLink RX3 28 yX3_outermost, Cond.instanceMethod yX3_outermost, Cond.selects RX3 yX3_outermost yX3_outermost, Cond.code yX3_outermost cX3_outermost 7 (some .int), Cond.methodLink RX3 32 yX3_columnFor, Cond.instanceMethod yX3_columnFor, Cond.selects RX3 yX3_columnFor yX3_columnFor, Cond.code yX3_columnFor cX3_columnFor 8 (some .int), Cond.methodLink RX3 42 Lib.Math.abs.name]
def wsX5_of : List Cond := .code yX5_of cX5_of 4 (some .int) :: ((wsX5_of_r1 ++ (wsX5_of_r2 ++ (wsX5_of_r3 ++ (wsX5_of_r4 ++ (wsX5_of_r5 ++ (wsX5_of_r6 ++ (wsX5_of_r7 ++ wsX5_of_r8))))))) ++ wsX50 ++ wsX10 ++ wsX20 ++ wsX40 ++ wsX00 ++ wsX30)
def wsX5_isHidden : List Cond := .code yX5_isHidden cX5_isHidden 2 (some .boolean) :: ([.fieldLink RX5 37 "StaffHeads" "hiding" "Z", .fieldLink RX5 19 "StaffHeads" "notes" "LStaffHeads$Notes;", .methodLink RX5 174 yX2_anyOn, .instanceMethod yX2_anyOn, .selects RX2 yX2_anyOn yX2_anyOn, .initialized RX2, .code yX2_anyOn cX2_anyOn 3 (some .boolean), .fieldLink RX2 30 "StaffHeads$Notes" "count" "I", .fieldLink RX2 9 "StaffHeads$Notes" "staff" "[I"] ++ wsX50 ++ wsX20)
def wsX5_shownAbove : List Cond := .code yX5_shownAbove cX5_shownAbove 3 (some .int) :: ([.methodLink RX5 149 yX5_isHidden, .instanceMethod yX5_isHidden, .selects RX5 yX5_isHidden yX5_isHidden, .initialized RX5, .code yX5_isHidden cX5_isHidden 2 (some .boolean), .fieldLink RX5 37 "StaffHeads" "hiding" "Z", .fieldLink RX5 19 "StaffHeads" "notes" "LStaffHeads$Notes;", .methodLink RX5 174 yX2_anyOn, .instanceMethod yX2_anyOn, .selects RX2 yX2_anyOn yX2_anyOn, .initialized RX2, .code yX2_anyOn cX2_anyOn 3 (some .boolean), .fieldLink RX2 30 "StaffHeads$Notes" "count" "I", .fieldLink RX2 9 "StaffHeads$Notes" "staff" "[I"] ++ wsX50 ++ wsX20)
def wsX5_gapBetween : List Cond := .code yX5_gapBetween cX5_gapBetween 7 (some .int) :: ([.fieldLink RX5 34 "StaffHeads" "least" "I", .fieldLink RX5 26 "StaffHeads" "layout" "LStaffHeads$Layout;", .fieldLink RX5 130 "StaffHeads$Layout" "low" "[I", .fieldLink RX5 127 "StaffHeads$Layout" "high" "[I", .fieldLink RX5 30 "StaffHeads" "pad" "I", .methodLink RX5 177 Lib.Math.max.name, .static Lib.Math.max.name, .initialized "java/lang/Math", .code Lib.Math.max.name Lib.Math.max.code 2 (some .int), .methodLink RX5 123 yX5_cellOf, .static yX5_cellOf, .initialized RX5, .code yX5_cellOf cX5_cellOf 2 (some .int)] ++ wsX50 ++ wsX10)
def wsX5_stepsDownTo_r1 : List Cond := [Cond.methodLink RX5 149 yX5_isHidden, Cond.instanceMethod yX5_isHidden, Cond.selects RX5 yX5_isHidden yX5_isHidden, Cond.initialized RX5, Cond.code yX5_isHidden cX5_isHidden 2 (some .boolean), Cond.fieldLink RX5 37 "StaffHeads" "hiding" "Z", Cond.fieldLink RX5 19 "StaffHeads" "notes" "LStaffHeads$Notes;", Cond.methodLink RX5 174 yX2_anyOn, Cond.instanceMethod yX2_anyOn, Cond.selects RX2 yX2_anyOn yX2_anyOn, Cond.initialized RX2, Cond.code yX2_anyOn cX2_anyOn 3 (some .boolean), Cond.fieldLink RX2 30 "StaffHeads$Notes" "count" "I", Cond.fieldLink RX2 9 "StaffHeads$Notes" "staff" "[I", Cond.methodLink RX5 152 yX5_shownAbove, Cond.instanceMethod yX5_shownAbove, Cond.selects RX5 yX5_shownAbove yX5_shownAbove, Cond.code yX5_shownAbove cX5_shownAbove 3 (some .int), Cond.methodLink RX5 155 yX5_gapBetween, Cond.instanceMethod yX5_gapBetween, Cond.selects RX5 yX5_gapBetween yX5_gapBetween, Cond.code yX5_gapBetween cX5_gapBetween 7 (some .int), Cond.fieldLink RX5 34 "StaffHeads" "least" "I", Cond.fieldLink RX5 26 "StaffHeads" "layout" "LStaffHeads$Layout;"]
def wsX5_stepsDownTo_r2 : List Cond := [Cond.fieldLink RX5 130 "StaffHeads$Layout" "low" "[I", Cond.fieldLink RX5 127 "StaffHeads$Layout" "high" "[I", Cond.fieldLink RX5 30 "StaffHeads" "pad" "I", Cond.methodLink RX5 177 Lib.Math.max.name, Cond.static Lib.Math.max.name, Cond.initialized "java/lang/Math", Cond.code Lib.Math.max.name Lib.Math.max.code 2 (some .int), Cond.methodLink RX5 123 yX5_cellOf, Cond.static yX5_cellOf, Cond.code yX5_cellOf cX5_cellOf 2 (some .int)]
def wsX5_stepsDownTo : List Cond := .code yX5_stepsDownTo cX5_stepsDownTo 4 (some .int) :: ((wsX5_stepsDownTo_r1 ++ wsX5_stepsDownTo_r2) ++ wsX50 ++ wsX20 ++ wsX10)
def wsX5_height_r1 : List Cond := [Cond.fieldLink RX5 19 "StaffHeads" "notes" "LStaffHeads$Notes;", Cond.constantLong RX5 114 (-1001), Cond.fieldLink RX5 26 "StaffHeads" "layout" "LStaffHeads$Layout;", Cond.fieldLink RX5 10 "StaffHeads" "staves" "LStaffHeads$Staves;", Cond.fieldLink RX5 46 "StaffHeads" "unit" "I", Cond.fieldLink RX5 96 "StaffHeads$Layout" "step" "[I", Cond.fieldLink RX5 116 "StaffHeads$Notes" "staff" "[I", Cond.methodLink RX5 85 yX2_has, Cond.instanceMethod yX2_has, Cond.selects RX2 yX2_has yX2_has, Cond.initialized RX2, Cond.code yX2_has cX2_has 2 (some .boolean), Cond.fieldLink RX2 30 "StaffHeads$Notes" "count" "I", Cond.static yX5_within, Cond.initialized RX5, Cond.code yX5_within cX5_within 3 (some .boolean), Cond.methodLink RX5 92 yX1_refresh, Cond.instanceMethod yX1_refresh, Cond.selects RX1 yX1_refresh yX1_refresh, Cond.initialized RX1, Cond.code yX1_refresh cX1_refresh 5 none, Cond.fieldLink RX1 9 "StaffHeads$Layout" "stale" "Z", Cond.fieldLink RX1 69 "StaffHeads$Notes" "count" "I", Cond.fieldLink RX1 15 "StaffHeads$Layout" "step" "[I"]
def wsX5_height_r2 : List Cond := [Cond.fieldLink RX1 75 "StaffHeads$Notes" "staff" "[I", Cond.fieldLink RX1 78 "StaffHeads$Notes" "tick" "[I", Cond.fieldLink RX1 81 "StaffHeads$Notes" "number" "[I", Cond.fieldLink RX1 40 "StaffHeads$Layout" "noteCount" "[I", Cond.methodLink RX1 66 yX1_clear, Cond.instanceMethod yX1_clear, Cond.selects RX1 yX1_clear yX1_clear, Cond.code yX1_clear cX1_clear 1 none, Cond.fieldLink RX1 31 "StaffHeads$Layout" "signColumn" "[I", Cond.fieldLink RX1 34 "StaffHeads$Layout" "high" "[I", Cond.fieldLink RX1 37 "StaffHeads$Layout" "low" "[I", Cond.fieldLink RX1 43 "StaffHeads$Layout" "chordCount" "[I", Cond.fieldLink RX1 46 "StaffHeads$Layout" "signColumns" "[I", Cond.fieldLink RX1 49 "StaffHeads$Layout" "mostMoved" "[I", Cond.methodLink RX1 98 yJ7_fill_53178, Cond.static yJ7_fill_53178, Cond.initialized RJ7, Cond.code yJ7_fill_53178 cJ7_fill_53178 4 none, Cond.methodLink RX1 84 yX4_stepOf, Cond.instanceMethod yX4_stepOf, Cond.selects RX4 yX4_stepOf yX4_stepOf, Cond.initialized RX4, Cond.code yX4_stepOf cX4_stepOf 6 (some .int), Cond.fieldLink RX4 27 "StaffHeads$Staves" "shifts" "I"]
def wsX5_height_r3 : List Cond := [Cond.fieldLink RX4 15 "StaffHeads$Staves" "shiftStaff" "[I", Cond.fieldLink RX4 18 "StaffHeads$Staves" "shiftFrom" "[I", Cond.fieldLink RX4 21 "StaffHeads$Staves" "shiftTo" "[I", Cond.fieldLink RX4 24 "StaffHeads$Staves" "shiftOctaves" "[I", Cond.fieldLink RX4 9 "StaffHeads$Staves" "lowestLine" "[I", Cond.static yX5_cellOf, Cond.code yX5_cellOf cX5_cellOf 2 (some .int), Cond.methodLink RX1 94 yX1_layCell, Cond.instanceMethod yX1_layCell, Cond.selects RX1 yX1_layCell yX1_layCell, Cond.code yX1_layCell cX1_layCell 5 none, Cond.fieldLink RX1 55 "StaffHeads$Layout" "chords" "[LStaffHeads$Chord;", Cond.fieldLink RX1 22 "StaffHeads$Layout" "aside" "[I", Cond.fieldLink RX1 123 "StaffHeads$Chord" "size" "I", Cond.fieldLink RX1 62 "StaffHeads$Layout" "signs" "LStaffHeads$Signs;", Cond.fieldLink RX1 130 "StaffHeads$Notes" "sign" "[I", Cond.methodLink RX1 104 yX1_gather, Cond.instanceMethod yX1_gather, Cond.selects RX1 yX1_gather yX1_gather, Cond.code yX1_gather cX1_gather 5 none, Cond.fieldLink RX1 143 "StaffHeads$Notes" "voice" "[I", Cond.fieldLink RX1 146 "StaffHeads$Notes" "head" "[I", Cond.methodLink RX1 137 yX0_clear, Cond.instanceMethod yX0_clear]
def wsX5_height_r4 : List Cond := [Cond.selects RX0 yX0_clear yX0_clear, Cond.initialized RX0, Cond.code yX0_clear cX0_clear 1 none, Cond.fieldLink RX0 15 "StaffHeads$Chord" "size" "I", Cond.fieldLink RX0 19 "StaffHeads$Chord" "onlyWhole" "Z", Cond.fieldLink RX0 23 "StaffHeads$Chord" "moved" "I", Cond.methodLink RX1 138 yX3_clear, Cond.instanceMethod yX3_clear, Cond.selects RX3 yX3_clear yX3_clear, Cond.initialized RX3, Cond.code yX3_clear cX3_clear 1 none, Cond.fieldLink RX3 18 "StaffHeads$Signs" "size" "I", Cond.methodLink RX1 139 yX2_together, Cond.instanceMethod yX2_together, Cond.selects RX2 yX2_together yX2_together, Cond.code yX2_together cX2_together 3 (some .boolean), Cond.fieldLink RX2 9 "StaffHeads$Notes" "staff" "[I", Cond.fieldLink RX2 18 "StaffHeads$Notes" "tick" "[I", Cond.methodLink RX1 149 yX0_add, Cond.instanceMethod yX0_add, Cond.selects RX0 yX0_add yX0_add, Cond.code yX0_add cX0_add 4 none, Cond.fieldLink RX0 26 "StaffHeads$Chord" "lowest" "I", Cond.methodLink RX0 29 Lib.Math.min.name]
def wsX5_height_r5 : List Cond := [Cond.static Lib.Math.min.name, Cond.initialized "java/lang/Math", Cond.code Lib.Math.min.name Lib.Math.min.code 2 (some .int), Cond.fieldLink RX0 35 "StaffHeads$Chord" "highest" "I", Cond.methodLink RX0 38 Lib.Math.max.name, Cond.static Lib.Math.max.name, Cond.code Lib.Math.max.name Lib.Math.max.code 2 (some .int), Cond.fieldLink RX0 9 "StaffHeads$Chord" "heads" "[I", Cond.methodLink RX1 153 yX3_add, Cond.instanceMethod yX3_add, Cond.selects RX3 yX3_add yX3_add, Cond.code yX3_add cX3_add 2 none, Cond.fieldLink RX3 9 "StaffHeads$Signs" "bearers" "[I", Cond.methodLink RX1 107 yX1_turnStems, Cond.instanceMethod yX1_turnStems, Cond.selects RX1 yX1_turnStems yX1_turnStems, Cond.code yX1_turnStems cX1_turnStems 6 none, Cond.fieldLink RX1 159 "StaffHeads$Chord" "up" "Z", Cond.fieldLink RX1 19 "StaffHeads$Layout" "stem" "[I", Cond.fieldLink RX1 162 "StaffHeads$Chord" "heads" "[I", Cond.methodLink RX1 155 yX0_liesLow, Cond.instanceMethod yX0_liesLow, Cond.selects RX0 yX0_liesLow yX0_liesLow, Cond.code yX0_liesLow cX0_liesLow 1 (some .boolean)]
def wsX5_height_r6 : List Cond := [Cond.methodLink RX1 111 yX0_sortFromStemsFarEnd, Cond.instanceMethod yX0_sortFromStemsFarEnd, Cond.selects RX0 yX0_sortFromStemsFarEnd yX0_sortFromStemsFarEnd, Cond.code yX0_sortFromStemsFarEnd cX0_sortFromStemsFarEnd 5 none, Cond.methodLink RX0 41 yX0_isBefore, Cond.instanceMethod yX0_isBefore, Cond.selects RX0 yX0_isBefore yX0_isBefore, Cond.code yX0_isBefore cX0_isBefore 3 (some .boolean), Cond.fieldLink RX0 45 "StaffHeads$Chord" "up" "Z", Cond.methodLink RX1 115 yX0_turnHeads, Cond.instanceMethod yX0_turnHeads, Cond.selects RX0 yX0_turnHeads yX0_turnHeads, Cond.code yX0_turnHeads cX0_turnHeads 7 none, Cond.methodLink RX0 48 Lib.Math.abs.name, Cond.static Lib.Math.abs.name, Cond.code Lib.Math.abs.name Lib.Math.abs.code 1 (some .int), Cond.methodLink RX1 119 yX1_moveChords, Cond.instanceMethod yX1_moveChords, Cond.selects RX1 yX1_moveChords yX1_moveChords, Cond.code yX1_moveChords cX1_moveChords 4 none, Cond.fieldLink RX1 165 "StaffHeads$Chord" "moved" "I", Cond.methodLink RX1 167 yX1_liesOverLesser, Cond.instanceMethod yX1_liesOverLesser, Cond.selects RX1 yX1_liesOverLesser yX1_liesOverLesser]
def wsX5_height_r7 : List Cond := [Cond.code yX1_liesOverLesser cX1_liesOverLesser 4 (some .boolean), Cond.methodLink RX1 171 yX1_lieOver, Cond.instanceMethod yX1_lieOver, Cond.selects RX1 yX1_lieOver yX1_lieOver, Cond.code yX1_lieOver cX1_lieOver 8 (some .boolean), Cond.methodLink RX1 175 Lib.Math.abs.name, Cond.methodLink RX1 181 yX1_areShared, Cond.instanceMethod yX1_areShared, Cond.selects RX1 yX1_areShared yX1_areShared, Cond.code yX1_areShared cX1_areShared 4 (some .boolean), Cond.methodLink RX1 126 yX1_keep, Cond.instanceMethod yX1_keep, Cond.selects RX1 yX1_keep yX1_keep, Cond.code yX1_keep cX1_keep 4 none, Cond.fieldLink RX1 25 "StaffHeads$Layout" "moved" "[I", Cond.fieldLink RX1 28 "StaffHeads$Layout" "chordSize" "[I", Cond.methodLink RX1 189 Lib.Math.max.name, Cond.methodLink RX1 195 Lib.Math.min.name, Cond.methodLink RX1 185 yX0_reachUp, Cond.instanceMethod yX0_reachUp, Cond.selects RX0 yX0_reachUp yX0_reachUp, Cond.code yX0_reachUp cX0_reachUp 1 (some .int), Cond.methodLink RX1 192 yX0_reachDown, Cond.instanceMethod yX0_reachDown]
def wsX5_height_r8 : List Cond := [Cond.selects RX0 yX0_reachDown yX0_reachDown, Cond.code yX0_reachDown cX0_reachDown 1 (some .int), Cond.methodLink RX1 133 yX3_placeAll, Cond.instanceMethod yX3_placeAll, Cond.selects RX3 yX3_placeAll yX3_placeAll, Cond.code yX3_placeAll cX3_placeAll 7 (some .int), Cond.fieldLink RX3 15 "StaffHeads$Signs" "takenInTurn" "[I", Cond.methodLink RX3 36 Lib.Math.max.name, Cond.methodLink RX3 22 yJ7_fill_53178, Cond.methodLink RX3 28 yX3_outermost, Cond.instanceMethod yX3_outermost, Cond.selects RX3 yX3_outermost yX3_outermost, Cond.code yX3_outermost cX3_outermost 7 (some .int), Cond.methodLink RX3 32 yX3_columnFor, Cond.instanceMethod yX3_columnFor, Cond.selects RX3 yX3_columnFor yX3_columnFor, Cond.code yX3_columnFor cX3_columnFor 8 (some .int), Cond.methodLink RX3 42 Lib.Math.abs.name, Cond.methodLink RX5 119 yX5_stepsDownTo, Cond.instanceMethod yX5_stepsDownTo, Cond.selects RX5 yX5_stepsDownTo yX5_stepsDownTo, Cond.code yX5_stepsDownTo cX5_stepsDownTo 4 (some .int), Cond.methodLink RX5 149 yX5_isHidden, Cond.instanceMethod yX5_isHidden]
def wsX5_height_r9 : List Cond := [Cond.selects RX5 yX5_isHidden yX5_isHidden, Cond.code yX5_isHidden cX5_isHidden 2 (some .boolean), Cond.fieldLink RX5 37 "StaffHeads" "hiding" "Z", Cond.methodLink RX5 174 yX2_anyOn, Cond.instanceMethod yX2_anyOn, Cond.selects RX2 yX2_anyOn yX2_anyOn, Cond.code yX2_anyOn cX2_anyOn 3 (some .boolean), Cond.methodLink RX5 152 yX5_shownAbove, Cond.instanceMethod yX5_shownAbove, Cond.selects RX5 yX5_shownAbove yX5_shownAbove, Cond.code yX5_shownAbove cX5_shownAbove 3 (some .int), Cond.methodLink RX5 155 yX5_gapBetween, Cond.instanceMethod yX5_gapBetween, Cond.selects RX5 yX5_gapBetween yX5_gapBetween, Cond.code yX5_gapBetween cX5_gapBetween 7 (some .int), Cond.fieldLink RX5 34 "StaffHeads" "least" "I", Cond.fieldLink RX5 130 "StaffHeads$Layout" "low" "[I", Cond.fieldLink RX5 127 "StaffHeads$Layout" "high" "[I", Cond.fieldLink RX5 30 "StaffHeads" "pad" "I", Cond.methodLink RX5 177 Lib.Math.max.name, Cond.methodLink RX5 123 yX5_cellOf]
def wsX5_height : List Cond := .code yX5_height cX5_height 2 (some .long) :: ((wsX5_height_r1 ++ (wsX5_height_r2 ++ (wsX5_height_r3 ++ (wsX5_height_r4 ++ (wsX5_height_r5 ++ (wsX5_height_r6 ++ (wsX5_height_r7 ++ (wsX5_height_r8 ++ wsX5_height_r9)))))))) ++ wsX50 ++ wsX10 ++ wsX20 ++ wsX40 ++ wsX00 ++ wsX30)
def wsX5_at_r1 : List Cond := [Cond.fieldLink RX5 26 "StaffHeads" "layout" "LStaffHeads$Layout;", Cond.fieldLink RX5 19 "StaffHeads" "notes" "LStaffHeads$Notes;", Cond.fieldLink RX5 10 "StaffHeads" "staves" "LStaffHeads$Staves;", Cond.fieldLink RX5 127 "StaffHeads$Layout" "high" "[I", Cond.fieldLink RX5 130 "StaffHeads$Layout" "low" "[I", Cond.fieldLink RX5 133 "StaffHeads$Layout" "noteCount" "[I", Cond.fieldLink RX5 136 "StaffHeads$Layout" "chordCount" "[I", Cond.fieldLink RX5 139 "StaffHeads$Layout" "signColumns" "[I", Cond.methodLink RX5 49 yX5_isStaff, Cond.static yX5_isStaff, Cond.initialized RX5, Cond.code yX5_isStaff cX5_isStaff 1 (some .boolean), Cond.methodLink RX5 42 yX5_within, Cond.static yX5_within, Cond.code yX5_within cX5_within 3 (some .boolean), Cond.methodLink RX5 64 yX5_isTick, Cond.static yX5_isTick, Cond.code yX5_isTick cX5_isTick 1 (some .boolean), Cond.methodLink RX5 92 yX1_refresh, Cond.instanceMethod yX1_refresh, Cond.selects RX1 yX1_refresh yX1_refresh, Cond.initialized RX1, Cond.code yX1_refresh cX1_refresh 5 none, Cond.fieldLink RX1 9 "StaffHeads$Layout" "stale" "Z"]
def wsX5_at_r2 : List Cond := [Cond.fieldLink RX1 69 "StaffHeads$Notes" "count" "I", Cond.fieldLink RX1 15 "StaffHeads$Layout" "step" "[I", Cond.fieldLink RX1 75 "StaffHeads$Notes" "staff" "[I", Cond.fieldLink RX1 78 "StaffHeads$Notes" "tick" "[I", Cond.fieldLink RX1 81 "StaffHeads$Notes" "number" "[I", Cond.fieldLink RX1 40 "StaffHeads$Layout" "noteCount" "[I", Cond.methodLink RX1 66 yX1_clear, Cond.instanceMethod yX1_clear, Cond.selects RX1 yX1_clear yX1_clear, Cond.code yX1_clear cX1_clear 1 none, Cond.fieldLink RX1 31 "StaffHeads$Layout" "signColumn" "[I", Cond.fieldLink RX1 34 "StaffHeads$Layout" "high" "[I", Cond.fieldLink RX1 37 "StaffHeads$Layout" "low" "[I", Cond.fieldLink RX1 43 "StaffHeads$Layout" "chordCount" "[I", Cond.fieldLink RX1 46 "StaffHeads$Layout" "signColumns" "[I", Cond.fieldLink RX1 49 "StaffHeads$Layout" "mostMoved" "[I", Cond.methodLink RX1 98 yJ7_fill_53178, Cond.static yJ7_fill_53178, Cond.initialized RJ7, Cond.code yJ7_fill_53178 cJ7_fill_53178 4 none, Cond.methodLink RX1 84 yX4_stepOf, Cond.instanceMethod yX4_stepOf, Cond.selects RX4 yX4_stepOf yX4_stepOf, Cond.initialized RX4]
def wsX5_at_r3 : List Cond := [Cond.code yX4_stepOf cX4_stepOf 6 (some .int), Cond.fieldLink RX4 27 "StaffHeads$Staves" "shifts" "I", Cond.fieldLink RX4 15 "StaffHeads$Staves" "shiftStaff" "[I", Cond.fieldLink RX4 18 "StaffHeads$Staves" "shiftFrom" "[I", Cond.fieldLink RX4 21 "StaffHeads$Staves" "shiftTo" "[I", Cond.fieldLink RX4 24 "StaffHeads$Staves" "shiftOctaves" "[I", Cond.fieldLink RX4 9 "StaffHeads$Staves" "lowestLine" "[I", Cond.static yX5_cellOf, Cond.code yX5_cellOf cX5_cellOf 2 (some .int), Cond.methodLink RX1 94 yX1_layCell, Cond.instanceMethod yX1_layCell, Cond.selects RX1 yX1_layCell yX1_layCell, Cond.code yX1_layCell cX1_layCell 5 none, Cond.fieldLink RX1 55 "StaffHeads$Layout" "chords" "[LStaffHeads$Chord;", Cond.fieldLink RX1 22 "StaffHeads$Layout" "aside" "[I", Cond.fieldLink RX1 123 "StaffHeads$Chord" "size" "I", Cond.fieldLink RX1 62 "StaffHeads$Layout" "signs" "LStaffHeads$Signs;", Cond.fieldLink RX1 130 "StaffHeads$Notes" "sign" "[I", Cond.methodLink RX1 104 yX1_gather, Cond.instanceMethod yX1_gather, Cond.selects RX1 yX1_gather yX1_gather, Cond.code yX1_gather cX1_gather 5 none, Cond.fieldLink RX1 143 "StaffHeads$Notes" "voice" "[I", Cond.fieldLink RX1 146 "StaffHeads$Notes" "head" "[I"]
def wsX5_at_r4 : List Cond := [Cond.methodLink RX1 137 yX0_clear, Cond.instanceMethod yX0_clear, Cond.selects RX0 yX0_clear yX0_clear, Cond.initialized RX0, Cond.code yX0_clear cX0_clear 1 none, Cond.fieldLink RX0 15 "StaffHeads$Chord" "size" "I", Cond.fieldLink RX0 19 "StaffHeads$Chord" "onlyWhole" "Z", Cond.fieldLink RX0 23 "StaffHeads$Chord" "moved" "I", Cond.methodLink RX1 138 yX3_clear, Cond.instanceMethod yX3_clear, Cond.selects RX3 yX3_clear yX3_clear, Cond.initialized RX3, Cond.code yX3_clear cX3_clear 1 none, Cond.fieldLink RX3 18 "StaffHeads$Signs" "size" "I", Cond.methodLink RX1 139 yX2_together, Cond.instanceMethod yX2_together, Cond.selects RX2 yX2_together yX2_together, Cond.initialized RX2, Cond.code yX2_together cX2_together 3 (some .boolean), Cond.fieldLink RX2 9 "StaffHeads$Notes" "staff" "[I", Cond.fieldLink RX2 18 "StaffHeads$Notes" "tick" "[I", Cond.methodLink RX1 149 yX0_add, Cond.instanceMethod yX0_add, Cond.selects RX0 yX0_add yX0_add]
def wsX5_at_r5 : List Cond := [Cond.code yX0_add cX0_add 4 none, Cond.fieldLink RX0 26 "StaffHeads$Chord" "lowest" "I", Cond.methodLink RX0 29 Lib.Math.min.name, Cond.static Lib.Math.min.name, Cond.initialized "java/lang/Math", Cond.code Lib.Math.min.name Lib.Math.min.code 2 (some .int), Cond.fieldLink RX0 35 "StaffHeads$Chord" "highest" "I", Cond.methodLink RX0 38 Lib.Math.max.name, Cond.static Lib.Math.max.name, Cond.code Lib.Math.max.name Lib.Math.max.code 2 (some .int), Cond.fieldLink RX0 9 "StaffHeads$Chord" "heads" "[I", Cond.methodLink RX1 153 yX3_add, Cond.instanceMethod yX3_add, Cond.selects RX3 yX3_add yX3_add, Cond.code yX3_add cX3_add 2 none, Cond.fieldLink RX3 9 "StaffHeads$Signs" "bearers" "[I", Cond.methodLink RX1 107 yX1_turnStems, Cond.instanceMethod yX1_turnStems, Cond.selects RX1 yX1_turnStems yX1_turnStems, Cond.code yX1_turnStems cX1_turnStems 6 none, Cond.fieldLink RX1 159 "StaffHeads$Chord" "up" "Z", Cond.fieldLink RX1 19 "StaffHeads$Layout" "stem" "[I", Cond.fieldLink RX1 162 "StaffHeads$Chord" "heads" "[I", Cond.methodLink RX1 155 yX0_liesLow]
def wsX5_at_r6 : List Cond := [Cond.instanceMethod yX0_liesLow, Cond.selects RX0 yX0_liesLow yX0_liesLow, Cond.code yX0_liesLow cX0_liesLow 1 (some .boolean), Cond.methodLink RX1 111 yX0_sortFromStemsFarEnd, Cond.instanceMethod yX0_sortFromStemsFarEnd, Cond.selects RX0 yX0_sortFromStemsFarEnd yX0_sortFromStemsFarEnd, Cond.code yX0_sortFromStemsFarEnd cX0_sortFromStemsFarEnd 5 none, Cond.methodLink RX0 41 yX0_isBefore, Cond.instanceMethod yX0_isBefore, Cond.selects RX0 yX0_isBefore yX0_isBefore, Cond.code yX0_isBefore cX0_isBefore 3 (some .boolean), Cond.fieldLink RX0 45 "StaffHeads$Chord" "up" "Z", Cond.methodLink RX1 115 yX0_turnHeads, Cond.instanceMethod yX0_turnHeads, Cond.selects RX0 yX0_turnHeads yX0_turnHeads, Cond.code yX0_turnHeads cX0_turnHeads 7 none, Cond.methodLink RX0 48 Lib.Math.abs.name, Cond.static Lib.Math.abs.name, Cond.code Lib.Math.abs.name Lib.Math.abs.code 1 (some .int), Cond.methodLink RX1 119 yX1_moveChords, Cond.instanceMethod yX1_moveChords, Cond.selects RX1 yX1_moveChords yX1_moveChords, Cond.code yX1_moveChords cX1_moveChords 4 none, Cond.fieldLink RX1 165 "StaffHeads$Chord" "moved" "I"]
def wsX5_at_r7 : List Cond := [Cond.methodLink RX1 167 yX1_liesOverLesser, Cond.instanceMethod yX1_liesOverLesser, Cond.selects RX1 yX1_liesOverLesser yX1_liesOverLesser, Cond.code yX1_liesOverLesser cX1_liesOverLesser 4 (some .boolean), Cond.methodLink RX1 171 yX1_lieOver, Cond.instanceMethod yX1_lieOver, Cond.selects RX1 yX1_lieOver yX1_lieOver, Cond.code yX1_lieOver cX1_lieOver 8 (some .boolean), Cond.methodLink RX1 175 Lib.Math.abs.name, Cond.methodLink RX1 181 yX1_areShared, Cond.instanceMethod yX1_areShared, Cond.selects RX1 yX1_areShared yX1_areShared, Cond.code yX1_areShared cX1_areShared 4 (some .boolean), Cond.methodLink RX1 126 yX1_keep, Cond.instanceMethod yX1_keep, Cond.selects RX1 yX1_keep yX1_keep, Cond.code yX1_keep cX1_keep 4 none, Cond.fieldLink RX1 25 "StaffHeads$Layout" "moved" "[I", Cond.fieldLink RX1 28 "StaffHeads$Layout" "chordSize" "[I", Cond.methodLink RX1 189 Lib.Math.max.name, Cond.methodLink RX1 195 Lib.Math.min.name, Cond.methodLink RX1 185 yX0_reachUp, Cond.instanceMethod yX0_reachUp, Cond.selects RX0 yX0_reachUp yX0_reachUp]
def wsX5_at_r8 : List Cond := [Cond.code yX0_reachUp cX0_reachUp 1 (some .int), Cond.methodLink RX1 192 yX0_reachDown, Cond.instanceMethod yX0_reachDown, Cond.selects RX0 yX0_reachDown yX0_reachDown, Cond.code yX0_reachDown cX0_reachDown 1 (some .int), Cond.methodLink RX1 133 yX3_placeAll, Cond.instanceMethod yX3_placeAll, Cond.selects RX3 yX3_placeAll yX3_placeAll, Cond.code yX3_placeAll cX3_placeAll 7 (some .int), Cond.fieldLink RX3 15 "StaffHeads$Signs" "takenInTurn" "[I", Cond.methodLink RX3 36 Lib.Math.max.name, Cond.methodLink RX3 22 yJ7_fill_53178, Cond.methodLink RX3 28 yX3_outermost, Cond.instanceMethod yX3_outermost, Cond.selects RX3 yX3_outermost yX3_outermost, Cond.code yX3_outermost cX3_outermost 7 (some .int), Cond.methodLink RX3 32 yX3_columnFor, Cond.instanceMethod yX3_columnFor, Cond.selects RX3 yX3_columnFor yX3_columnFor, Cond.code yX3_columnFor cX3_columnFor 8 (some .int), Cond.methodLink RX3 42 Lib.Math.abs.name, Cond.methodLink RX5 123 yX5_cellOf]
def wsX5_at : List Cond := .code yX5_at cX5_at 5 (some .int) :: ((wsX5_at_r1 ++ (wsX5_at_r2 ++ (wsX5_at_r3 ++ (wsX5_at_r4 ++ (wsX5_at_r5 ++ (wsX5_at_r6 ++ (wsX5_at_r7 ++ wsX5_at_r8))))))) ++ wsX50 ++ wsX10 ++ wsX20 ++ wsX40 ++ wsX00 ++ wsX30)
def wsX5_shared_r1 : List Cond := [Cond.fieldLink RX5 19 "StaffHeads" "notes" "LStaffHeads$Notes;", Cond.fieldLink RX5 26 "StaffHeads" "layout" "LStaffHeads$Layout;", Cond.fieldLink RX5 10 "StaffHeads" "staves" "LStaffHeads$Staves;", Cond.methodLink RX5 85 yX2_has, Cond.instanceMethod yX2_has, Cond.selects RX2 yX2_has yX2_has, Cond.initialized RX2, Cond.code yX2_has cX2_has 2 (some .boolean), Cond.fieldLink RX2 30 "StaffHeads$Notes" "count" "I", Cond.static yX5_within, Cond.initialized RX5, Cond.code yX5_within cX5_within 3 (some .boolean), Cond.methodLink RX5 92 yX1_refresh, Cond.instanceMethod yX1_refresh, Cond.selects RX1 yX1_refresh yX1_refresh, Cond.initialized RX1, Cond.code yX1_refresh cX1_refresh 5 none, Cond.fieldLink RX1 9 "StaffHeads$Layout" "stale" "Z", Cond.fieldLink RX1 69 "StaffHeads$Notes" "count" "I", Cond.fieldLink RX1 15 "StaffHeads$Layout" "step" "[I", Cond.fieldLink RX1 75 "StaffHeads$Notes" "staff" "[I", Cond.fieldLink RX1 78 "StaffHeads$Notes" "tick" "[I", Cond.fieldLink RX1 81 "StaffHeads$Notes" "number" "[I", Cond.fieldLink RX1 40 "StaffHeads$Layout" "noteCount" "[I"]
def wsX5_shared_r2 : List Cond := [Cond.methodLink RX1 66 yX1_clear, Cond.instanceMethod yX1_clear, Cond.selects RX1 yX1_clear yX1_clear, Cond.code yX1_clear cX1_clear 1 none, Cond.fieldLink RX1 31 "StaffHeads$Layout" "signColumn" "[I", Cond.fieldLink RX1 34 "StaffHeads$Layout" "high" "[I", Cond.fieldLink RX1 37 "StaffHeads$Layout" "low" "[I", Cond.fieldLink RX1 43 "StaffHeads$Layout" "chordCount" "[I", Cond.fieldLink RX1 46 "StaffHeads$Layout" "signColumns" "[I", Cond.fieldLink RX1 49 "StaffHeads$Layout" "mostMoved" "[I", Cond.methodLink RX1 98 yJ7_fill_53178, Cond.static yJ7_fill_53178, Cond.initialized RJ7, Cond.code yJ7_fill_53178 cJ7_fill_53178 4 none, Cond.methodLink RX1 84 yX4_stepOf, Cond.instanceMethod yX4_stepOf, Cond.selects RX4 yX4_stepOf yX4_stepOf, Cond.initialized RX4, Cond.code yX4_stepOf cX4_stepOf 6 (some .int), Cond.fieldLink RX4 27 "StaffHeads$Staves" "shifts" "I", Cond.fieldLink RX4 15 "StaffHeads$Staves" "shiftStaff" "[I", Cond.fieldLink RX4 18 "StaffHeads$Staves" "shiftFrom" "[I", Cond.fieldLink RX4 21 "StaffHeads$Staves" "shiftTo" "[I", Cond.fieldLink RX4 24 "StaffHeads$Staves" "shiftOctaves" "[I"]
def wsX5_shared_r3 : List Cond := [Cond.fieldLink RX4 9 "StaffHeads$Staves" "lowestLine" "[I", Cond.static yX5_cellOf, Cond.code yX5_cellOf cX5_cellOf 2 (some .int), Cond.methodLink RX1 94 yX1_layCell, Cond.instanceMethod yX1_layCell, Cond.selects RX1 yX1_layCell yX1_layCell, Cond.code yX1_layCell cX1_layCell 5 none, Cond.fieldLink RX1 55 "StaffHeads$Layout" "chords" "[LStaffHeads$Chord;", Cond.fieldLink RX1 22 "StaffHeads$Layout" "aside" "[I", Cond.fieldLink RX1 123 "StaffHeads$Chord" "size" "I", Cond.fieldLink RX1 62 "StaffHeads$Layout" "signs" "LStaffHeads$Signs;", Cond.fieldLink RX1 130 "StaffHeads$Notes" "sign" "[I", Cond.methodLink RX1 104 yX1_gather, Cond.instanceMethod yX1_gather, Cond.selects RX1 yX1_gather yX1_gather, Cond.code yX1_gather cX1_gather 5 none, Cond.fieldLink RX1 143 "StaffHeads$Notes" "voice" "[I", Cond.fieldLink RX1 146 "StaffHeads$Notes" "head" "[I", Cond.methodLink RX1 137 yX0_clear, Cond.instanceMethod yX0_clear, Cond.selects RX0 yX0_clear yX0_clear, Cond.initialized RX0, Cond.code yX0_clear cX0_clear 1 none, Cond.fieldLink RX0 15 "StaffHeads$Chord" "size" "I"]
def wsX5_shared_r4 : List Cond := [Cond.fieldLink RX0 19 "StaffHeads$Chord" "onlyWhole" "Z", Cond.fieldLink RX0 23 "StaffHeads$Chord" "moved" "I", Cond.methodLink RX1 138 yX3_clear, Cond.instanceMethod yX3_clear, Cond.selects RX3 yX3_clear yX3_clear, Cond.initialized RX3, Cond.code yX3_clear cX3_clear 1 none, Cond.fieldLink RX3 18 "StaffHeads$Signs" "size" "I", Cond.methodLink RX1 139 yX2_together, Cond.instanceMethod yX2_together, Cond.selects RX2 yX2_together yX2_together, Cond.code yX2_together cX2_together 3 (some .boolean), Cond.fieldLink RX2 9 "StaffHeads$Notes" "staff" "[I", Cond.fieldLink RX2 18 "StaffHeads$Notes" "tick" "[I", Cond.methodLink RX1 149 yX0_add, Cond.instanceMethod yX0_add, Cond.selects RX0 yX0_add yX0_add, Cond.code yX0_add cX0_add 4 none, Cond.fieldLink RX0 26 "StaffHeads$Chord" "lowest" "I", Cond.methodLink RX0 29 Lib.Math.min.name, Cond.static Lib.Math.min.name, Cond.initialized "java/lang/Math", Cond.code Lib.Math.min.name Lib.Math.min.code 2 (some .int), Cond.fieldLink RX0 35 "StaffHeads$Chord" "highest" "I"]
def wsX5_shared_r5 : List Cond := [Cond.methodLink RX0 38 Lib.Math.max.name, Cond.static Lib.Math.max.name, Cond.code Lib.Math.max.name Lib.Math.max.code 2 (some .int), Cond.fieldLink RX0 9 "StaffHeads$Chord" "heads" "[I", Cond.methodLink RX1 153 yX3_add, Cond.instanceMethod yX3_add, Cond.selects RX3 yX3_add yX3_add, Cond.code yX3_add cX3_add 2 none, Cond.fieldLink RX3 9 "StaffHeads$Signs" "bearers" "[I", Cond.methodLink RX1 107 yX1_turnStems, Cond.instanceMethod yX1_turnStems, Cond.selects RX1 yX1_turnStems yX1_turnStems, Cond.code yX1_turnStems cX1_turnStems 6 none, Cond.fieldLink RX1 159 "StaffHeads$Chord" "up" "Z", Cond.fieldLink RX1 19 "StaffHeads$Layout" "stem" "[I", Cond.fieldLink RX1 162 "StaffHeads$Chord" "heads" "[I", Cond.methodLink RX1 155 yX0_liesLow, Cond.instanceMethod yX0_liesLow, Cond.selects RX0 yX0_liesLow yX0_liesLow, Cond.code yX0_liesLow cX0_liesLow 1 (some .boolean), Cond.methodLink RX1 111 yX0_sortFromStemsFarEnd, Cond.instanceMethod yX0_sortFromStemsFarEnd, Cond.selects RX0 yX0_sortFromStemsFarEnd yX0_sortFromStemsFarEnd, Cond.code yX0_sortFromStemsFarEnd cX0_sortFromStemsFarEnd 5 none]
def wsX5_shared_r6 : List Cond := [Cond.methodLink RX0 41 yX0_isBefore, Cond.instanceMethod yX0_isBefore, Cond.selects RX0 yX0_isBefore yX0_isBefore, Cond.code yX0_isBefore cX0_isBefore 3 (some .boolean), Cond.fieldLink RX0 45 "StaffHeads$Chord" "up" "Z", Cond.methodLink RX1 115 yX0_turnHeads, Cond.instanceMethod yX0_turnHeads, Cond.selects RX0 yX0_turnHeads yX0_turnHeads, Cond.code yX0_turnHeads cX0_turnHeads 7 none, Cond.methodLink RX0 48 Lib.Math.abs.name, Cond.static Lib.Math.abs.name, Cond.code Lib.Math.abs.name Lib.Math.abs.code 1 (some .int), Cond.methodLink RX1 119 yX1_moveChords, Cond.instanceMethod yX1_moveChords, Cond.selects RX1 yX1_moveChords yX1_moveChords, Cond.code yX1_moveChords cX1_moveChords 4 none, Cond.fieldLink RX1 165 "StaffHeads$Chord" "moved" "I", Cond.methodLink RX1 167 yX1_liesOverLesser, Cond.instanceMethod yX1_liesOverLesser, Cond.selects RX1 yX1_liesOverLesser yX1_liesOverLesser, Cond.code yX1_liesOverLesser cX1_liesOverLesser 4 (some .boolean), Cond.methodLink RX1 171 yX1_lieOver, Cond.instanceMethod yX1_lieOver, Cond.selects RX1 yX1_lieOver yX1_lieOver]
def wsX5_shared_r7 : List Cond := [Cond.code yX1_lieOver cX1_lieOver 8 (some .boolean), Cond.methodLink RX1 175 Lib.Math.abs.name, Cond.methodLink RX1 181 yX1_areShared, Cond.instanceMethod yX1_areShared, Cond.selects RX1 yX1_areShared yX1_areShared, Cond.code yX1_areShared cX1_areShared 4 (some .boolean), Cond.methodLink RX1 126 yX1_keep, Cond.instanceMethod yX1_keep, Cond.selects RX1 yX1_keep yX1_keep, Cond.code yX1_keep cX1_keep 4 none, Cond.fieldLink RX1 25 "StaffHeads$Layout" "moved" "[I", Cond.fieldLink RX1 28 "StaffHeads$Layout" "chordSize" "[I", Cond.methodLink RX1 189 Lib.Math.max.name, Cond.methodLink RX1 195 Lib.Math.min.name, Cond.methodLink RX1 185 yX0_reachUp, Cond.instanceMethod yX0_reachUp, Cond.selects RX0 yX0_reachUp yX0_reachUp, Cond.code yX0_reachUp cX0_reachUp 1 (some .int), Cond.methodLink RX1 192 yX0_reachDown, Cond.instanceMethod yX0_reachDown, Cond.selects RX0 yX0_reachDown yX0_reachDown, Cond.code yX0_reachDown cX0_reachDown 1 (some .int), Cond.methodLink RX1 133 yX3_placeAll, Cond.instanceMethod yX3_placeAll]
def wsX5_shared_r8 : List Cond := [Cond.selects RX3 yX3_placeAll yX3_placeAll, Cond.code yX3_placeAll cX3_placeAll 7 (some .int), Cond.fieldLink RX3 15 "StaffHeads$Signs" "takenInTurn" "[I", Cond.methodLink RX3 36 Lib.Math.max.name, Cond.methodLink RX3 22 yJ7_fill_53178, Cond.methodLink RX3 28 yX3_outermost, Cond.instanceMethod yX3_outermost, Cond.selects RX3 yX3_outermost yX3_outermost, Cond.code yX3_outermost cX3_outermost 7 (some .int), Cond.methodLink RX3 32 yX3_columnFor, Cond.instanceMethod yX3_columnFor, Cond.selects RX3 yX3_columnFor yX3_columnFor, Cond.code yX3_columnFor cX3_columnFor 8 (some .int), Cond.methodLink RX3 42 Lib.Math.abs.name, Cond.methodLink RX5 142 yX2_together, Cond.methodLink RX5 145 yX1_areShared]
def wsX5_shared : List Cond := .code yX5_shared cX5_shared 3 (some .int) :: ((wsX5_shared_r1 ++ (wsX5_shared_r2 ++ (wsX5_shared_r3 ++ (wsX5_shared_r4 ++ (wsX5_shared_r5 ++ (wsX5_shared_r6 ++ (wsX5_shared_r7 ++ wsX5_shared_r8))))))) ++ wsX50 ++ wsX20 ++ wsX10 ++ wsX40 ++ wsX00 ++ wsX30)
def wsX5_setting : List Cond := .code yX5_setting cX5_setting 4 (some .int) :: ([.fieldLink RX5 30 "StaffHeads" "pad" "I", .fieldLink RX5 34 "StaffHeads" "least" "I", .methodLink RX5 42 yX5_within, .static yX5_within, .initialized RX5, .code yX5_within cX5_within 3 (some .boolean)] ++ wsX50)
def wsX5_hides : List Cond := .code yX5_hides cX5_hides 3 (some .int) :: ([.fieldLink RX5 37 "StaffHeads" "hiding" "Z"] ++ wsX50)
def wsX5_gap_r1 : List Cond := [Cond.fieldLink RX5 26 "StaffHeads" "layout" "LStaffHeads$Layout;", Cond.fieldLink RX5 19 "StaffHeads" "notes" "LStaffHeads$Notes;", Cond.fieldLink RX5 10 "StaffHeads" "staves" "LStaffHeads$Staves;", Cond.methodLink RX5 49 yX5_isStaff, Cond.static yX5_isStaff, Cond.initialized RX5, Cond.code yX5_isStaff cX5_isStaff 1 (some .boolean), Cond.methodLink RX5 42 yX5_within, Cond.static yX5_within, Cond.code yX5_within cX5_within 3 (some .boolean), Cond.methodLink RX5 149 yX5_isHidden, Cond.instanceMethod yX5_isHidden, Cond.selects RX5 yX5_isHidden yX5_isHidden, Cond.code yX5_isHidden cX5_isHidden 2 (some .boolean), Cond.fieldLink RX5 37 "StaffHeads" "hiding" "Z", Cond.methodLink RX5 174 yX2_anyOn, Cond.instanceMethod yX2_anyOn, Cond.selects RX2 yX2_anyOn yX2_anyOn, Cond.initialized RX2, Cond.code yX2_anyOn cX2_anyOn 3 (some .boolean), Cond.fieldLink RX2 30 "StaffHeads$Notes" "count" "I", Cond.fieldLink RX2 9 "StaffHeads$Notes" "staff" "[I", Cond.methodLink RX5 92 yX1_refresh, Cond.instanceMethod yX1_refresh]
def wsX5_gap_r2 : List Cond := [Cond.selects RX1 yX1_refresh yX1_refresh, Cond.initialized RX1, Cond.code yX1_refresh cX1_refresh 5 none, Cond.fieldLink RX1 9 "StaffHeads$Layout" "stale" "Z", Cond.fieldLink RX1 69 "StaffHeads$Notes" "count" "I", Cond.fieldLink RX1 15 "StaffHeads$Layout" "step" "[I", Cond.fieldLink RX1 75 "StaffHeads$Notes" "staff" "[I", Cond.fieldLink RX1 78 "StaffHeads$Notes" "tick" "[I", Cond.fieldLink RX1 81 "StaffHeads$Notes" "number" "[I", Cond.fieldLink RX1 40 "StaffHeads$Layout" "noteCount" "[I", Cond.methodLink RX1 66 yX1_clear, Cond.instanceMethod yX1_clear, Cond.selects RX1 yX1_clear yX1_clear, Cond.code yX1_clear cX1_clear 1 none, Cond.fieldLink RX1 31 "StaffHeads$Layout" "signColumn" "[I", Cond.fieldLink RX1 34 "StaffHeads$Layout" "high" "[I", Cond.fieldLink RX1 37 "StaffHeads$Layout" "low" "[I", Cond.fieldLink RX1 43 "StaffHeads$Layout" "chordCount" "[I", Cond.fieldLink RX1 46 "StaffHeads$Layout" "signColumns" "[I", Cond.fieldLink RX1 49 "StaffHeads$Layout" "mostMoved" "[I", Cond.methodLink RX1 98 yJ7_fill_53178, Cond.static yJ7_fill_53178, Cond.initialized RJ7, Cond.code yJ7_fill_53178 cJ7_fill_53178 4 none]
def wsX5_gap_r3 : List Cond := [Cond.methodLink RX1 84 yX4_stepOf, Cond.instanceMethod yX4_stepOf, Cond.selects RX4 yX4_stepOf yX4_stepOf, Cond.initialized RX4, Cond.code yX4_stepOf cX4_stepOf 6 (some .int), Cond.fieldLink RX4 27 "StaffHeads$Staves" "shifts" "I", Cond.fieldLink RX4 15 "StaffHeads$Staves" "shiftStaff" "[I", Cond.fieldLink RX4 18 "StaffHeads$Staves" "shiftFrom" "[I", Cond.fieldLink RX4 21 "StaffHeads$Staves" "shiftTo" "[I", Cond.fieldLink RX4 24 "StaffHeads$Staves" "shiftOctaves" "[I", Cond.fieldLink RX4 9 "StaffHeads$Staves" "lowestLine" "[I", Cond.static yX5_cellOf, Cond.code yX5_cellOf cX5_cellOf 2 (some .int), Cond.methodLink RX1 94 yX1_layCell, Cond.instanceMethod yX1_layCell, Cond.selects RX1 yX1_layCell yX1_layCell, Cond.code yX1_layCell cX1_layCell 5 none, Cond.fieldLink RX1 55 "StaffHeads$Layout" "chords" "[LStaffHeads$Chord;", Cond.fieldLink RX1 22 "StaffHeads$Layout" "aside" "[I", Cond.fieldLink RX1 123 "StaffHeads$Chord" "size" "I", Cond.fieldLink RX1 62 "StaffHeads$Layout" "signs" "LStaffHeads$Signs;", Cond.fieldLink RX1 130 "StaffHeads$Notes" "sign" "[I", Cond.methodLink RX1 104 yX1_gather, Cond.instanceMethod yX1_gather]
def wsX5_gap_r4 : List Cond := [Cond.selects RX1 yX1_gather yX1_gather, Cond.code yX1_gather cX1_gather 5 none, Cond.fieldLink RX1 143 "StaffHeads$Notes" "voice" "[I", Cond.fieldLink RX1 146 "StaffHeads$Notes" "head" "[I", Cond.methodLink RX1 137 yX0_clear, Cond.instanceMethod yX0_clear, Cond.selects RX0 yX0_clear yX0_clear, Cond.initialized RX0, Cond.code yX0_clear cX0_clear 1 none, Cond.fieldLink RX0 15 "StaffHeads$Chord" "size" "I", Cond.fieldLink RX0 19 "StaffHeads$Chord" "onlyWhole" "Z", Cond.fieldLink RX0 23 "StaffHeads$Chord" "moved" "I", Cond.methodLink RX1 138 yX3_clear, Cond.instanceMethod yX3_clear, Cond.selects RX3 yX3_clear yX3_clear, Cond.initialized RX3, Cond.code yX3_clear cX3_clear 1 none, Cond.fieldLink RX3 18 "StaffHeads$Signs" "size" "I", Cond.methodLink RX1 139 yX2_together, Cond.instanceMethod yX2_together, Cond.selects RX2 yX2_together yX2_together, Cond.code yX2_together cX2_together 3 (some .boolean), Cond.fieldLink RX2 18 "StaffHeads$Notes" "tick" "[I", Cond.methodLink RX1 149 yX0_add]
def wsX5_gap_r5 : List Cond := [Cond.instanceMethod yX0_add, Cond.selects RX0 yX0_add yX0_add, Cond.code yX0_add cX0_add 4 none, Cond.fieldLink RX0 26 "StaffHeads$Chord" "lowest" "I", Cond.methodLink RX0 29 Lib.Math.min.name, Cond.static Lib.Math.min.name, Cond.initialized "java/lang/Math", Cond.code Lib.Math.min.name Lib.Math.min.code 2 (some .int), Cond.fieldLink RX0 35 "StaffHeads$Chord" "highest" "I", Cond.methodLink RX0 38 Lib.Math.max.name, Cond.static Lib.Math.max.name, Cond.code Lib.Math.max.name Lib.Math.max.code 2 (some .int), Cond.fieldLink RX0 9 "StaffHeads$Chord" "heads" "[I", Cond.methodLink RX1 153 yX3_add, Cond.instanceMethod yX3_add, Cond.selects RX3 yX3_add yX3_add, Cond.code yX3_add cX3_add 2 none, Cond.fieldLink RX3 9 "StaffHeads$Signs" "bearers" "[I", Cond.methodLink RX1 107 yX1_turnStems, Cond.instanceMethod yX1_turnStems, Cond.selects RX1 yX1_turnStems yX1_turnStems, Cond.code yX1_turnStems cX1_turnStems 6 none, Cond.fieldLink RX1 159 "StaffHeads$Chord" "up" "Z", Cond.fieldLink RX1 19 "StaffHeads$Layout" "stem" "[I"]
def wsX5_gap_r6 : List Cond := [Cond.fieldLink RX1 162 "StaffHeads$Chord" "heads" "[I", Cond.methodLink RX1 155 yX0_liesLow, Cond.instanceMethod yX0_liesLow, Cond.selects RX0 yX0_liesLow yX0_liesLow, Cond.code yX0_liesLow cX0_liesLow 1 (some .boolean), Cond.methodLink RX1 111 yX0_sortFromStemsFarEnd, Cond.instanceMethod yX0_sortFromStemsFarEnd, Cond.selects RX0 yX0_sortFromStemsFarEnd yX0_sortFromStemsFarEnd, Cond.code yX0_sortFromStemsFarEnd cX0_sortFromStemsFarEnd 5 none, Cond.methodLink RX0 41 yX0_isBefore, Cond.instanceMethod yX0_isBefore, Cond.selects RX0 yX0_isBefore yX0_isBefore, Cond.code yX0_isBefore cX0_isBefore 3 (some .boolean), Cond.fieldLink RX0 45 "StaffHeads$Chord" "up" "Z", Cond.methodLink RX1 115 yX0_turnHeads, Cond.instanceMethod yX0_turnHeads, Cond.selects RX0 yX0_turnHeads yX0_turnHeads, Cond.code yX0_turnHeads cX0_turnHeads 7 none, Cond.methodLink RX0 48 Lib.Math.abs.name, Cond.static Lib.Math.abs.name, Cond.code Lib.Math.abs.name Lib.Math.abs.code 1 (some .int), Cond.methodLink RX1 119 yX1_moveChords, Cond.instanceMethod yX1_moveChords, Cond.selects RX1 yX1_moveChords yX1_moveChords]
def wsX5_gap_r7 : List Cond := [Cond.code yX1_moveChords cX1_moveChords 4 none, Cond.fieldLink RX1 165 "StaffHeads$Chord" "moved" "I", Cond.methodLink RX1 167 yX1_liesOverLesser, Cond.instanceMethod yX1_liesOverLesser, Cond.selects RX1 yX1_liesOverLesser yX1_liesOverLesser, Cond.code yX1_liesOverLesser cX1_liesOverLesser 4 (some .boolean), Cond.methodLink RX1 171 yX1_lieOver, Cond.instanceMethod yX1_lieOver, Cond.selects RX1 yX1_lieOver yX1_lieOver, Cond.code yX1_lieOver cX1_lieOver 8 (some .boolean), Cond.methodLink RX1 175 Lib.Math.abs.name, Cond.methodLink RX1 181 yX1_areShared, Cond.instanceMethod yX1_areShared, Cond.selects RX1 yX1_areShared yX1_areShared, Cond.code yX1_areShared cX1_areShared 4 (some .boolean), Cond.methodLink RX1 126 yX1_keep, Cond.instanceMethod yX1_keep, Cond.selects RX1 yX1_keep yX1_keep, Cond.code yX1_keep cX1_keep 4 none, Cond.fieldLink RX1 25 "StaffHeads$Layout" "moved" "[I", Cond.fieldLink RX1 28 "StaffHeads$Layout" "chordSize" "[I", Cond.methodLink RX1 189 Lib.Math.max.name, Cond.methodLink RX1 195 Lib.Math.min.name, Cond.methodLink RX1 185 yX0_reachUp]
def wsX5_gap_r8 : List Cond := [Cond.instanceMethod yX0_reachUp, Cond.selects RX0 yX0_reachUp yX0_reachUp, Cond.code yX0_reachUp cX0_reachUp 1 (some .int), Cond.methodLink RX1 192 yX0_reachDown, Cond.instanceMethod yX0_reachDown, Cond.selects RX0 yX0_reachDown yX0_reachDown, Cond.code yX0_reachDown cX0_reachDown 1 (some .int), Cond.methodLink RX1 133 yX3_placeAll, Cond.instanceMethod yX3_placeAll, Cond.selects RX3 yX3_placeAll yX3_placeAll, Cond.code yX3_placeAll cX3_placeAll 7 (some .int), Cond.fieldLink RX3 15 "StaffHeads$Signs" "takenInTurn" "[I", Cond.methodLink RX3 36 Lib.Math.max.name, Cond.methodLink RX3 22 yJ7_fill_53178, Cond.methodLink RX3 28 yX3_outermost, Cond.instanceMethod yX3_outermost, Cond.selects RX3 yX3_outermost yX3_outermost, Cond.code yX3_outermost cX3_outermost 7 (some .int), Cond.methodLink RX3 32 yX3_columnFor, Cond.instanceMethod yX3_columnFor, Cond.selects RX3 yX3_columnFor yX3_columnFor, Cond.code yX3_columnFor cX3_columnFor 8 (some .int), Cond.methodLink RX3 42 Lib.Math.abs.name, Cond.methodLink RX5 152 yX5_shownAbove]
def wsX5_gap_r9 : List Cond := [Cond.instanceMethod yX5_shownAbove, Cond.selects RX5 yX5_shownAbove yX5_shownAbove, Cond.code yX5_shownAbove cX5_shownAbove 3 (some .int), Cond.methodLink RX5 155 yX5_gapBetween, Cond.instanceMethod yX5_gapBetween, Cond.selects RX5 yX5_gapBetween yX5_gapBetween, Cond.code yX5_gapBetween cX5_gapBetween 7 (some .int), Cond.fieldLink RX5 34 "StaffHeads" "least" "I", Cond.fieldLink RX5 130 "StaffHeads$Layout" "low" "[I", Cond.fieldLink RX5 127 "StaffHeads$Layout" "high" "[I", Cond.fieldLink RX5 30 "StaffHeads" "pad" "I", Cond.methodLink RX5 177 Lib.Math.max.name, Cond.methodLink RX5 123 yX5_cellOf]
def wsX5_gap : List Cond := .code yX5_gap cX5_gap 2 (some .int) :: ((wsX5_gap_r1 ++ (wsX5_gap_r2 ++ (wsX5_gap_r3 ++ (wsX5_gap_r4 ++ (wsX5_gap_r5 ++ (wsX5_gap_r6 ++ (wsX5_gap_r7 ++ (wsX5_gap_r8 ++ wsX5_gap_r9)))))))) ++ wsX50 ++ wsX20 ++ wsX10 ++ wsX40 ++ wsX00 ++ wsX30)
def wsX5_place_r1 : List Cond := [Cond.constantLong RX5 114 (-1001), Cond.constantLong RX5 158 (-1000), Cond.fieldLink RX5 26 "StaffHeads" "layout" "LStaffHeads$Layout;", Cond.fieldLink RX5 19 "StaffHeads" "notes" "LStaffHeads$Notes;", Cond.fieldLink RX5 10 "StaffHeads" "staves" "LStaffHeads$Staves;", Cond.fieldLink RX5 46 "StaffHeads" "unit" "I", Cond.methodLink RX5 49 yX5_isStaff, Cond.static yX5_isStaff, Cond.initialized RX5, Cond.code yX5_isStaff cX5_isStaff 1 (some .boolean), Cond.methodLink RX5 42 yX5_within, Cond.static yX5_within, Cond.code yX5_within cX5_within 3 (some .boolean), Cond.methodLink RX5 149 yX5_isHidden, Cond.instanceMethod yX5_isHidden, Cond.selects RX5 yX5_isHidden yX5_isHidden, Cond.code yX5_isHidden cX5_isHidden 2 (some .boolean), Cond.fieldLink RX5 37 "StaffHeads" "hiding" "Z", Cond.methodLink RX5 174 yX2_anyOn, Cond.instanceMethod yX2_anyOn, Cond.selects RX2 yX2_anyOn yX2_anyOn, Cond.initialized RX2, Cond.code yX2_anyOn cX2_anyOn 3 (some .boolean), Cond.fieldLink RX2 30 "StaffHeads$Notes" "count" "I"]
def wsX5_place_r2 : List Cond := [Cond.fieldLink RX2 9 "StaffHeads$Notes" "staff" "[I", Cond.methodLink RX5 92 yX1_refresh, Cond.instanceMethod yX1_refresh, Cond.selects RX1 yX1_refresh yX1_refresh, Cond.initialized RX1, Cond.code yX1_refresh cX1_refresh 5 none, Cond.fieldLink RX1 9 "StaffHeads$Layout" "stale" "Z", Cond.fieldLink RX1 69 "StaffHeads$Notes" "count" "I", Cond.fieldLink RX1 15 "StaffHeads$Layout" "step" "[I", Cond.fieldLink RX1 75 "StaffHeads$Notes" "staff" "[I", Cond.fieldLink RX1 78 "StaffHeads$Notes" "tick" "[I", Cond.fieldLink RX1 81 "StaffHeads$Notes" "number" "[I", Cond.fieldLink RX1 40 "StaffHeads$Layout" "noteCount" "[I", Cond.methodLink RX1 66 yX1_clear, Cond.instanceMethod yX1_clear, Cond.selects RX1 yX1_clear yX1_clear, Cond.code yX1_clear cX1_clear 1 none, Cond.fieldLink RX1 31 "StaffHeads$Layout" "signColumn" "[I", Cond.fieldLink RX1 34 "StaffHeads$Layout" "high" "[I", Cond.fieldLink RX1 37 "StaffHeads$Layout" "low" "[I", Cond.fieldLink RX1 43 "StaffHeads$Layout" "chordCount" "[I", Cond.fieldLink RX1 46 "StaffHeads$Layout" "signColumns" "[I", Cond.fieldLink RX1 49 "StaffHeads$Layout" "mostMoved" "[I", Cond.methodLink RX1 98 yJ7_fill_53178]
def wsX5_place_r3 : List Cond := [Cond.static yJ7_fill_53178, Cond.initialized RJ7, Cond.code yJ7_fill_53178 cJ7_fill_53178 4 none, Cond.methodLink RX1 84 yX4_stepOf, Cond.instanceMethod yX4_stepOf, Cond.selects RX4 yX4_stepOf yX4_stepOf, Cond.initialized RX4, Cond.code yX4_stepOf cX4_stepOf 6 (some .int), Cond.fieldLink RX4 27 "StaffHeads$Staves" "shifts" "I", Cond.fieldLink RX4 15 "StaffHeads$Staves" "shiftStaff" "[I", Cond.fieldLink RX4 18 "StaffHeads$Staves" "shiftFrom" "[I", Cond.fieldLink RX4 21 "StaffHeads$Staves" "shiftTo" "[I", Cond.fieldLink RX4 24 "StaffHeads$Staves" "shiftOctaves" "[I", Cond.fieldLink RX4 9 "StaffHeads$Staves" "lowestLine" "[I", Cond.static yX5_cellOf, Cond.code yX5_cellOf cX5_cellOf 2 (some .int), Cond.methodLink RX1 94 yX1_layCell, Cond.instanceMethod yX1_layCell, Cond.selects RX1 yX1_layCell yX1_layCell, Cond.code yX1_layCell cX1_layCell 5 none, Cond.fieldLink RX1 55 "StaffHeads$Layout" "chords" "[LStaffHeads$Chord;", Cond.fieldLink RX1 22 "StaffHeads$Layout" "aside" "[I", Cond.fieldLink RX1 123 "StaffHeads$Chord" "size" "I", Cond.fieldLink RX1 62 "StaffHeads$Layout" "signs" "LStaffHeads$Signs;"]
def wsX5_place_r4 : List Cond := [Cond.fieldLink RX1 130 "StaffHeads$Notes" "sign" "[I", Cond.methodLink RX1 104 yX1_gather, Cond.instanceMethod yX1_gather, Cond.selects RX1 yX1_gather yX1_gather, Cond.code yX1_gather cX1_gather 5 none, Cond.fieldLink RX1 143 "StaffHeads$Notes" "voice" "[I", Cond.fieldLink RX1 146 "StaffHeads$Notes" "head" "[I", Cond.methodLink RX1 137 yX0_clear, Cond.instanceMethod yX0_clear, Cond.selects RX0 yX0_clear yX0_clear, Cond.initialized RX0, Cond.code yX0_clear cX0_clear 1 none, Cond.fieldLink RX0 15 "StaffHeads$Chord" "size" "I", Cond.fieldLink RX0 19 "StaffHeads$Chord" "onlyWhole" "Z", Cond.fieldLink RX0 23 "StaffHeads$Chord" "moved" "I", Cond.methodLink RX1 138 yX3_clear, Cond.instanceMethod yX3_clear, Cond.selects RX3 yX3_clear yX3_clear, Cond.initialized RX3, Cond.code yX3_clear cX3_clear 1 none, Cond.fieldLink RX3 18 "StaffHeads$Signs" "size" "I", Cond.methodLink RX1 139 yX2_together, Cond.instanceMethod yX2_together, Cond.selects RX2 yX2_together yX2_together]
def wsX5_place_r5 : List Cond := [Cond.code yX2_together cX2_together 3 (some .boolean), Cond.fieldLink RX2 18 "StaffHeads$Notes" "tick" "[I", Cond.methodLink RX1 149 yX0_add, Cond.instanceMethod yX0_add, Cond.selects RX0 yX0_add yX0_add, Cond.code yX0_add cX0_add 4 none, Cond.fieldLink RX0 26 "StaffHeads$Chord" "lowest" "I", Cond.methodLink RX0 29 Lib.Math.min.name, Cond.static Lib.Math.min.name, Cond.initialized "java/lang/Math", Cond.code Lib.Math.min.name Lib.Math.min.code 2 (some .int), Cond.fieldLink RX0 35 "StaffHeads$Chord" "highest" "I", Cond.methodLink RX0 38 Lib.Math.max.name, Cond.static Lib.Math.max.name, Cond.code Lib.Math.max.name Lib.Math.max.code 2 (some .int), Cond.fieldLink RX0 9 "StaffHeads$Chord" "heads" "[I", Cond.methodLink RX1 153 yX3_add, Cond.instanceMethod yX3_add, Cond.selects RX3 yX3_add yX3_add, Cond.code yX3_add cX3_add 2 none, Cond.fieldLink RX3 9 "StaffHeads$Signs" "bearers" "[I", Cond.methodLink RX1 107 yX1_turnStems, Cond.instanceMethod yX1_turnStems, Cond.selects RX1 yX1_turnStems yX1_turnStems]
def wsX5_place_r6 : List Cond := [Cond.code yX1_turnStems cX1_turnStems 6 none, Cond.fieldLink RX1 159 "StaffHeads$Chord" "up" "Z", Cond.fieldLink RX1 19 "StaffHeads$Layout" "stem" "[I", Cond.fieldLink RX1 162 "StaffHeads$Chord" "heads" "[I", Cond.methodLink RX1 155 yX0_liesLow, Cond.instanceMethod yX0_liesLow, Cond.selects RX0 yX0_liesLow yX0_liesLow, Cond.code yX0_liesLow cX0_liesLow 1 (some .boolean), Cond.methodLink RX1 111 yX0_sortFromStemsFarEnd, Cond.instanceMethod yX0_sortFromStemsFarEnd, Cond.selects RX0 yX0_sortFromStemsFarEnd yX0_sortFromStemsFarEnd, Cond.code yX0_sortFromStemsFarEnd cX0_sortFromStemsFarEnd 5 none, Cond.methodLink RX0 41 yX0_isBefore, Cond.instanceMethod yX0_isBefore, Cond.selects RX0 yX0_isBefore yX0_isBefore, Cond.code yX0_isBefore cX0_isBefore 3 (some .boolean), Cond.fieldLink RX0 45 "StaffHeads$Chord" "up" "Z", Cond.methodLink RX1 115 yX0_turnHeads, Cond.instanceMethod yX0_turnHeads, Cond.selects RX0 yX0_turnHeads yX0_turnHeads, Cond.code yX0_turnHeads cX0_turnHeads 7 none, Cond.methodLink RX0 48 Lib.Math.abs.name, Cond.static Lib.Math.abs.name, Cond.code Lib.Math.abs.name Lib.Math.abs.code 1 (some .int)]
def wsX5_place_r7 : List Cond := [Cond.methodLink RX1 119 yX1_moveChords, Cond.instanceMethod yX1_moveChords, Cond.selects RX1 yX1_moveChords yX1_moveChords, Cond.code yX1_moveChords cX1_moveChords 4 none, Cond.fieldLink RX1 165 "StaffHeads$Chord" "moved" "I", Cond.methodLink RX1 167 yX1_liesOverLesser, Cond.instanceMethod yX1_liesOverLesser, Cond.selects RX1 yX1_liesOverLesser yX1_liesOverLesser, Cond.code yX1_liesOverLesser cX1_liesOverLesser 4 (some .boolean), Cond.methodLink RX1 171 yX1_lieOver, Cond.instanceMethod yX1_lieOver, Cond.selects RX1 yX1_lieOver yX1_lieOver, Cond.code yX1_lieOver cX1_lieOver 8 (some .boolean), Cond.methodLink RX1 175 Lib.Math.abs.name, Cond.methodLink RX1 181 yX1_areShared, Cond.instanceMethod yX1_areShared, Cond.selects RX1 yX1_areShared yX1_areShared, Cond.code yX1_areShared cX1_areShared 4 (some .boolean), Cond.methodLink RX1 126 yX1_keep, Cond.instanceMethod yX1_keep, Cond.selects RX1 yX1_keep yX1_keep, Cond.code yX1_keep cX1_keep 4 none, Cond.fieldLink RX1 25 "StaffHeads$Layout" "moved" "[I", Cond.fieldLink RX1 28 "StaffHeads$Layout" "chordSize" "[I"]
def wsX5_place_r8 : List Cond := [Cond.methodLink RX1 189 Lib.Math.max.name, Cond.methodLink RX1 195 Lib.Math.min.name, Cond.methodLink RX1 185 yX0_reachUp, Cond.instanceMethod yX0_reachUp, Cond.selects RX0 yX0_reachUp yX0_reachUp, Cond.code yX0_reachUp cX0_reachUp 1 (some .int), Cond.methodLink RX1 192 yX0_reachDown, Cond.instanceMethod yX0_reachDown, Cond.selects RX0 yX0_reachDown yX0_reachDown, Cond.code yX0_reachDown cX0_reachDown 1 (some .int), Cond.methodLink RX1 133 yX3_placeAll, Cond.instanceMethod yX3_placeAll, Cond.selects RX3 yX3_placeAll yX3_placeAll, Cond.code yX3_placeAll cX3_placeAll 7 (some .int), Cond.fieldLink RX3 15 "StaffHeads$Signs" "takenInTurn" "[I", Cond.methodLink RX3 36 Lib.Math.max.name, Cond.methodLink RX3 22 yJ7_fill_53178, Cond.methodLink RX3 28 yX3_outermost, Cond.instanceMethod yX3_outermost, Cond.selects RX3 yX3_outermost yX3_outermost, Cond.code yX3_outermost cX3_outermost 7 (some .int), Cond.methodLink RX3 32 yX3_columnFor, Cond.instanceMethod yX3_columnFor, Cond.selects RX3 yX3_columnFor yX3_columnFor]
def wsX5_place_r9 : List Cond := [Cond.code yX3_columnFor cX3_columnFor 8 (some .int), Cond.methodLink RX3 42 Lib.Math.abs.name, Cond.methodLink RX5 119 yX5_stepsDownTo, Cond.instanceMethod yX5_stepsDownTo, Cond.selects RX5 yX5_stepsDownTo yX5_stepsDownTo, Cond.code yX5_stepsDownTo cX5_stepsDownTo 4 (some .int), Cond.methodLink RX5 152 yX5_shownAbove, Cond.instanceMethod yX5_shownAbove, Cond.selects RX5 yX5_shownAbove yX5_shownAbove, Cond.code yX5_shownAbove cX5_shownAbove 3 (some .int), Cond.methodLink RX5 155 yX5_gapBetween, Cond.instanceMethod yX5_gapBetween, Cond.selects RX5 yX5_gapBetween yX5_gapBetween, Cond.code yX5_gapBetween cX5_gapBetween 7 (some .int), Cond.fieldLink RX5 34 "StaffHeads" "least" "I", Cond.fieldLink RX5 130 "StaffHeads$Layout" "low" "[I", Cond.fieldLink RX5 127 "StaffHeads$Layout" "high" "[I", Cond.fieldLink RX5 30 "StaffHeads" "pad" "I", Cond.methodLink RX5 177 Lib.Math.max.name, Cond.methodLink RX5 123 yX5_cellOf]
def wsX5_place : List Cond := .code yX5_place cX5_place 2 (some .long) :: ((wsX5_place_r1 ++ (wsX5_place_r2 ++ (wsX5_place_r3 ++ (wsX5_place_r4 ++ (wsX5_place_r5 ++ (wsX5_place_r6 ++ (wsX5_place_r7 ++ (wsX5_place_r8 ++ wsX5_place_r9)))))))) ++ wsX50 ++ wsX20 ++ wsX10 ++ wsX40 ++ wsX00 ++ wsX30)
def wsX5_crowded_r1 : List Cond := [Cond.classLink RX5 163 "java/lang/ArithmeticException", Cond.initialized "java/lang/ArithmeticException", Cond.fieldLink RX5 26 "StaffHeads" "layout" "LStaffHeads$Layout;", Cond.fieldLink RX5 19 "StaffHeads" "notes" "LStaffHeads$Notes;", Cond.fieldLink RX5 10 "StaffHeads" "staves" "LStaffHeads$Staves;", Cond.fieldLink RX5 133 "StaffHeads$Layout" "noteCount" "[I", Cond.fieldLink RX5 160 "StaffHeads$Layout" "mostMoved" "[I", Cond.methodLink RX5 49 yX5_isStaff, Cond.static yX5_isStaff, Cond.initialized RX5, Cond.code yX5_isStaff cX5_isStaff 1 (some .boolean), Cond.methodLink RX5 42 yX5_within, Cond.static yX5_within, Cond.code yX5_within cX5_within 3 (some .boolean), Cond.methodLink RX5 92 yX1_refresh, Cond.instanceMethod yX1_refresh, Cond.selects RX1 yX1_refresh yX1_refresh, Cond.initialized RX1, Cond.code yX1_refresh cX1_refresh 5 none, Cond.fieldLink RX1 9 "StaffHeads$Layout" "stale" "Z", Cond.fieldLink RX1 69 "StaffHeads$Notes" "count" "I", Cond.fieldLink RX1 15 "StaffHeads$Layout" "step" "[I", Cond.fieldLink RX1 75 "StaffHeads$Notes" "staff" "[I", Cond.fieldLink RX1 78 "StaffHeads$Notes" "tick" "[I"]
def wsX5_crowded_r2 : List Cond := [Cond.fieldLink RX1 81 "StaffHeads$Notes" "number" "[I", Cond.fieldLink RX1 40 "StaffHeads$Layout" "noteCount" "[I", Cond.methodLink RX1 66 yX1_clear, Cond.instanceMethod yX1_clear, Cond.selects RX1 yX1_clear yX1_clear, Cond.code yX1_clear cX1_clear 1 none, Cond.fieldLink RX1 31 "StaffHeads$Layout" "signColumn" "[I", Cond.fieldLink RX1 34 "StaffHeads$Layout" "high" "[I", Cond.fieldLink RX1 37 "StaffHeads$Layout" "low" "[I", Cond.fieldLink RX1 43 "StaffHeads$Layout" "chordCount" "[I", Cond.fieldLink RX1 46 "StaffHeads$Layout" "signColumns" "[I", Cond.fieldLink RX1 49 "StaffHeads$Layout" "mostMoved" "[I", Cond.methodLink RX1 98 yJ7_fill_53178, Cond.static yJ7_fill_53178, Cond.initialized RJ7, Cond.code yJ7_fill_53178 cJ7_fill_53178 4 none, Cond.methodLink RX1 84 yX4_stepOf, Cond.instanceMethod yX4_stepOf, Cond.selects RX4 yX4_stepOf yX4_stepOf, Cond.initialized RX4, Cond.code yX4_stepOf cX4_stepOf 6 (some .int), Cond.fieldLink RX4 27 "StaffHeads$Staves" "shifts" "I", Cond.fieldLink RX4 15 "StaffHeads$Staves" "shiftStaff" "[I", Cond.fieldLink RX4 18 "StaffHeads$Staves" "shiftFrom" "[I"]
def wsX5_crowded_r3 : List Cond := [Cond.fieldLink RX4 21 "StaffHeads$Staves" "shiftTo" "[I", Cond.fieldLink RX4 24 "StaffHeads$Staves" "shiftOctaves" "[I", Cond.fieldLink RX4 9 "StaffHeads$Staves" "lowestLine" "[I", Cond.static yX5_cellOf, Cond.code yX5_cellOf cX5_cellOf 2 (some .int), Cond.methodLink RX1 94 yX1_layCell, Cond.instanceMethod yX1_layCell, Cond.selects RX1 yX1_layCell yX1_layCell, Cond.code yX1_layCell cX1_layCell 5 none, Cond.fieldLink RX1 55 "StaffHeads$Layout" "chords" "[LStaffHeads$Chord;", Cond.fieldLink RX1 22 "StaffHeads$Layout" "aside" "[I", Cond.fieldLink RX1 123 "StaffHeads$Chord" "size" "I", Cond.fieldLink RX1 62 "StaffHeads$Layout" "signs" "LStaffHeads$Signs;", Cond.fieldLink RX1 130 "StaffHeads$Notes" "sign" "[I", Cond.methodLink RX1 104 yX1_gather, Cond.instanceMethod yX1_gather, Cond.selects RX1 yX1_gather yX1_gather, Cond.code yX1_gather cX1_gather 5 none, Cond.fieldLink RX1 143 "StaffHeads$Notes" "voice" "[I", Cond.fieldLink RX1 146 "StaffHeads$Notes" "head" "[I", Cond.methodLink RX1 137 yX0_clear, Cond.instanceMethod yX0_clear, Cond.selects RX0 yX0_clear yX0_clear, Cond.initialized RX0]
def wsX5_crowded_r4 : List Cond := [Cond.code yX0_clear cX0_clear 1 none, Cond.fieldLink RX0 15 "StaffHeads$Chord" "size" "I", Cond.fieldLink RX0 19 "StaffHeads$Chord" "onlyWhole" "Z", Cond.fieldLink RX0 23 "StaffHeads$Chord" "moved" "I", Cond.methodLink RX1 138 yX3_clear, Cond.instanceMethod yX3_clear, Cond.selects RX3 yX3_clear yX3_clear, Cond.initialized RX3, Cond.code yX3_clear cX3_clear 1 none, Cond.fieldLink RX3 18 "StaffHeads$Signs" "size" "I", Cond.methodLink RX1 139 yX2_together, Cond.instanceMethod yX2_together, Cond.selects RX2 yX2_together yX2_together, Cond.initialized RX2, Cond.code yX2_together cX2_together 3 (some .boolean), Cond.fieldLink RX2 9 "StaffHeads$Notes" "staff" "[I", Cond.fieldLink RX2 18 "StaffHeads$Notes" "tick" "[I", Cond.methodLink RX1 149 yX0_add, Cond.instanceMethod yX0_add, Cond.selects RX0 yX0_add yX0_add, Cond.code yX0_add cX0_add 4 none, Cond.fieldLink RX0 26 "StaffHeads$Chord" "lowest" "I", Cond.methodLink RX0 29 Lib.Math.min.name, Cond.static Lib.Math.min.name]
def wsX5_crowded_r5 : List Cond := [Cond.initialized "java/lang/Math", Cond.code Lib.Math.min.name Lib.Math.min.code 2 (some .int), Cond.fieldLink RX0 35 "StaffHeads$Chord" "highest" "I", Cond.methodLink RX0 38 Lib.Math.max.name, Cond.static Lib.Math.max.name, Cond.code Lib.Math.max.name Lib.Math.max.code 2 (some .int), Cond.fieldLink RX0 9 "StaffHeads$Chord" "heads" "[I", Cond.methodLink RX1 153 yX3_add, Cond.instanceMethod yX3_add, Cond.selects RX3 yX3_add yX3_add, Cond.code yX3_add cX3_add 2 none, Cond.fieldLink RX3 9 "StaffHeads$Signs" "bearers" "[I", Cond.methodLink RX1 107 yX1_turnStems, Cond.instanceMethod yX1_turnStems, Cond.selects RX1 yX1_turnStems yX1_turnStems, Cond.code yX1_turnStems cX1_turnStems 6 none, Cond.fieldLink RX1 159 "StaffHeads$Chord" "up" "Z", Cond.fieldLink RX1 19 "StaffHeads$Layout" "stem" "[I", Cond.fieldLink RX1 162 "StaffHeads$Chord" "heads" "[I", Cond.methodLink RX1 155 yX0_liesLow, Cond.instanceMethod yX0_liesLow, Cond.selects RX0 yX0_liesLow yX0_liesLow, Cond.code yX0_liesLow cX0_liesLow 1 (some .boolean), Cond.methodLink RX1 111 yX0_sortFromStemsFarEnd]
def wsX5_crowded_r6 : List Cond := [Cond.instanceMethod yX0_sortFromStemsFarEnd, Cond.selects RX0 yX0_sortFromStemsFarEnd yX0_sortFromStemsFarEnd, Cond.code yX0_sortFromStemsFarEnd cX0_sortFromStemsFarEnd 5 none, Cond.methodLink RX0 41 yX0_isBefore, Cond.instanceMethod yX0_isBefore, Cond.selects RX0 yX0_isBefore yX0_isBefore, Cond.code yX0_isBefore cX0_isBefore 3 (some .boolean), Cond.fieldLink RX0 45 "StaffHeads$Chord" "up" "Z", Cond.methodLink RX1 115 yX0_turnHeads, Cond.instanceMethod yX0_turnHeads, Cond.selects RX0 yX0_turnHeads yX0_turnHeads, Cond.code yX0_turnHeads cX0_turnHeads 7 none, Cond.methodLink RX0 48 Lib.Math.abs.name, Cond.static Lib.Math.abs.name, Cond.code Lib.Math.abs.name Lib.Math.abs.code 1 (some .int), Cond.methodLink RX1 119 yX1_moveChords, Cond.instanceMethod yX1_moveChords, Cond.selects RX1 yX1_moveChords yX1_moveChords, Cond.code yX1_moveChords cX1_moveChords 4 none, Cond.fieldLink RX1 165 "StaffHeads$Chord" "moved" "I", Cond.methodLink RX1 167 yX1_liesOverLesser, Cond.instanceMethod yX1_liesOverLesser, Cond.selects RX1 yX1_liesOverLesser yX1_liesOverLesser, Cond.code yX1_liesOverLesser cX1_liesOverLesser 4 (some .boolean)]
def wsX5_crowded_r7 : List Cond := [Cond.methodLink RX1 171 yX1_lieOver, Cond.instanceMethod yX1_lieOver, Cond.selects RX1 yX1_lieOver yX1_lieOver, Cond.code yX1_lieOver cX1_lieOver 8 (some .boolean), Cond.methodLink RX1 175 Lib.Math.abs.name, Cond.methodLink RX1 181 yX1_areShared, Cond.instanceMethod yX1_areShared, Cond.selects RX1 yX1_areShared yX1_areShared, Cond.code yX1_areShared cX1_areShared 4 (some .boolean), Cond.methodLink RX1 126 yX1_keep, Cond.instanceMethod yX1_keep, Cond.selects RX1 yX1_keep yX1_keep, Cond.code yX1_keep cX1_keep 4 none, Cond.fieldLink RX1 25 "StaffHeads$Layout" "moved" "[I", Cond.fieldLink RX1 28 "StaffHeads$Layout" "chordSize" "[I", Cond.methodLink RX1 189 Lib.Math.max.name, Cond.methodLink RX1 195 Lib.Math.min.name, Cond.methodLink RX1 185 yX0_reachUp, Cond.instanceMethod yX0_reachUp, Cond.selects RX0 yX0_reachUp yX0_reachUp, Cond.code yX0_reachUp cX0_reachUp 1 (some .int), Cond.methodLink RX1 192 yX0_reachDown, Cond.instanceMethod yX0_reachDown, Cond.selects RX0 yX0_reachDown yX0_reachDown]
def wsX5_crowded_r8 : List Cond := [Cond.code yX0_reachDown cX0_reachDown 1 (some .int), Cond.methodLink RX1 133 yX3_placeAll, Cond.instanceMethod yX3_placeAll, Cond.selects RX3 yX3_placeAll yX3_placeAll, Cond.code yX3_placeAll cX3_placeAll 7 (some .int), Cond.fieldLink RX3 15 "StaffHeads$Signs" "takenInTurn" "[I", Cond.methodLink RX3 36 Lib.Math.max.name, Cond.methodLink RX3 22 yJ7_fill_53178, Cond.methodLink RX3 28 yX3_outermost, Cond.instanceMethod yX3_outermost, Cond.selects RX3 yX3_outermost yX3_outermost, Cond.code yX3_outermost cX3_outermost 7 (some .int), Cond.methodLink RX3 32 yX3_columnFor, Cond.instanceMethod yX3_columnFor, Cond.selects RX3 yX3_columnFor yX3_columnFor, Cond.code yX3_columnFor cX3_columnFor 8 (some .int), Cond.methodLink RX3 42 Lib.Math.abs.name, Cond.methodLink RX5 123 yX5_cellOf]
def wsX5_crowded : List Cond := .code yX5_crowded cX5_crowded 6 (some .int) :: ((wsX5_crowded_r1 ++ (wsX5_crowded_r2 ++ (wsX5_crowded_r3 ++ (wsX5_crowded_r4 ++ (wsX5_crowded_r5 ++ (wsX5_crowded_r6 ++ (wsX5_crowded_r7 ++ wsX5_crowded_r8))))))) ++ wsX50 ++ wsX10 ++ wsX20 ++ wsX40 ++ wsX00 ++ wsX30 ++ (vx_atS RX5 167 "java/lang/ArithmeticException" ["java/lang/RuntimeException", "java/lang/Exception"]).filter goodWord)
def wsX5_shownStaves : List Cond := .code yX5_shownStaves cX5_shownStaves 3 (some .int) :: ([.methodLink RX5 149 yX5_isHidden, .instanceMethod yX5_isHidden, .selects RX5 yX5_isHidden yX5_isHidden, .initialized RX5, .code yX5_isHidden cX5_isHidden 2 (some .boolean), .fieldLink RX5 37 "StaffHeads" "hiding" "Z", .fieldLink RX5 19 "StaffHeads" "notes" "LStaffHeads$Notes;", .methodLink RX5 174 yX2_anyOn, .instanceMethod yX2_anyOn, .selects RX2 yX2_anyOn yX2_anyOn, .initialized RX2, .code yX2_anyOn cX2_anyOn 3 (some .boolean), .fieldLink RX2 30 "StaffHeads$Notes" "count" "I", .fieldLink RX2 9 "StaffHeads$Notes" "staff" "[I"] ++ wsX50 ++ wsX20)
def wsX5_about : List Cond := .code yX5_about cX5_about 2 (some .int) :: ([.fieldLink RX5 19 "StaffHeads" "notes" "LStaffHeads$Notes;", .fieldLink RX5 78 "StaffHeads$Notes" "count" "I", .fieldLink RX5 10 "StaffHeads" "staves" "LStaffHeads$Staves;", .fieldLink RX5 67 "StaffHeads$Staves" "shifts" "I", .methodLink RX5 170 yX5_shownStaves, .instanceMethod yX5_shownStaves, .selects RX5 yX5_shownStaves yX5_shownStaves, .initialized RX5, .code yX5_shownStaves cX5_shownStaves 3 (some .int), .methodLink RX5 149 yX5_isHidden, .instanceMethod yX5_isHidden, .selects RX5 yX5_isHidden yX5_isHidden, .code yX5_isHidden cX5_isHidden 2 (some .boolean), .fieldLink RX5 37 "StaffHeads" "hiding" "Z", .methodLink RX5 174 yX2_anyOn, .instanceMethod yX2_anyOn, .selects RX2 yX2_anyOn yX2_anyOn, .initialized RX2, .code yX2_anyOn cX2_anyOn 3 (some .boolean), .fieldLink RX2 30 "StaffHeads$Notes" "count" "I", .fieldLink RX2 9 "StaffHeads$Notes" "staff" "[I"] ++ wsX50 ++ wsX20 ++ wsX40)
def wsX6_init : List Cond := .code yX6_init cX6_init 3 none :: ([.methodLink RX6 1 objectInit, .instanceMethod objectInit, .code objectInit ⟨#[0xb1]⟩ 1 none, .arrayClass .int, .fieldLink RX6 7 "StaffHeadsModel" "clefKind" "[I", .fieldLink RX6 13 "StaffHeadsModel" "clefLine" "[I", .fieldLink RX6 16 "StaffHeadsModel" "shiftStaff" "[I", .fieldLink RX6 19 "StaffHeadsModel" "shiftFrom" "[I", .fieldLink RX6 22 "StaffHeadsModel" "shiftTo" "[I", .fieldLink RX6 25 "StaffHeadsModel" "shiftBy" "[I", .fieldLink RX6 28 "StaffHeadsModel" "staffOf" "[I", .fieldLink RX6 31 "StaffHeadsModel" "voiceOf" "[I", .fieldLink RX6 34 "StaffHeadsModel" "tickOf" "[I", .fieldLink RX6 37 "StaffHeadsModel" "numberOf" "[I", .fieldLink RX6 40 "StaffHeadsModel" "signOf" "[I", .fieldLink RX6 43 "StaffHeadsModel" "headOf" "[I", .fieldLink RX6 46 "StaffHeadsModel" "pad" "I", .fieldLink RX6 50 "StaffHeadsModel" "least" "I", .fieldLink RX6 53 "StaffHeadsModel" "stepOf" "[I", .fieldLink RX6 56 "StaffHeadsModel" "movedBy" "[I", .fieldLink RX6 59 "StaffHeadsModel" "columnOf" "[I", .fieldLink RX6 62 "StaffHeadsModel" "signColumn" "[I", .constant RX6 65 (65536), .fieldLink RX6 66 "StaffHeadsModel" "unit" "I"] ++ wsX60)
def wsX6_thrown : List Cond := .code yX6_thrown cX6_thrown 1 (some .int) :: ([.fieldLink RX6 69 "StaffHeadsModel" "thrown" "I"] ++ wsX60)
def wsX6_in : List Cond := .code yX6_in cX6_in 3 (some .boolean) :: ([])
def wsX6_isStaff : List Cond := .code yX6_isStaff cX6_isStaff 1 (some .boolean) :: ([.methodLink RX6 72 yX6_in, .static yX6_in, .initialized RX6, .code yX6_in cX6_in 3 (some .boolean)])
def wsX6_isNote : List Cond := .code yX6_isNote cX6_isNote 2 (some .boolean) :: ([.fieldLink RX6 76 "StaffHeadsModel" "notes" "I", .methodLink RX6 72 yX6_in, .static yX6_in, .initialized RX6, .code yX6_in cX6_in 3 (some .boolean)] ++ wsX60)
def wsX6_clef : List Cond := .code yX6_clef cX6_clef 4 (some .int) :: ([.fieldLink RX6 69 "StaffHeadsModel" "thrown" "I", .fieldLink RX6 7 "StaffHeadsModel" "clefKind" "[I", .fieldLink RX6 13 "StaffHeadsModel" "clefLine" "[I", .methodLink RX6 79 yX6_isStaff, .static yX6_isStaff, .initialized RX6, .code yX6_isStaff cX6_isStaff 1 (some .boolean), .methodLink RX6 72 yX6_in, .static yX6_in, .code yX6_in cX6_in 3 (some .boolean)] ++ wsX60)
def wsX6_shift : List Cond := .code yX6_shift cX6_shift 5 (some .int) :: ([.fieldLink RX6 69 "StaffHeadsModel" "thrown" "I", .fieldLink RX6 83 "StaffHeadsModel" "shifts" "I", .fieldLink RX6 16 "StaffHeadsModel" "shiftStaff" "[I", .fieldLink RX6 19 "StaffHeadsModel" "shiftFrom" "[I", .fieldLink RX6 22 "StaffHeadsModel" "shiftTo" "[I", .fieldLink RX6 25 "StaffHeadsModel" "shiftBy" "[I", .methodLink RX6 79 yX6_isStaff, .static yX6_isStaff, .initialized RX6, .code yX6_isStaff cX6_isStaff 1 (some .boolean), .methodLink RX6 72 yX6_in, .static yX6_in, .code yX6_in cX6_in 3 (some .boolean)] ++ wsX60)
def wsX6_plain : List Cond := .code yX6_plain cX6_plain 2 (some .int) :: ([.fieldLink RX6 69 "StaffHeadsModel" "thrown" "I", .fieldLink RX6 83 "StaffHeadsModel" "shifts" "I"] ++ wsX60)
def wsX6_note : List Cond := .code yX6_note cX6_note 8 (some .int) :: ([.fieldLink RX6 69 "StaffHeadsModel" "thrown" "I", .fieldLink RX6 76 "StaffHeadsModel" "notes" "I", .fieldLink RX6 28 "StaffHeadsModel" "staffOf" "[I", .fieldLink RX6 31 "StaffHeadsModel" "voiceOf" "[I", .fieldLink RX6 34 "StaffHeadsModel" "tickOf" "[I", .fieldLink RX6 37 "StaffHeadsModel" "numberOf" "[I", .fieldLink RX6 40 "StaffHeadsModel" "signOf" "[I", .fieldLink RX6 43 "StaffHeadsModel" "headOf" "[I", .methodLink RX6 79 yX6_isStaff, .static yX6_isStaff, .initialized RX6, .code yX6_isStaff cX6_isStaff 1 (some .boolean), .methodLink RX6 72 yX6_in, .static yX6_in, .code yX6_in cX6_in 3 (some .boolean)] ++ wsX60)
def wsX6_drop : List Cond := .code yX6_drop cX6_drop 3 (some .int) :: ([.fieldLink RX6 69 "StaffHeadsModel" "thrown" "I", .fieldLink RX6 76 "StaffHeadsModel" "notes" "I", .fieldLink RX6 28 "StaffHeadsModel" "staffOf" "[I", .fieldLink RX6 31 "StaffHeadsModel" "voiceOf" "[I", .fieldLink RX6 34 "StaffHeadsModel" "tickOf" "[I", .fieldLink RX6 37 "StaffHeadsModel" "numberOf" "[I", .fieldLink RX6 40 "StaffHeadsModel" "signOf" "[I", .fieldLink RX6 43 "StaffHeadsModel" "headOf" "[I", .methodLink RX6 86 yX6_isNote, .instanceMethod yX6_isNote, .selects RX6 yX6_isNote yX6_isNote, .initialized RX6, .code yX6_isNote cX6_isNote 2 (some .boolean), .methodLink RX6 72 yX6_in, .static yX6_in, .code yX6_in cX6_in 3 (some .boolean)] ++ wsX60)
def wsX6_reckonStep : List Cond := .code yX6_reckonStep cX6_reckonStep 6 (some .int) :: ([.fieldLink RX6 28 "StaffHeadsModel" "staffOf" "[I", .fieldLink RX6 7 "StaffHeadsModel" "clefKind" "[I", .fieldLink RX6 83 "StaffHeadsModel" "shifts" "I", .fieldLink RX6 16 "StaffHeadsModel" "shiftStaff" "[I", .fieldLink RX6 34 "StaffHeadsModel" "tickOf" "[I", .fieldLink RX6 19 "StaffHeadsModel" "shiftFrom" "[I", .fieldLink RX6 22 "StaffHeadsModel" "shiftTo" "[I", .fieldLink RX6 25 "StaffHeadsModel" "shiftBy" "[I", .fieldLink RX6 37 "StaffHeadsModel" "numberOf" "[I", .fieldLink RX6 13 "StaffHeadsModel" "clefLine" "[I", .methodLink RX6 72 yX6_in, .static yX6_in, .initialized RX6, .code yX6_in cX6_in 3 (some .boolean)] ++ wsX60)
def wsX6_reckon : List Cond := .code yX6_reckon cX6_reckon 2 none :: ([.fieldLink RX6 76 "StaffHeadsModel" "notes" "I", .fieldLink RX6 53 "StaffHeadsModel" "stepOf" "[I", .methodLink RX6 89 yX6_reckonStep, .instanceMethod yX6_reckonStep, .selects RX6 yX6_reckonStep yX6_reckonStep, .initialized RX6, .code yX6_reckonStep cX6_reckonStep 6 (some .int), .fieldLink RX6 28 "StaffHeadsModel" "staffOf" "[I", .fieldLink RX6 7 "StaffHeadsModel" "clefKind" "[I", .fieldLink RX6 83 "StaffHeadsModel" "shifts" "I", .fieldLink RX6 16 "StaffHeadsModel" "shiftStaff" "[I", .fieldLink RX6 34 "StaffHeadsModel" "tickOf" "[I", .fieldLink RX6 19 "StaffHeadsModel" "shiftFrom" "[I", .fieldLink RX6 22 "StaffHeadsModel" "shiftTo" "[I", .fieldLink RX6 25 "StaffHeadsModel" "shiftBy" "[I", .fieldLink RX6 37 "StaffHeadsModel" "numberOf" "[I", .fieldLink RX6 13 "StaffHeadsModel" "clefLine" "[I", .methodLink RX6 72 yX6_in, .static yX6_in, .code yX6_in cX6_in 3 (some .boolean)] ++ wsX60)
def wsX6_step : List Cond := .code yX6_step cX6_step 2 (some .int) :: ([.fieldLink RX6 53 "StaffHeadsModel" "stepOf" "[I"] ++ wsX60)
def wsX6_isAt : List Cond := .code yX6_isAt cX6_isAt 4 (some .boolean) :: ([.fieldLink RX6 28 "StaffHeadsModel" "staffOf" "[I", .fieldLink RX6 34 "StaffHeadsModel" "tickOf" "[I"] ++ wsX60)
def wsX6_isIn : List Cond := .code yX6_isIn cX6_isIn 5 (some .boolean) :: ([.fieldLink RX6 31 "StaffHeadsModel" "voiceOf" "[I", .methodLink RX6 93 yX6_isAt, .instanceMethod yX6_isAt, .selects RX6 yX6_isAt yX6_isAt, .initialized RX6, .code yX6_isAt cX6_isAt 4 (some .boolean), .fieldLink RX6 28 "StaffHeadsModel" "staffOf" "[I", .fieldLink RX6 34 "StaffHeadsModel" "tickOf" "[I"] ++ wsX60)
def wsX6_many : List Cond := .code yX6_many cX6_many 6 (some .int) :: ([.fieldLink RX6 76 "StaffHeadsModel" "notes" "I", .methodLink RX6 96 yX6_isIn, .instanceMethod yX6_isIn, .selects RX6 yX6_isIn yX6_isIn, .initialized RX6, .code yX6_isIn cX6_isIn 5 (some .boolean), .fieldLink RX6 31 "StaffHeadsModel" "voiceOf" "[I", .methodLink RX6 93 yX6_isAt, .instanceMethod yX6_isAt, .selects RX6 yX6_isAt yX6_isAt, .code yX6_isAt cX6_isAt 4 (some .boolean), .fieldLink RX6 28 "StaffHeadsModel" "staffOf" "[I", .fieldLink RX6 34 "StaffHeadsModel" "tickOf" "[I"] ++ wsX60)
def wsX6_end : List Cond := .code yX6_end cX6_end 8 (some .int) :: ([.fieldLink RX6 76 "StaffHeadsModel" "notes" "I", .methodLink RX6 96 yX6_isIn, .instanceMethod yX6_isIn, .selects RX6 yX6_isIn yX6_isIn, .initialized RX6, .code yX6_isIn cX6_isIn 5 (some .boolean), .fieldLink RX6 31 "StaffHeadsModel" "voiceOf" "[I", .methodLink RX6 93 yX6_isAt, .instanceMethod yX6_isAt, .selects RX6 yX6_isAt yX6_isAt, .code yX6_isAt cX6_isAt 4 (some .boolean), .fieldLink RX6 28 "StaffHeadsModel" "staffOf" "[I", .fieldLink RX6 34 "StaffHeadsModel" "tickOf" "[I", .methodLink RX6 100 yX6_step, .instanceMethod yX6_step, .selects RX6 yX6_step yX6_step, .code yX6_step cX6_step 2 (some .int), .fieldLink RX6 53 "StaffHeadsModel" "stepOf" "[I"] ++ wsX60)
def wsX6_stem_r1 : List Cond := [Cond.methodLink RX6 103 yX6_many, Cond.instanceMethod yX6_many, Cond.selects RX6 yX6_many yX6_many, Cond.initialized RX6, Cond.code yX6_many cX6_many 6 (some .int), Cond.fieldLink RX6 76 "StaffHeadsModel" "notes" "I", Cond.methodLink RX6 96 yX6_isIn, Cond.instanceMethod yX6_isIn, Cond.selects RX6 yX6_isIn yX6_isIn, Cond.code yX6_isIn cX6_isIn 5 (some .boolean), Cond.fieldLink RX6 31 "StaffHeadsModel" "voiceOf" "[I", Cond.methodLink RX6 93 yX6_isAt, Cond.instanceMethod yX6_isAt, Cond.selects RX6 yX6_isAt yX6_isAt, Cond.code yX6_isAt cX6_isAt 4 (some .boolean), Cond.fieldLink RX6 28 "StaffHeadsModel" "staffOf" "[I", Cond.fieldLink RX6 34 "StaffHeadsModel" "tickOf" "[I", Cond.methodLink RX6 107 yX6_end, Cond.instanceMethod yX6_end, Cond.selects RX6 yX6_end yX6_end, Cond.code yX6_end cX6_end 8 (some .int), Cond.methodLink RX6 100 yX6_step, Cond.instanceMethod yX6_step, Cond.selects RX6 yX6_step yX6_step]
def wsX6_stem_r2 : List Cond := [Cond.code yX6_step cX6_step 2 (some .int), Cond.fieldLink RX6 53 "StaffHeadsModel" "stepOf" "[I"]
def wsX6_stem : List Cond := .code yX6_stem cX6_stem 8 (some .int) :: ((wsX6_stem_r1 ++ wsX6_stem_r2) ++ wsX60)
def wsX6_stemOf_r1 : List Cond := [Cond.fieldLink RX6 28 "StaffHeadsModel" "staffOf" "[I", Cond.fieldLink RX6 34 "StaffHeadsModel" "tickOf" "[I", Cond.fieldLink RX6 31 "StaffHeadsModel" "voiceOf" "[I", Cond.methodLink RX6 111 yX6_stem, Cond.instanceMethod yX6_stem, Cond.selects RX6 yX6_stem yX6_stem, Cond.initialized RX6, Cond.code yX6_stem cX6_stem 8 (some .int), Cond.methodLink RX6 103 yX6_many, Cond.instanceMethod yX6_many, Cond.selects RX6 yX6_many yX6_many, Cond.code yX6_many cX6_many 6 (some .int), Cond.fieldLink RX6 76 "StaffHeadsModel" "notes" "I", Cond.methodLink RX6 96 yX6_isIn, Cond.instanceMethod yX6_isIn, Cond.selects RX6 yX6_isIn yX6_isIn, Cond.code yX6_isIn cX6_isIn 5 (some .boolean), Cond.methodLink RX6 93 yX6_isAt, Cond.instanceMethod yX6_isAt, Cond.selects RX6 yX6_isAt yX6_isAt, Cond.code yX6_isAt cX6_isAt 4 (some .boolean), Cond.methodLink RX6 107 yX6_end, Cond.instanceMethod yX6_end, Cond.selects RX6 yX6_end yX6_end]
def wsX6_stemOf_r2 : List Cond := [Cond.code yX6_end cX6_end 8 (some .int), Cond.methodLink RX6 100 yX6_step, Cond.instanceMethod yX6_step, Cond.selects RX6 yX6_step yX6_step, Cond.code yX6_step cX6_step 2 (some .int), Cond.fieldLink RX6 53 "StaffHeadsModel" "stepOf" "[I"]
def wsX6_stemOf : List Cond := .code yX6_stemOf cX6_stemOf 2 (some .int) :: ((wsX6_stemOf_r1 ++ wsX6_stemOf_r2) ++ wsX60)
def wsX6_isAhead : List Cond := .code yX6_isAhead cX6_isAhead 5 (some .boolean) :: ([.methodLink RX6 100 yX6_step, .instanceMethod yX6_step, .selects RX6 yX6_step yX6_step, .initialized RX6, .code yX6_step cX6_step 2 (some .int), .fieldLink RX6 53 "StaffHeadsModel" "stepOf" "[I"] ++ wsX60)
def wsX6_aside_r1 : List Cond := [Cond.fieldLink RX6 76 "StaffHeadsModel" "notes" "I", Cond.fieldLink RX6 28 "StaffHeadsModel" "staffOf" "[I", Cond.fieldLink RX6 34 "StaffHeadsModel" "tickOf" "[I", Cond.fieldLink RX6 31 "StaffHeadsModel" "voiceOf" "[I", Cond.methodLink RX6 114 yX6_stemOf, Cond.instanceMethod yX6_stemOf, Cond.selects RX6 yX6_stemOf yX6_stemOf, Cond.initialized RX6, Cond.code yX6_stemOf cX6_stemOf 2 (some .int), Cond.methodLink RX6 111 yX6_stem, Cond.instanceMethod yX6_stem, Cond.selects RX6 yX6_stem yX6_stem, Cond.code yX6_stem cX6_stem 8 (some .int), Cond.methodLink RX6 103 yX6_many, Cond.instanceMethod yX6_many, Cond.selects RX6 yX6_many yX6_many, Cond.code yX6_many cX6_many 6 (some .int), Cond.methodLink RX6 96 yX6_isIn, Cond.instanceMethod yX6_isIn, Cond.selects RX6 yX6_isIn yX6_isIn, Cond.code yX6_isIn cX6_isIn 5 (some .boolean), Cond.methodLink RX6 93 yX6_isAt, Cond.instanceMethod yX6_isAt, Cond.selects RX6 yX6_isAt yX6_isAt]
def wsX6_aside_r2 : List Cond := [Cond.code yX6_isAt cX6_isAt 4 (some .boolean), Cond.methodLink RX6 107 yX6_end, Cond.instanceMethod yX6_end, Cond.selects RX6 yX6_end yX6_end, Cond.code yX6_end cX6_end 8 (some .int), Cond.methodLink RX6 100 yX6_step, Cond.instanceMethod yX6_step, Cond.selects RX6 yX6_step yX6_step, Cond.code yX6_step cX6_step 2 (some .int), Cond.fieldLink RX6 53 "StaffHeadsModel" "stepOf" "[I", Cond.methodLink RX6 117 yX6_isAhead, Cond.instanceMethod yX6_isAhead, Cond.selects RX6 yX6_isAhead yX6_isAhead, Cond.code yX6_isAhead cX6_isAhead 5 (some .boolean)]
def wsX6_aside : List Cond := .code yX6_aside cX6_aside 9 (some .int) :: ((wsX6_aside_r1 ++ wsX6_aside_r2) ++ wsX60)
def wsX6_areShared_r1 : List Cond := [Cond.fieldLink RX6 28 "StaffHeadsModel" "staffOf" "[I", Cond.fieldLink RX6 34 "StaffHeadsModel" "tickOf" "[I", Cond.fieldLink RX6 43 "StaffHeadsModel" "headOf" "[I", Cond.fieldLink RX6 40 "StaffHeadsModel" "signOf" "[I", Cond.methodLink RX6 93 yX6_isAt, Cond.instanceMethod yX6_isAt, Cond.selects RX6 yX6_isAt yX6_isAt, Cond.initialized RX6, Cond.code yX6_isAt cX6_isAt 4 (some .boolean), Cond.methodLink RX6 100 yX6_step, Cond.instanceMethod yX6_step, Cond.selects RX6 yX6_step yX6_step, Cond.code yX6_step cX6_step 2 (some .int), Cond.fieldLink RX6 53 "StaffHeadsModel" "stepOf" "[I", Cond.methodLink RX6 114 yX6_stemOf, Cond.instanceMethod yX6_stemOf, Cond.selects RX6 yX6_stemOf yX6_stemOf, Cond.code yX6_stemOf cX6_stemOf 2 (some .int), Cond.fieldLink RX6 31 "StaffHeadsModel" "voiceOf" "[I", Cond.methodLink RX6 111 yX6_stem, Cond.instanceMethod yX6_stem, Cond.selects RX6 yX6_stem yX6_stem, Cond.code yX6_stem cX6_stem 8 (some .int), Cond.methodLink RX6 103 yX6_many]
def wsX6_areShared_r2 : List Cond := [Cond.instanceMethod yX6_many, Cond.selects RX6 yX6_many yX6_many, Cond.code yX6_many cX6_many 6 (some .int), Cond.fieldLink RX6 76 "StaffHeadsModel" "notes" "I", Cond.methodLink RX6 96 yX6_isIn, Cond.instanceMethod yX6_isIn, Cond.selects RX6 yX6_isIn yX6_isIn, Cond.code yX6_isIn cX6_isIn 5 (some .boolean), Cond.methodLink RX6 107 yX6_end, Cond.instanceMethod yX6_end, Cond.selects RX6 yX6_end yX6_end, Cond.code yX6_end cX6_end 8 (some .int)]
def wsX6_areShared : List Cond := .code yX6_areShared cX6_areShared 3 (some .boolean) :: ((wsX6_areShared_r1 ++ wsX6_areShared_r2) ++ wsX60)
def wsX6_liesOver_r1 : List Cond := [Cond.fieldLink RX6 76 "StaffHeadsModel" "notes" "I", Cond.fieldLink RX6 31 "StaffHeadsModel" "voiceOf" "[I", Cond.fieldLink RX6 59 "StaffHeadsModel" "columnOf" "[I", Cond.fieldLink RX6 53 "StaffHeadsModel" "stepOf" "[I", Cond.methodLink RX6 96 yX6_isIn, Cond.instanceMethod yX6_isIn, Cond.selects RX6 yX6_isIn yX6_isIn, Cond.initialized RX6, Cond.code yX6_isIn cX6_isIn 5 (some .boolean), Cond.methodLink RX6 93 yX6_isAt, Cond.instanceMethod yX6_isAt, Cond.selects RX6 yX6_isAt yX6_isAt, Cond.code yX6_isAt cX6_isAt 4 (some .boolean), Cond.fieldLink RX6 28 "StaffHeadsModel" "staffOf" "[I", Cond.fieldLink RX6 34 "StaffHeadsModel" "tickOf" "[I", Cond.methodLink RX6 127 yX6_areShared, Cond.instanceMethod yX6_areShared, Cond.selects RX6 yX6_areShared yX6_areShared, Cond.code yX6_areShared cX6_areShared 3 (some .boolean), Cond.fieldLink RX6 43 "StaffHeadsModel" "headOf" "[I", Cond.fieldLink RX6 40 "StaffHeadsModel" "signOf" "[I", Cond.methodLink RX6 100 yX6_step, Cond.instanceMethod yX6_step, Cond.selects RX6 yX6_step yX6_step]
def wsX6_liesOver_r2 : List Cond := [Cond.code yX6_step cX6_step 2 (some .int), Cond.methodLink RX6 114 yX6_stemOf, Cond.instanceMethod yX6_stemOf, Cond.selects RX6 yX6_stemOf yX6_stemOf, Cond.code yX6_stemOf cX6_stemOf 2 (some .int), Cond.methodLink RX6 111 yX6_stem, Cond.instanceMethod yX6_stem, Cond.selects RX6 yX6_stem yX6_stem, Cond.code yX6_stem cX6_stem 8 (some .int), Cond.methodLink RX6 103 yX6_many, Cond.instanceMethod yX6_many, Cond.selects RX6 yX6_many yX6_many, Cond.code yX6_many cX6_many 6 (some .int), Cond.methodLink RX6 107 yX6_end, Cond.instanceMethod yX6_end, Cond.selects RX6 yX6_end yX6_end, Cond.code yX6_end cX6_end 8 (some .int)]
def wsX6_liesOver : List Cond := .code yX6_liesOver cX6_liesOver 7 (some .boolean) :: ((wsX6_liesOver_r1 ++ wsX6_liesOver_r2) ++ wsX60)
def wsX6_move_r1 : List Cond := [Cond.fieldLink RX6 56 "StaffHeadsModel" "movedBy" "[I", Cond.fieldLink RX6 76 "StaffHeadsModel" "notes" "I", Cond.fieldLink RX6 59 "StaffHeadsModel" "columnOf" "[I", Cond.methodLink RX6 96 yX6_isIn, Cond.instanceMethod yX6_isIn, Cond.selects RX6 yX6_isIn yX6_isIn, Cond.initialized RX6, Cond.code yX6_isIn cX6_isIn 5 (some .boolean), Cond.fieldLink RX6 31 "StaffHeadsModel" "voiceOf" "[I", Cond.methodLink RX6 93 yX6_isAt, Cond.instanceMethod yX6_isAt, Cond.selects RX6 yX6_isAt yX6_isAt, Cond.code yX6_isAt cX6_isAt 4 (some .boolean), Cond.fieldLink RX6 28 "StaffHeadsModel" "staffOf" "[I", Cond.fieldLink RX6 34 "StaffHeadsModel" "tickOf" "[I", Cond.methodLink RX6 121 yX6_aside, Cond.instanceMethod yX6_aside, Cond.selects RX6 yX6_aside yX6_aside, Cond.code yX6_aside cX6_aside 9 (some .int), Cond.methodLink RX6 114 yX6_stemOf, Cond.instanceMethod yX6_stemOf, Cond.selects RX6 yX6_stemOf yX6_stemOf, Cond.code yX6_stemOf cX6_stemOf 2 (some .int), Cond.methodLink RX6 111 yX6_stem]
def wsX6_move_r2 : List Cond := [Cond.instanceMethod yX6_stem, Cond.selects RX6 yX6_stem yX6_stem, Cond.code yX6_stem cX6_stem 8 (some .int), Cond.methodLink RX6 103 yX6_many, Cond.instanceMethod yX6_many, Cond.selects RX6 yX6_many yX6_many, Cond.code yX6_many cX6_many 6 (some .int), Cond.methodLink RX6 107 yX6_end, Cond.instanceMethod yX6_end, Cond.selects RX6 yX6_end yX6_end, Cond.code yX6_end cX6_end 8 (some .int), Cond.methodLink RX6 100 yX6_step, Cond.instanceMethod yX6_step, Cond.selects RX6 yX6_step yX6_step, Cond.code yX6_step cX6_step 2 (some .int), Cond.fieldLink RX6 53 "StaffHeadsModel" "stepOf" "[I", Cond.methodLink RX6 117 yX6_isAhead, Cond.instanceMethod yX6_isAhead, Cond.selects RX6 yX6_isAhead yX6_isAhead, Cond.code yX6_isAhead cX6_isAhead 5 (some .boolean), Cond.methodLink RX6 124 yX6_liesOver, Cond.instanceMethod yX6_liesOver, Cond.selects RX6 yX6_liesOver yX6_liesOver, Cond.code yX6_liesOver cX6_liesOver 7 (some .boolean)]
def wsX6_move_r3 : List Cond := [Cond.methodLink RX6 127 yX6_areShared, Cond.instanceMethod yX6_areShared, Cond.selects RX6 yX6_areShared yX6_areShared, Cond.code yX6_areShared cX6_areShared 3 (some .boolean), Cond.fieldLink RX6 43 "StaffHeadsModel" "headOf" "[I", Cond.fieldLink RX6 40 "StaffHeadsModel" "signOf" "[I"]
def wsX6_move : List Cond := .code yX6_move cX6_move 6 none :: ((wsX6_move_r1 ++ (wsX6_move_r2 ++ wsX6_move_r3)) ++ wsX60)
def wsX6_columnFor : List Cond := .code yX6_columnFor cX6_columnFor 8 (some .int) :: ([.fieldLink RX6 76 "StaffHeadsModel" "notes" "I", .fieldLink RX6 62 "StaffHeadsModel" "signColumn" "[I", .fieldLink RX6 40 "StaffHeadsModel" "signOf" "[I", .methodLink RX6 93 yX6_isAt, .instanceMethod yX6_isAt, .selects RX6 yX6_isAt yX6_isAt, .initialized RX6, .code yX6_isAt cX6_isAt 4 (some .boolean), .fieldLink RX6 28 "StaffHeadsModel" "staffOf" "[I", .fieldLink RX6 34 "StaffHeadsModel" "tickOf" "[I", .methodLink RX6 100 yX6_step, .instanceMethod yX6_step, .selects RX6 yX6_step yX6_step, .code yX6_step cX6_step 2 (some .int), .fieldLink RX6 53 "StaffHeadsModel" "stepOf" "[I"] ++ wsX60)
def wsX6_placeSigns : List Cond := .code yX6_placeSigns cX6_placeSigns 8 none :: ([.fieldLink RX6 76 "StaffHeadsModel" "notes" "I", .fieldLink RX6 62 "StaffHeadsModel" "signColumn" "[I", .fieldLink RX6 40 "StaffHeadsModel" "signOf" "[I", .methodLink RX6 93 yX6_isAt, .instanceMethod yX6_isAt, .selects RX6 yX6_isAt yX6_isAt, .initialized RX6, .code yX6_isAt cX6_isAt 4 (some .boolean), .fieldLink RX6 28 "StaffHeadsModel" "staffOf" "[I", .fieldLink RX6 34 "StaffHeadsModel" "tickOf" "[I", .methodLink RX6 100 yX6_step, .instanceMethod yX6_step, .selects RX6 yX6_step yX6_step, .code yX6_step cX6_step 2 (some .int), .fieldLink RX6 53 "StaffHeadsModel" "stepOf" "[I", .methodLink RX6 131 yX6_columnFor, .instanceMethod yX6_columnFor, .selects RX6 yX6_columnFor yX6_columnFor, .code yX6_columnFor cX6_columnFor 8 (some .int)] ++ wsX60)
def wsX6_of_r1 : List Cond := [Cond.fieldLink RX6 69 "StaffHeadsModel" "thrown" "I", Cond.fieldLink RX6 28 "StaffHeadsModel" "staffOf" "[I", Cond.fieldLink RX6 34 "StaffHeadsModel" "tickOf" "[I", Cond.fieldLink RX6 59 "StaffHeadsModel" "columnOf" "[I", Cond.fieldLink RX6 62 "StaffHeadsModel" "signColumn" "[I", Cond.fieldLink RX6 56 "StaffHeadsModel" "movedBy" "[I", Cond.fieldLink RX6 31 "StaffHeadsModel" "voiceOf" "[I", Cond.methodLink RX6 86 yX6_isNote, Cond.instanceMethod yX6_isNote, Cond.selects RX6 yX6_isNote yX6_isNote, Cond.initialized RX6, Cond.code yX6_isNote cX6_isNote 2 (some .boolean), Cond.fieldLink RX6 76 "StaffHeadsModel" "notes" "I", Cond.methodLink RX6 72 yX6_in, Cond.static yX6_in, Cond.code yX6_in cX6_in 3 (some .boolean), Cond.methodLink RX6 134 yX6_reckon, Cond.instanceMethod yX6_reckon, Cond.selects RX6 yX6_reckon yX6_reckon, Cond.code yX6_reckon cX6_reckon 2 none, Cond.fieldLink RX6 53 "StaffHeadsModel" "stepOf" "[I", Cond.methodLink RX6 89 yX6_reckonStep, Cond.instanceMethod yX6_reckonStep, Cond.selects RX6 yX6_reckonStep yX6_reckonStep]
def wsX6_of_r2 : List Cond := [Cond.code yX6_reckonStep cX6_reckonStep 6 (some .int), Cond.fieldLink RX6 7 "StaffHeadsModel" "clefKind" "[I", Cond.fieldLink RX6 83 "StaffHeadsModel" "shifts" "I", Cond.fieldLink RX6 16 "StaffHeadsModel" "shiftStaff" "[I", Cond.fieldLink RX6 19 "StaffHeadsModel" "shiftFrom" "[I", Cond.fieldLink RX6 22 "StaffHeadsModel" "shiftTo" "[I", Cond.fieldLink RX6 25 "StaffHeadsModel" "shiftBy" "[I", Cond.fieldLink RX6 37 "StaffHeadsModel" "numberOf" "[I", Cond.fieldLink RX6 13 "StaffHeadsModel" "clefLine" "[I", Cond.methodLink RX6 100 yX6_step, Cond.instanceMethod yX6_step, Cond.selects RX6 yX6_step yX6_step, Cond.code yX6_step cX6_step 2 (some .int), Cond.methodLink RX6 114 yX6_stemOf, Cond.instanceMethod yX6_stemOf, Cond.selects RX6 yX6_stemOf yX6_stemOf, Cond.code yX6_stemOf cX6_stemOf 2 (some .int), Cond.methodLink RX6 111 yX6_stem, Cond.instanceMethod yX6_stem, Cond.selects RX6 yX6_stem yX6_stem, Cond.code yX6_stem cX6_stem 8 (some .int), Cond.methodLink RX6 103 yX6_many, Cond.instanceMethod yX6_many, Cond.selects RX6 yX6_many yX6_many]
def wsX6_of_r3 : List Cond := [Cond.code yX6_many cX6_many 6 (some .int), Cond.methodLink RX6 96 yX6_isIn, Cond.instanceMethod yX6_isIn, Cond.selects RX6 yX6_isIn yX6_isIn, Cond.code yX6_isIn cX6_isIn 5 (some .boolean), Cond.methodLink RX6 93 yX6_isAt, Cond.instanceMethod yX6_isAt, Cond.selects RX6 yX6_isAt yX6_isAt, Cond.code yX6_isAt cX6_isAt 4 (some .boolean), Cond.methodLink RX6 107 yX6_end, Cond.instanceMethod yX6_end, Cond.selects RX6 yX6_end yX6_end, Cond.code yX6_end cX6_end 8 (some .int), Cond.methodLink RX6 121 yX6_aside, Cond.instanceMethod yX6_aside, Cond.selects RX6 yX6_aside yX6_aside, Cond.code yX6_aside cX6_aside 9 (some .int), Cond.methodLink RX6 117 yX6_isAhead, Cond.instanceMethod yX6_isAhead, Cond.selects RX6 yX6_isAhead yX6_isAhead, Cond.code yX6_isAhead cX6_isAhead 5 (some .boolean), Cond.methodLink RX6 137 yX6_move, Cond.instanceMethod yX6_move, Cond.selects RX6 yX6_move yX6_move]
def wsX6_of_r4 : List Cond := [Cond.code yX6_move cX6_move 6 none, Cond.methodLink RX6 124 yX6_liesOver, Cond.instanceMethod yX6_liesOver, Cond.selects RX6 yX6_liesOver yX6_liesOver, Cond.code yX6_liesOver cX6_liesOver 7 (some .boolean), Cond.methodLink RX6 127 yX6_areShared, Cond.instanceMethod yX6_areShared, Cond.selects RX6 yX6_areShared yX6_areShared, Cond.code yX6_areShared cX6_areShared 3 (some .boolean), Cond.fieldLink RX6 43 "StaffHeadsModel" "headOf" "[I", Cond.fieldLink RX6 40 "StaffHeadsModel" "signOf" "[I", Cond.methodLink RX6 141 yX6_placeSigns, Cond.instanceMethod yX6_placeSigns, Cond.selects RX6 yX6_placeSigns yX6_placeSigns, Cond.code yX6_placeSigns cX6_placeSigns 8 none, Cond.methodLink RX6 131 yX6_columnFor, Cond.instanceMethod yX6_columnFor, Cond.selects RX6 yX6_columnFor yX6_columnFor, Cond.code yX6_columnFor cX6_columnFor 8 (some .int)]
def wsX6_of : List Cond := .code yX6_of cX6_of 4 (some .int) :: ((wsX6_of_r1 ++ (wsX6_of_r2 ++ (wsX6_of_r3 ++ wsX6_of_r4))) ++ wsX60)
def wsX6_high_r1 : List Cond := [Cond.fieldLink RX6 76 "StaffHeadsModel" "notes" "I", Cond.fieldLink RX6 43 "StaffHeadsModel" "headOf" "[I", Cond.fieldLink RX6 31 "StaffHeadsModel" "voiceOf" "[I", Cond.methodLink RX6 93 yX6_isAt, Cond.instanceMethod yX6_isAt, Cond.selects RX6 yX6_isAt yX6_isAt, Cond.initialized RX6, Cond.code yX6_isAt cX6_isAt 4 (some .boolean), Cond.fieldLink RX6 28 "StaffHeadsModel" "staffOf" "[I", Cond.fieldLink RX6 34 "StaffHeadsModel" "tickOf" "[I", Cond.methodLink RX6 100 yX6_step, Cond.instanceMethod yX6_step, Cond.selects RX6 yX6_step yX6_step, Cond.code yX6_step cX6_step 2 (some .int), Cond.fieldLink RX6 53 "StaffHeadsModel" "stepOf" "[I", Cond.methodLink RX6 114 yX6_stemOf, Cond.instanceMethod yX6_stemOf, Cond.selects RX6 yX6_stemOf yX6_stemOf, Cond.code yX6_stemOf cX6_stemOf 2 (some .int), Cond.methodLink RX6 111 yX6_stem, Cond.instanceMethod yX6_stem, Cond.selects RX6 yX6_stem yX6_stem, Cond.code yX6_stem cX6_stem 8 (some .int), Cond.methodLink RX6 103 yX6_many]
def wsX6_high_r2 : List Cond := [Cond.instanceMethod yX6_many, Cond.selects RX6 yX6_many yX6_many, Cond.code yX6_many cX6_many 6 (some .int), Cond.methodLink RX6 96 yX6_isIn, Cond.instanceMethod yX6_isIn, Cond.selects RX6 yX6_isIn yX6_isIn, Cond.code yX6_isIn cX6_isIn 5 (some .boolean), Cond.methodLink RX6 107 yX6_end, Cond.instanceMethod yX6_end, Cond.selects RX6 yX6_end yX6_end, Cond.code yX6_end cX6_end 8 (some .int)]
def wsX6_high : List Cond := .code yX6_high cX6_high 7 (some .int) :: ((wsX6_high_r1 ++ wsX6_high_r2) ++ wsX60)
def wsX6_low_r1 : List Cond := [Cond.fieldLink RX6 76 "StaffHeadsModel" "notes" "I", Cond.fieldLink RX6 43 "StaffHeadsModel" "headOf" "[I", Cond.fieldLink RX6 31 "StaffHeadsModel" "voiceOf" "[I", Cond.methodLink RX6 93 yX6_isAt, Cond.instanceMethod yX6_isAt, Cond.selects RX6 yX6_isAt yX6_isAt, Cond.initialized RX6, Cond.code yX6_isAt cX6_isAt 4 (some .boolean), Cond.fieldLink RX6 28 "StaffHeadsModel" "staffOf" "[I", Cond.fieldLink RX6 34 "StaffHeadsModel" "tickOf" "[I", Cond.methodLink RX6 100 yX6_step, Cond.instanceMethod yX6_step, Cond.selects RX6 yX6_step yX6_step, Cond.code yX6_step cX6_step 2 (some .int), Cond.fieldLink RX6 53 "StaffHeadsModel" "stepOf" "[I", Cond.methodLink RX6 114 yX6_stemOf, Cond.instanceMethod yX6_stemOf, Cond.selects RX6 yX6_stemOf yX6_stemOf, Cond.code yX6_stemOf cX6_stemOf 2 (some .int), Cond.methodLink RX6 111 yX6_stem, Cond.instanceMethod yX6_stem, Cond.selects RX6 yX6_stem yX6_stem, Cond.code yX6_stem cX6_stem 8 (some .int), Cond.methodLink RX6 103 yX6_many]
def wsX6_low_r2 : List Cond := [Cond.instanceMethod yX6_many, Cond.selects RX6 yX6_many yX6_many, Cond.code yX6_many cX6_many 6 (some .int), Cond.methodLink RX6 96 yX6_isIn, Cond.instanceMethod yX6_isIn, Cond.selects RX6 yX6_isIn yX6_isIn, Cond.code yX6_isIn cX6_isIn 5 (some .boolean), Cond.methodLink RX6 107 yX6_end, Cond.instanceMethod yX6_end, Cond.selects RX6 yX6_end yX6_end, Cond.code yX6_end cX6_end 8 (some .int)]
def wsX6_low : List Cond := .code yX6_low cX6_low 7 (some .int) :: ((wsX6_low_r1 ++ wsX6_low_r2) ++ wsX60)
def wsX6_at_r1 : List Cond := [Cond.fieldLink RX6 69 "StaffHeadsModel" "thrown" "I", Cond.fieldLink RX6 76 "StaffHeadsModel" "notes" "I", Cond.fieldLink RX6 62 "StaffHeadsModel" "signColumn" "[I", Cond.methodLink RX6 79 yX6_isStaff, Cond.static yX6_isStaff, Cond.initialized RX6, Cond.code yX6_isStaff cX6_isStaff 1 (some .boolean), Cond.methodLink RX6 72 yX6_in, Cond.static yX6_in, Cond.code yX6_in cX6_in 3 (some .boolean), Cond.methodLink RX6 103 yX6_many, Cond.instanceMethod yX6_many, Cond.selects RX6 yX6_many yX6_many, Cond.code yX6_many cX6_many 6 (some .int), Cond.methodLink RX6 96 yX6_isIn, Cond.instanceMethod yX6_isIn, Cond.selects RX6 yX6_isIn yX6_isIn, Cond.code yX6_isIn cX6_isIn 5 (some .boolean), Cond.fieldLink RX6 31 "StaffHeadsModel" "voiceOf" "[I", Cond.methodLink RX6 93 yX6_isAt, Cond.instanceMethod yX6_isAt, Cond.selects RX6 yX6_isAt yX6_isAt, Cond.code yX6_isAt cX6_isAt 4 (some .boolean), Cond.fieldLink RX6 28 "StaffHeadsModel" "staffOf" "[I"]
def wsX6_at_r2 : List Cond := [Cond.fieldLink RX6 34 "StaffHeadsModel" "tickOf" "[I", Cond.methodLink RX6 134 yX6_reckon, Cond.instanceMethod yX6_reckon, Cond.selects RX6 yX6_reckon yX6_reckon, Cond.code yX6_reckon cX6_reckon 2 none, Cond.fieldLink RX6 53 "StaffHeadsModel" "stepOf" "[I", Cond.methodLink RX6 89 yX6_reckonStep, Cond.instanceMethod yX6_reckonStep, Cond.selects RX6 yX6_reckonStep yX6_reckonStep, Cond.code yX6_reckonStep cX6_reckonStep 6 (some .int), Cond.fieldLink RX6 7 "StaffHeadsModel" "clefKind" "[I", Cond.fieldLink RX6 83 "StaffHeadsModel" "shifts" "I", Cond.fieldLink RX6 16 "StaffHeadsModel" "shiftStaff" "[I", Cond.fieldLink RX6 19 "StaffHeadsModel" "shiftFrom" "[I", Cond.fieldLink RX6 22 "StaffHeadsModel" "shiftTo" "[I", Cond.fieldLink RX6 25 "StaffHeadsModel" "shiftBy" "[I", Cond.fieldLink RX6 37 "StaffHeadsModel" "numberOf" "[I", Cond.fieldLink RX6 13 "StaffHeadsModel" "clefLine" "[I", Cond.methodLink RX6 141 yX6_placeSigns, Cond.instanceMethod yX6_placeSigns, Cond.selects RX6 yX6_placeSigns yX6_placeSigns, Cond.code yX6_placeSigns cX6_placeSigns 8 none, Cond.fieldLink RX6 40 "StaffHeadsModel" "signOf" "[I", Cond.methodLink RX6 100 yX6_step]
def wsX6_at_r3 : List Cond := [Cond.instanceMethod yX6_step, Cond.selects RX6 yX6_step yX6_step, Cond.code yX6_step cX6_step 2 (some .int), Cond.methodLink RX6 131 yX6_columnFor, Cond.instanceMethod yX6_columnFor, Cond.selects RX6 yX6_columnFor yX6_columnFor, Cond.code yX6_columnFor cX6_columnFor 8 (some .int), Cond.methodLink RX6 144 yX6_high, Cond.instanceMethod yX6_high, Cond.selects RX6 yX6_high yX6_high, Cond.code yX6_high cX6_high 7 (some .int), Cond.fieldLink RX6 43 "StaffHeadsModel" "headOf" "[I", Cond.methodLink RX6 114 yX6_stemOf, Cond.instanceMethod yX6_stemOf, Cond.selects RX6 yX6_stemOf yX6_stemOf, Cond.code yX6_stemOf cX6_stemOf 2 (some .int), Cond.methodLink RX6 111 yX6_stem, Cond.instanceMethod yX6_stem, Cond.selects RX6 yX6_stem yX6_stem, Cond.code yX6_stem cX6_stem 8 (some .int), Cond.methodLink RX6 107 yX6_end, Cond.instanceMethod yX6_end, Cond.selects RX6 yX6_end yX6_end, Cond.code yX6_end cX6_end 8 (some .int)]
def wsX6_at_r4 : List Cond := [Cond.methodLink RX6 148 yX6_low, Cond.instanceMethod yX6_low, Cond.selects RX6 yX6_low yX6_low, Cond.code yX6_low cX6_low 7 (some .int)]
def wsX6_at : List Cond := .code yX6_at cX6_at 8 (some .int) :: ((wsX6_at_r1 ++ (wsX6_at_r2 ++ (wsX6_at_r3 ++ wsX6_at_r4))) ++ wsX60)
def wsX6_shared_r1 : List Cond := [Cond.fieldLink RX6 69 "StaffHeadsModel" "thrown" "I", Cond.methodLink RX6 134 yX6_reckon, Cond.instanceMethod yX6_reckon, Cond.selects RX6 yX6_reckon yX6_reckon, Cond.initialized RX6, Cond.code yX6_reckon cX6_reckon 2 none, Cond.fieldLink RX6 76 "StaffHeadsModel" "notes" "I", Cond.fieldLink RX6 53 "StaffHeadsModel" "stepOf" "[I", Cond.methodLink RX6 89 yX6_reckonStep, Cond.instanceMethod yX6_reckonStep, Cond.selects RX6 yX6_reckonStep yX6_reckonStep, Cond.code yX6_reckonStep cX6_reckonStep 6 (some .int), Cond.fieldLink RX6 28 "StaffHeadsModel" "staffOf" "[I", Cond.fieldLink RX6 7 "StaffHeadsModel" "clefKind" "[I", Cond.fieldLink RX6 83 "StaffHeadsModel" "shifts" "I", Cond.fieldLink RX6 16 "StaffHeadsModel" "shiftStaff" "[I", Cond.fieldLink RX6 34 "StaffHeadsModel" "tickOf" "[I", Cond.fieldLink RX6 19 "StaffHeadsModel" "shiftFrom" "[I", Cond.fieldLink RX6 22 "StaffHeadsModel" "shiftTo" "[I", Cond.fieldLink RX6 25 "StaffHeadsModel" "shiftBy" "[I", Cond.fieldLink RX6 37 "StaffHeadsModel" "numberOf" "[I", Cond.fieldLink RX6 13 "StaffHeadsModel" "clefLine" "[I", Cond.methodLink RX6 72 yX6_in, Cond.static yX6_in]
def wsX6_shared_r2 : List Cond := [Cond.code yX6_in cX6_in 3 (some .boolean), Cond.methodLink RX6 86 yX6_isNote, Cond.instanceMethod yX6_isNote, Cond.selects RX6 yX6_isNote yX6_isNote, Cond.code yX6_isNote cX6_isNote 2 (some .boolean), Cond.methodLink RX6 127 yX6_areShared, Cond.instanceMethod yX6_areShared, Cond.selects RX6 yX6_areShared yX6_areShared, Cond.code yX6_areShared cX6_areShared 3 (some .boolean), Cond.fieldLink RX6 43 "StaffHeadsModel" "headOf" "[I", Cond.fieldLink RX6 40 "StaffHeadsModel" "signOf" "[I", Cond.methodLink RX6 93 yX6_isAt, Cond.instanceMethod yX6_isAt, Cond.selects RX6 yX6_isAt yX6_isAt, Cond.code yX6_isAt cX6_isAt 4 (some .boolean), Cond.methodLink RX6 100 yX6_step, Cond.instanceMethod yX6_step, Cond.selects RX6 yX6_step yX6_step, Cond.code yX6_step cX6_step 2 (some .int), Cond.methodLink RX6 114 yX6_stemOf, Cond.instanceMethod yX6_stemOf, Cond.selects RX6 yX6_stemOf yX6_stemOf, Cond.code yX6_stemOf cX6_stemOf 2 (some .int), Cond.fieldLink RX6 31 "StaffHeadsModel" "voiceOf" "[I"]
def wsX6_shared_r3 : List Cond := [Cond.methodLink RX6 111 yX6_stem, Cond.instanceMethod yX6_stem, Cond.selects RX6 yX6_stem yX6_stem, Cond.code yX6_stem cX6_stem 8 (some .int), Cond.methodLink RX6 103 yX6_many, Cond.instanceMethod yX6_many, Cond.selects RX6 yX6_many yX6_many, Cond.code yX6_many cX6_many 6 (some .int), Cond.methodLink RX6 96 yX6_isIn, Cond.instanceMethod yX6_isIn, Cond.selects RX6 yX6_isIn yX6_isIn, Cond.code yX6_isIn cX6_isIn 5 (some .boolean), Cond.methodLink RX6 107 yX6_end, Cond.instanceMethod yX6_end, Cond.selects RX6 yX6_end yX6_end, Cond.code yX6_end cX6_end 8 (some .int)]
def wsX6_shared : List Cond := .code yX6_shared cX6_shared 3 (some .int) :: ((wsX6_shared_r1 ++ (wsX6_shared_r2 ++ wsX6_shared_r3)) ++ wsX60)
def wsX6_setting : List Cond := .code yX6_setting cX6_setting 4 (some .int) :: ([.fieldLink RX6 69 "StaffHeadsModel" "thrown" "I", .fieldLink RX6 46 "StaffHeadsModel" "pad" "I", .fieldLink RX6 50 "StaffHeadsModel" "least" "I", .methodLink RX6 72 yX6_in, .static yX6_in, .initialized RX6, .code yX6_in cX6_in 3 (some .boolean)] ++ wsX60)
def wsX6_hides : List Cond := .code yX6_hides cX6_hides 3 (some .int) :: ([.fieldLink RX6 69 "StaffHeadsModel" "thrown" "I", .fieldLink RX6 151 "StaffHeadsModel" "hiding" "Z"] ++ wsX60)
def wsX6_isHidden : List Cond := .code yX6_isHidden cX6_isHidden 4 (some .boolean) :: ([.fieldLink RX6 151 "StaffHeadsModel" "hiding" "Z", .fieldLink RX6 76 "StaffHeadsModel" "notes" "I", .fieldLink RX6 28 "StaffHeadsModel" "staffOf" "[I"] ++ wsX60)
def wsX6_isFirstAt : List Cond := .code yX6_isFirstAt cX6_isFirstAt 5 (some .boolean) :: ([.fieldLink RX6 34 "StaffHeadsModel" "tickOf" "[I", .fieldLink RX6 28 "StaffHeadsModel" "staffOf" "[I"] ++ wsX60)
def wsX6_gapAbove_r1 : List Cond := [Cond.fieldLink RX6 50 "StaffHeadsModel" "least" "I", Cond.fieldLink RX6 46 "StaffHeadsModel" "pad" "I", Cond.fieldLink RX6 76 "StaffHeadsModel" "notes" "I", Cond.fieldLink RX6 28 "StaffHeadsModel" "staffOf" "[I", Cond.fieldLink RX6 34 "StaffHeadsModel" "tickOf" "[I", Cond.methodLink RX6 155 yX6_isHidden, Cond.instanceMethod yX6_isHidden, Cond.selects RX6 yX6_isHidden yX6_isHidden, Cond.initialized RX6, Cond.code yX6_isHidden cX6_isHidden 4 (some .boolean), Cond.fieldLink RX6 151 "StaffHeadsModel" "hiding" "Z", Cond.methodLink RX6 158 yX6_isFirstAt, Cond.instanceMethod yX6_isFirstAt, Cond.selects RX6 yX6_isFirstAt yX6_isFirstAt, Cond.code yX6_isFirstAt cX6_isFirstAt 5 (some .boolean), Cond.methodLink RX6 144 yX6_high, Cond.instanceMethod yX6_high, Cond.selects RX6 yX6_high yX6_high, Cond.code yX6_high cX6_high 7 (some .int), Cond.fieldLink RX6 43 "StaffHeadsModel" "headOf" "[I", Cond.fieldLink RX6 31 "StaffHeadsModel" "voiceOf" "[I", Cond.methodLink RX6 93 yX6_isAt, Cond.instanceMethod yX6_isAt, Cond.selects RX6 yX6_isAt yX6_isAt]
def wsX6_gapAbove_r2 : List Cond := [Cond.code yX6_isAt cX6_isAt 4 (some .boolean), Cond.methodLink RX6 100 yX6_step, Cond.instanceMethod yX6_step, Cond.selects RX6 yX6_step yX6_step, Cond.code yX6_step cX6_step 2 (some .int), Cond.fieldLink RX6 53 "StaffHeadsModel" "stepOf" "[I", Cond.methodLink RX6 114 yX6_stemOf, Cond.instanceMethod yX6_stemOf, Cond.selects RX6 yX6_stemOf yX6_stemOf, Cond.code yX6_stemOf cX6_stemOf 2 (some .int), Cond.methodLink RX6 111 yX6_stem, Cond.instanceMethod yX6_stem, Cond.selects RX6 yX6_stem yX6_stem, Cond.code yX6_stem cX6_stem 8 (some .int), Cond.methodLink RX6 103 yX6_many, Cond.instanceMethod yX6_many, Cond.selects RX6 yX6_many yX6_many, Cond.code yX6_many cX6_many 6 (some .int), Cond.methodLink RX6 96 yX6_isIn, Cond.instanceMethod yX6_isIn, Cond.selects RX6 yX6_isIn yX6_isIn, Cond.code yX6_isIn cX6_isIn 5 (some .boolean), Cond.methodLink RX6 107 yX6_end, Cond.instanceMethod yX6_end]
def wsX6_gapAbove_r3 : List Cond := [Cond.selects RX6 yX6_end yX6_end, Cond.code yX6_end cX6_end 8 (some .int), Cond.methodLink RX6 148 yX6_low, Cond.instanceMethod yX6_low, Cond.selects RX6 yX6_low yX6_low, Cond.code yX6_low cX6_low 7 (some .int)]
def wsX6_gapAbove : List Cond := .code yX6_gapAbove cX6_gapAbove 6 (some .int) :: ((wsX6_gapAbove_r1 ++ (wsX6_gapAbove_r2 ++ wsX6_gapAbove_r3)) ++ wsX60)
def wsX6_placeOf_r1 : List Cond := [Cond.fieldLink RX6 66 "StaffHeadsModel" "unit" "I", Cond.methodLink RX6 155 yX6_isHidden, Cond.instanceMethod yX6_isHidden, Cond.selects RX6 yX6_isHidden yX6_isHidden, Cond.initialized RX6, Cond.code yX6_isHidden cX6_isHidden 4 (some .boolean), Cond.fieldLink RX6 151 "StaffHeadsModel" "hiding" "Z", Cond.fieldLink RX6 76 "StaffHeadsModel" "notes" "I", Cond.fieldLink RX6 28 "StaffHeadsModel" "staffOf" "[I", Cond.methodLink RX6 161 yX6_gapAbove, Cond.instanceMethod yX6_gapAbove, Cond.selects RX6 yX6_gapAbove yX6_gapAbove, Cond.code yX6_gapAbove cX6_gapAbove 6 (some .int), Cond.fieldLink RX6 50 "StaffHeadsModel" "least" "I", Cond.fieldLink RX6 46 "StaffHeadsModel" "pad" "I", Cond.fieldLink RX6 34 "StaffHeadsModel" "tickOf" "[I", Cond.methodLink RX6 158 yX6_isFirstAt, Cond.instanceMethod yX6_isFirstAt, Cond.selects RX6 yX6_isFirstAt yX6_isFirstAt, Cond.code yX6_isFirstAt cX6_isFirstAt 5 (some .boolean), Cond.methodLink RX6 144 yX6_high, Cond.instanceMethod yX6_high, Cond.selects RX6 yX6_high yX6_high, Cond.code yX6_high cX6_high 7 (some .int)]
def wsX6_placeOf_r2 : List Cond := [Cond.fieldLink RX6 43 "StaffHeadsModel" "headOf" "[I", Cond.fieldLink RX6 31 "StaffHeadsModel" "voiceOf" "[I", Cond.methodLink RX6 93 yX6_isAt, Cond.instanceMethod yX6_isAt, Cond.selects RX6 yX6_isAt yX6_isAt, Cond.code yX6_isAt cX6_isAt 4 (some .boolean), Cond.methodLink RX6 100 yX6_step, Cond.instanceMethod yX6_step, Cond.selects RX6 yX6_step yX6_step, Cond.code yX6_step cX6_step 2 (some .int), Cond.fieldLink RX6 53 "StaffHeadsModel" "stepOf" "[I", Cond.methodLink RX6 114 yX6_stemOf, Cond.instanceMethod yX6_stemOf, Cond.selects RX6 yX6_stemOf yX6_stemOf, Cond.code yX6_stemOf cX6_stemOf 2 (some .int), Cond.methodLink RX6 111 yX6_stem, Cond.instanceMethod yX6_stem, Cond.selects RX6 yX6_stem yX6_stem, Cond.code yX6_stem cX6_stem 8 (some .int), Cond.methodLink RX6 103 yX6_many, Cond.instanceMethod yX6_many, Cond.selects RX6 yX6_many yX6_many, Cond.code yX6_many cX6_many 6 (some .int), Cond.methodLink RX6 96 yX6_isIn]
def wsX6_placeOf_r3 : List Cond := [Cond.instanceMethod yX6_isIn, Cond.selects RX6 yX6_isIn yX6_isIn, Cond.code yX6_isIn cX6_isIn 5 (some .boolean), Cond.methodLink RX6 107 yX6_end, Cond.instanceMethod yX6_end, Cond.selects RX6 yX6_end yX6_end, Cond.code yX6_end cX6_end 8 (some .int), Cond.methodLink RX6 148 yX6_low, Cond.instanceMethod yX6_low, Cond.selects RX6 yX6_low yX6_low, Cond.code yX6_low cX6_low 7 (some .int)]
def wsX6_placeOf : List Cond := .code yX6_placeOf cX6_placeOf 5 (some .long) :: ((wsX6_placeOf_r1 ++ (wsX6_placeOf_r2 ++ wsX6_placeOf_r3)) ++ wsX60)
def wsX6_gap_r1 : List Cond := [Cond.fieldLink RX6 69 "StaffHeadsModel" "thrown" "I", Cond.methodLink RX6 79 yX6_isStaff, Cond.static yX6_isStaff, Cond.initialized RX6, Cond.code yX6_isStaff cX6_isStaff 1 (some .boolean), Cond.methodLink RX6 72 yX6_in, Cond.static yX6_in, Cond.code yX6_in cX6_in 3 (some .boolean), Cond.methodLink RX6 134 yX6_reckon, Cond.instanceMethod yX6_reckon, Cond.selects RX6 yX6_reckon yX6_reckon, Cond.code yX6_reckon cX6_reckon 2 none, Cond.fieldLink RX6 76 "StaffHeadsModel" "notes" "I", Cond.fieldLink RX6 53 "StaffHeadsModel" "stepOf" "[I", Cond.methodLink RX6 89 yX6_reckonStep, Cond.instanceMethod yX6_reckonStep, Cond.selects RX6 yX6_reckonStep yX6_reckonStep, Cond.code yX6_reckonStep cX6_reckonStep 6 (some .int), Cond.fieldLink RX6 28 "StaffHeadsModel" "staffOf" "[I", Cond.fieldLink RX6 7 "StaffHeadsModel" "clefKind" "[I", Cond.fieldLink RX6 83 "StaffHeadsModel" "shifts" "I", Cond.fieldLink RX6 16 "StaffHeadsModel" "shiftStaff" "[I", Cond.fieldLink RX6 34 "StaffHeadsModel" "tickOf" "[I", Cond.fieldLink RX6 19 "StaffHeadsModel" "shiftFrom" "[I"]
def wsX6_gap_r2 : List Cond := [Cond.fieldLink RX6 22 "StaffHeadsModel" "shiftTo" "[I", Cond.fieldLink RX6 25 "StaffHeadsModel" "shiftBy" "[I", Cond.fieldLink RX6 37 "StaffHeadsModel" "numberOf" "[I", Cond.fieldLink RX6 13 "StaffHeadsModel" "clefLine" "[I", Cond.methodLink RX6 155 yX6_isHidden, Cond.instanceMethod yX6_isHidden, Cond.selects RX6 yX6_isHidden yX6_isHidden, Cond.code yX6_isHidden cX6_isHidden 4 (some .boolean), Cond.fieldLink RX6 151 "StaffHeadsModel" "hiding" "Z", Cond.methodLink RX6 161 yX6_gapAbove, Cond.instanceMethod yX6_gapAbove, Cond.selects RX6 yX6_gapAbove yX6_gapAbove, Cond.code yX6_gapAbove cX6_gapAbove 6 (some .int), Cond.fieldLink RX6 50 "StaffHeadsModel" "least" "I", Cond.fieldLink RX6 46 "StaffHeadsModel" "pad" "I", Cond.methodLink RX6 158 yX6_isFirstAt, Cond.instanceMethod yX6_isFirstAt, Cond.selects RX6 yX6_isFirstAt yX6_isFirstAt, Cond.code yX6_isFirstAt cX6_isFirstAt 5 (some .boolean), Cond.methodLink RX6 144 yX6_high, Cond.instanceMethod yX6_high, Cond.selects RX6 yX6_high yX6_high, Cond.code yX6_high cX6_high 7 (some .int), Cond.fieldLink RX6 43 "StaffHeadsModel" "headOf" "[I"]
def wsX6_gap_r3 : List Cond := [Cond.fieldLink RX6 31 "StaffHeadsModel" "voiceOf" "[I", Cond.methodLink RX6 93 yX6_isAt, Cond.instanceMethod yX6_isAt, Cond.selects RX6 yX6_isAt yX6_isAt, Cond.code yX6_isAt cX6_isAt 4 (some .boolean), Cond.methodLink RX6 100 yX6_step, Cond.instanceMethod yX6_step, Cond.selects RX6 yX6_step yX6_step, Cond.code yX6_step cX6_step 2 (some .int), Cond.methodLink RX6 114 yX6_stemOf, Cond.instanceMethod yX6_stemOf, Cond.selects RX6 yX6_stemOf yX6_stemOf, Cond.code yX6_stemOf cX6_stemOf 2 (some .int), Cond.methodLink RX6 111 yX6_stem, Cond.instanceMethod yX6_stem, Cond.selects RX6 yX6_stem yX6_stem, Cond.code yX6_stem cX6_stem 8 (some .int), Cond.methodLink RX6 103 yX6_many, Cond.instanceMethod yX6_many, Cond.selects RX6 yX6_many yX6_many, Cond.code yX6_many cX6_many 6 (some .int), Cond.methodLink RX6 96 yX6_isIn, Cond.instanceMethod yX6_isIn, Cond.selects RX6 yX6_isIn yX6_isIn]
def wsX6_gap_r4 : List Cond := [Cond.code yX6_isIn cX6_isIn 5 (some .boolean), Cond.methodLink RX6 107 yX6_end, Cond.instanceMethod yX6_end, Cond.selects RX6 yX6_end yX6_end, Cond.code yX6_end cX6_end 8 (some .int), Cond.methodLink RX6 148 yX6_low, Cond.instanceMethod yX6_low, Cond.selects RX6 yX6_low yX6_low, Cond.code yX6_low cX6_low 7 (some .int)]
def wsX6_gap : List Cond := .code yX6_gap cX6_gap 2 (some .int) :: ((wsX6_gap_r1 ++ (wsX6_gap_r2 ++ (wsX6_gap_r3 ++ wsX6_gap_r4))) ++ wsX60)
def wsX6_place_r1 : List Cond := [Cond.fieldLink RX6 69 "StaffHeadsModel" "thrown" "I", Cond.constantLong RX6 164 (-1001), Cond.constantLong RX6 166 (-1000), Cond.methodLink RX6 79 yX6_isStaff, Cond.static yX6_isStaff, Cond.initialized RX6, Cond.code yX6_isStaff cX6_isStaff 1 (some .boolean), Cond.methodLink RX6 72 yX6_in, Cond.static yX6_in, Cond.code yX6_in cX6_in 3 (some .boolean), Cond.methodLink RX6 134 yX6_reckon, Cond.instanceMethod yX6_reckon, Cond.selects RX6 yX6_reckon yX6_reckon, Cond.code yX6_reckon cX6_reckon 2 none, Cond.fieldLink RX6 76 "StaffHeadsModel" "notes" "I", Cond.fieldLink RX6 53 "StaffHeadsModel" "stepOf" "[I", Cond.methodLink RX6 89 yX6_reckonStep, Cond.instanceMethod yX6_reckonStep, Cond.selects RX6 yX6_reckonStep yX6_reckonStep, Cond.code yX6_reckonStep cX6_reckonStep 6 (some .int), Cond.fieldLink RX6 28 "StaffHeadsModel" "staffOf" "[I", Cond.fieldLink RX6 7 "StaffHeadsModel" "clefKind" "[I", Cond.fieldLink RX6 83 "StaffHeadsModel" "shifts" "I", Cond.fieldLink RX6 16 "StaffHeadsModel" "shiftStaff" "[I"]
def wsX6_place_r2 : List Cond := [Cond.fieldLink RX6 34 "StaffHeadsModel" "tickOf" "[I", Cond.fieldLink RX6 19 "StaffHeadsModel" "shiftFrom" "[I", Cond.fieldLink RX6 22 "StaffHeadsModel" "shiftTo" "[I", Cond.fieldLink RX6 25 "StaffHeadsModel" "shiftBy" "[I", Cond.fieldLink RX6 37 "StaffHeadsModel" "numberOf" "[I", Cond.fieldLink RX6 13 "StaffHeadsModel" "clefLine" "[I", Cond.methodLink RX6 155 yX6_isHidden, Cond.instanceMethod yX6_isHidden, Cond.selects RX6 yX6_isHidden yX6_isHidden, Cond.code yX6_isHidden cX6_isHidden 4 (some .boolean), Cond.fieldLink RX6 151 "StaffHeadsModel" "hiding" "Z", Cond.methodLink RX6 168 yX6_placeOf, Cond.instanceMethod yX6_placeOf, Cond.selects RX6 yX6_placeOf yX6_placeOf, Cond.code yX6_placeOf cX6_placeOf 5 (some .long), Cond.fieldLink RX6 66 "StaffHeadsModel" "unit" "I", Cond.methodLink RX6 161 yX6_gapAbove, Cond.instanceMethod yX6_gapAbove, Cond.selects RX6 yX6_gapAbove yX6_gapAbove, Cond.code yX6_gapAbove cX6_gapAbove 6 (some .int), Cond.fieldLink RX6 50 "StaffHeadsModel" "least" "I", Cond.fieldLink RX6 46 "StaffHeadsModel" "pad" "I", Cond.methodLink RX6 158 yX6_isFirstAt, Cond.instanceMethod yX6_isFirstAt]
def wsX6_place_r3 : List Cond := [Cond.selects RX6 yX6_isFirstAt yX6_isFirstAt, Cond.code yX6_isFirstAt cX6_isFirstAt 5 (some .boolean), Cond.methodLink RX6 144 yX6_high, Cond.instanceMethod yX6_high, Cond.selects RX6 yX6_high yX6_high, Cond.code yX6_high cX6_high 7 (some .int), Cond.fieldLink RX6 43 "StaffHeadsModel" "headOf" "[I", Cond.fieldLink RX6 31 "StaffHeadsModel" "voiceOf" "[I", Cond.methodLink RX6 93 yX6_isAt, Cond.instanceMethod yX6_isAt, Cond.selects RX6 yX6_isAt yX6_isAt, Cond.code yX6_isAt cX6_isAt 4 (some .boolean), Cond.methodLink RX6 100 yX6_step, Cond.instanceMethod yX6_step, Cond.selects RX6 yX6_step yX6_step, Cond.code yX6_step cX6_step 2 (some .int), Cond.methodLink RX6 114 yX6_stemOf, Cond.instanceMethod yX6_stemOf, Cond.selects RX6 yX6_stemOf yX6_stemOf, Cond.code yX6_stemOf cX6_stemOf 2 (some .int), Cond.methodLink RX6 111 yX6_stem, Cond.instanceMethod yX6_stem, Cond.selects RX6 yX6_stem yX6_stem, Cond.code yX6_stem cX6_stem 8 (some .int)]
def wsX6_place_r4 : List Cond := [Cond.methodLink RX6 103 yX6_many, Cond.instanceMethod yX6_many, Cond.selects RX6 yX6_many yX6_many, Cond.code yX6_many cX6_many 6 (some .int), Cond.methodLink RX6 96 yX6_isIn, Cond.instanceMethod yX6_isIn, Cond.selects RX6 yX6_isIn yX6_isIn, Cond.code yX6_isIn cX6_isIn 5 (some .boolean), Cond.methodLink RX6 107 yX6_end, Cond.instanceMethod yX6_end, Cond.selects RX6 yX6_end yX6_end, Cond.code yX6_end cX6_end 8 (some .int), Cond.methodLink RX6 148 yX6_low, Cond.instanceMethod yX6_low, Cond.selects RX6 yX6_low yX6_low, Cond.code yX6_low cX6_low 7 (some .int)]
def wsX6_place : List Cond := .code yX6_place cX6_place 2 (some .long) :: ((wsX6_place_r1 ++ (wsX6_place_r2 ++ (wsX6_place_r3 ++ wsX6_place_r4))) ++ wsX60)
def wsX6_height_r1 : List Cond := [Cond.fieldLink RX6 69 "StaffHeadsModel" "thrown" "I", Cond.fieldLink RX6 66 "StaffHeadsModel" "unit" "I", Cond.fieldLink RX6 28 "StaffHeadsModel" "staffOf" "[I", Cond.constantLong RX6 164 (-1001), Cond.methodLink RX6 134 yX6_reckon, Cond.instanceMethod yX6_reckon, Cond.selects RX6 yX6_reckon yX6_reckon, Cond.initialized RX6, Cond.code yX6_reckon cX6_reckon 2 none, Cond.fieldLink RX6 76 "StaffHeadsModel" "notes" "I", Cond.fieldLink RX6 53 "StaffHeadsModel" "stepOf" "[I", Cond.methodLink RX6 89 yX6_reckonStep, Cond.instanceMethod yX6_reckonStep, Cond.selects RX6 yX6_reckonStep yX6_reckonStep, Cond.code yX6_reckonStep cX6_reckonStep 6 (some .int), Cond.fieldLink RX6 7 "StaffHeadsModel" "clefKind" "[I", Cond.fieldLink RX6 83 "StaffHeadsModel" "shifts" "I", Cond.fieldLink RX6 16 "StaffHeadsModel" "shiftStaff" "[I", Cond.fieldLink RX6 34 "StaffHeadsModel" "tickOf" "[I", Cond.fieldLink RX6 19 "StaffHeadsModel" "shiftFrom" "[I", Cond.fieldLink RX6 22 "StaffHeadsModel" "shiftTo" "[I", Cond.fieldLink RX6 25 "StaffHeadsModel" "shiftBy" "[I", Cond.fieldLink RX6 37 "StaffHeadsModel" "numberOf" "[I", Cond.fieldLink RX6 13 "StaffHeadsModel" "clefLine" "[I"]
def wsX6_height_r2 : List Cond := [Cond.methodLink RX6 72 yX6_in, Cond.static yX6_in, Cond.code yX6_in cX6_in 3 (some .boolean), Cond.methodLink RX6 86 yX6_isNote, Cond.instanceMethod yX6_isNote, Cond.selects RX6 yX6_isNote yX6_isNote, Cond.code yX6_isNote cX6_isNote 2 (some .boolean), Cond.methodLink RX6 100 yX6_step, Cond.instanceMethod yX6_step, Cond.selects RX6 yX6_step yX6_step, Cond.code yX6_step cX6_step 2 (some .int), Cond.methodLink RX6 168 yX6_placeOf, Cond.instanceMethod yX6_placeOf, Cond.selects RX6 yX6_placeOf yX6_placeOf, Cond.code yX6_placeOf cX6_placeOf 5 (some .long), Cond.methodLink RX6 155 yX6_isHidden, Cond.instanceMethod yX6_isHidden, Cond.selects RX6 yX6_isHidden yX6_isHidden, Cond.code yX6_isHidden cX6_isHidden 4 (some .boolean), Cond.fieldLink RX6 151 "StaffHeadsModel" "hiding" "Z", Cond.methodLink RX6 161 yX6_gapAbove, Cond.instanceMethod yX6_gapAbove, Cond.selects RX6 yX6_gapAbove yX6_gapAbove, Cond.code yX6_gapAbove cX6_gapAbove 6 (some .int)]
def wsX6_height_r3 : List Cond := [Cond.fieldLink RX6 50 "StaffHeadsModel" "least" "I", Cond.fieldLink RX6 46 "StaffHeadsModel" "pad" "I", Cond.methodLink RX6 158 yX6_isFirstAt, Cond.instanceMethod yX6_isFirstAt, Cond.selects RX6 yX6_isFirstAt yX6_isFirstAt, Cond.code yX6_isFirstAt cX6_isFirstAt 5 (some .boolean), Cond.methodLink RX6 144 yX6_high, Cond.instanceMethod yX6_high, Cond.selects RX6 yX6_high yX6_high, Cond.code yX6_high cX6_high 7 (some .int), Cond.fieldLink RX6 43 "StaffHeadsModel" "headOf" "[I", Cond.fieldLink RX6 31 "StaffHeadsModel" "voiceOf" "[I", Cond.methodLink RX6 93 yX6_isAt, Cond.instanceMethod yX6_isAt, Cond.selects RX6 yX6_isAt yX6_isAt, Cond.code yX6_isAt cX6_isAt 4 (some .boolean), Cond.methodLink RX6 114 yX6_stemOf, Cond.instanceMethod yX6_stemOf, Cond.selects RX6 yX6_stemOf yX6_stemOf, Cond.code yX6_stemOf cX6_stemOf 2 (some .int), Cond.methodLink RX6 111 yX6_stem, Cond.instanceMethod yX6_stem, Cond.selects RX6 yX6_stem yX6_stem, Cond.code yX6_stem cX6_stem 8 (some .int)]
def wsX6_height_r4 : List Cond := [Cond.methodLink RX6 103 yX6_many, Cond.instanceMethod yX6_many, Cond.selects RX6 yX6_many yX6_many, Cond.code yX6_many cX6_many 6 (some .int), Cond.methodLink RX6 96 yX6_isIn, Cond.instanceMethod yX6_isIn, Cond.selects RX6 yX6_isIn yX6_isIn, Cond.code yX6_isIn cX6_isIn 5 (some .boolean), Cond.methodLink RX6 107 yX6_end, Cond.instanceMethod yX6_end, Cond.selects RX6 yX6_end yX6_end, Cond.code yX6_end cX6_end 8 (some .int), Cond.methodLink RX6 148 yX6_low, Cond.instanceMethod yX6_low, Cond.selects RX6 yX6_low yX6_low, Cond.code yX6_low cX6_low 7 (some .int)]
def wsX6_height : List Cond := .code yX6_height cX6_height 2 (some .long) :: ((wsX6_height_r1 ++ (wsX6_height_r2 ++ (wsX6_height_r3 ++ wsX6_height_r4))) ++ wsX60)
def wsX6_crowded_r1 : List Cond := [Cond.fieldLink RX6 69 "StaffHeadsModel" "thrown" "I", Cond.fieldLink RX6 56 "StaffHeadsModel" "movedBy" "[I", Cond.methodLink RX6 79 yX6_isStaff, Cond.static yX6_isStaff, Cond.initialized RX6, Cond.code yX6_isStaff cX6_isStaff 1 (some .boolean), Cond.methodLink RX6 72 yX6_in, Cond.static yX6_in, Cond.code yX6_in cX6_in 3 (some .boolean), Cond.methodLink RX6 134 yX6_reckon, Cond.instanceMethod yX6_reckon, Cond.selects RX6 yX6_reckon yX6_reckon, Cond.code yX6_reckon cX6_reckon 2 none, Cond.fieldLink RX6 76 "StaffHeadsModel" "notes" "I", Cond.fieldLink RX6 53 "StaffHeadsModel" "stepOf" "[I", Cond.methodLink RX6 89 yX6_reckonStep, Cond.instanceMethod yX6_reckonStep, Cond.selects RX6 yX6_reckonStep yX6_reckonStep, Cond.code yX6_reckonStep cX6_reckonStep 6 (some .int), Cond.fieldLink RX6 28 "StaffHeadsModel" "staffOf" "[I", Cond.fieldLink RX6 7 "StaffHeadsModel" "clefKind" "[I", Cond.fieldLink RX6 83 "StaffHeadsModel" "shifts" "I", Cond.fieldLink RX6 16 "StaffHeadsModel" "shiftStaff" "[I", Cond.fieldLink RX6 34 "StaffHeadsModel" "tickOf" "[I"]
def wsX6_crowded_r2 : List Cond := [Cond.fieldLink RX6 19 "StaffHeadsModel" "shiftFrom" "[I", Cond.fieldLink RX6 22 "StaffHeadsModel" "shiftTo" "[I", Cond.fieldLink RX6 25 "StaffHeadsModel" "shiftBy" "[I", Cond.fieldLink RX6 37 "StaffHeadsModel" "numberOf" "[I", Cond.fieldLink RX6 13 "StaffHeadsModel" "clefLine" "[I", Cond.methodLink RX6 103 yX6_many, Cond.instanceMethod yX6_many, Cond.selects RX6 yX6_many yX6_many, Cond.code yX6_many cX6_many 6 (some .int), Cond.methodLink RX6 96 yX6_isIn, Cond.instanceMethod yX6_isIn, Cond.selects RX6 yX6_isIn yX6_isIn, Cond.code yX6_isIn cX6_isIn 5 (some .boolean), Cond.fieldLink RX6 31 "StaffHeadsModel" "voiceOf" "[I", Cond.methodLink RX6 93 yX6_isAt, Cond.instanceMethod yX6_isAt, Cond.selects RX6 yX6_isAt yX6_isAt, Cond.code yX6_isAt cX6_isAt 4 (some .boolean), Cond.methodLink RX6 137 yX6_move, Cond.instanceMethod yX6_move, Cond.selects RX6 yX6_move yX6_move, Cond.code yX6_move cX6_move 6 none, Cond.fieldLink RX6 59 "StaffHeadsModel" "columnOf" "[I", Cond.methodLink RX6 121 yX6_aside]
def wsX6_crowded_r3 : List Cond := [Cond.instanceMethod yX6_aside, Cond.selects RX6 yX6_aside yX6_aside, Cond.code yX6_aside cX6_aside 9 (some .int), Cond.methodLink RX6 114 yX6_stemOf, Cond.instanceMethod yX6_stemOf, Cond.selects RX6 yX6_stemOf yX6_stemOf, Cond.code yX6_stemOf cX6_stemOf 2 (some .int), Cond.methodLink RX6 111 yX6_stem, Cond.instanceMethod yX6_stem, Cond.selects RX6 yX6_stem yX6_stem, Cond.code yX6_stem cX6_stem 8 (some .int), Cond.methodLink RX6 107 yX6_end, Cond.instanceMethod yX6_end, Cond.selects RX6 yX6_end yX6_end, Cond.code yX6_end cX6_end 8 (some .int), Cond.methodLink RX6 100 yX6_step, Cond.instanceMethod yX6_step, Cond.selects RX6 yX6_step yX6_step, Cond.code yX6_step cX6_step 2 (some .int), Cond.methodLink RX6 117 yX6_isAhead, Cond.instanceMethod yX6_isAhead, Cond.selects RX6 yX6_isAhead yX6_isAhead, Cond.code yX6_isAhead cX6_isAhead 5 (some .boolean), Cond.methodLink RX6 124 yX6_liesOver]
def wsX6_crowded_r4 : List Cond := [Cond.instanceMethod yX6_liesOver, Cond.selects RX6 yX6_liesOver yX6_liesOver, Cond.code yX6_liesOver cX6_liesOver 7 (some .boolean), Cond.methodLink RX6 127 yX6_areShared, Cond.instanceMethod yX6_areShared, Cond.selects RX6 yX6_areShared yX6_areShared, Cond.code yX6_areShared cX6_areShared 3 (some .boolean), Cond.fieldLink RX6 43 "StaffHeadsModel" "headOf" "[I", Cond.fieldLink RX6 40 "StaffHeadsModel" "signOf" "[I"]
def wsX6_crowded : List Cond := .code yX6_crowded cX6_crowded 6 (some .int) :: ((wsX6_crowded_r1 ++ (wsX6_crowded_r2 ++ (wsX6_crowded_r3 ++ wsX6_crowded_r4))) ++ wsX60)
def wsX6_about : List Cond := .code yX6_about cX6_about 4 (some .int) :: ([.fieldLink RX6 69 "StaffHeadsModel" "thrown" "I", .fieldLink RX6 76 "StaffHeadsModel" "notes" "I", .fieldLink RX6 83 "StaffHeadsModel" "shifts" "I", .methodLink RX6 155 yX6_isHidden, .instanceMethod yX6_isHidden, .selects RX6 yX6_isHidden yX6_isHidden, .initialized RX6, .code yX6_isHidden cX6_isHidden 4 (some .boolean), .fieldLink RX6 151 "StaffHeadsModel" "hiding" "Z", .fieldLink RX6 28 "StaffHeadsModel" "staffOf" "[I"] ++ wsX60)
def wsJ9_abs_0f7a4 : List Cond := .code yJ9_abs_0f7a4 cJ9_abs_0f7a4 1 (some .int) :: ([])
def wsJ9_max_7cf53 : List Cond := .code yJ9_max_7cf53 cJ9_max_7cf53 2 (some .int) :: ([])
def wsJ9_min_7cf53 : List Cond := .code yJ9_min_7cf53 cJ9_min_7cf53 2 (some .int) :: ([])
def wsL_cell : List Cond := .code yL_cell cL_cell 2 (some .int) :: ([])
def wsL_crowded_r1 : List Cond := [Cond.classLink RL 13 "java/lang/ArithmeticException", Cond.methodLink RL 7 yX5_crowded, Cond.instanceMethod yX5_crowded, Cond.selects RX5 yX5_crowded yX5_crowded, Cond.initialized RX5, Cond.code yX5_crowded cX5_crowded 6 (some .int), Cond.classLink RX5 163 "java/lang/ArithmeticException", Cond.initialized "java/lang/ArithmeticException", Cond.fieldLink RX5 26 "StaffHeads" "layout" "LStaffHeads$Layout;", Cond.fieldLink RX5 19 "StaffHeads" "notes" "LStaffHeads$Notes;", Cond.fieldLink RX5 10 "StaffHeads" "staves" "LStaffHeads$Staves;", Cond.fieldLink RX5 133 "StaffHeads$Layout" "noteCount" "[I", Cond.fieldLink RX5 160 "StaffHeads$Layout" "mostMoved" "[I", Cond.methodLink RX5 49 yX5_isStaff, Cond.static yX5_isStaff, Cond.code yX5_isStaff cX5_isStaff 1 (some .boolean), Cond.methodLink RX5 42 yX5_within, Cond.static yX5_within, Cond.code yX5_within cX5_within 3 (some .boolean), Cond.methodLink RX5 92 yX1_refresh, Cond.instanceMethod yX1_refresh, Cond.selects RX1 yX1_refresh yX1_refresh, Cond.initialized RX1, Cond.code yX1_refresh cX1_refresh 5 none]
def wsL_crowded_r2 : List Cond := [Cond.fieldLink RX1 9 "StaffHeads$Layout" "stale" "Z", Cond.fieldLink RX1 69 "StaffHeads$Notes" "count" "I", Cond.fieldLink RX1 15 "StaffHeads$Layout" "step" "[I", Cond.fieldLink RX1 75 "StaffHeads$Notes" "staff" "[I", Cond.fieldLink RX1 78 "StaffHeads$Notes" "tick" "[I", Cond.fieldLink RX1 81 "StaffHeads$Notes" "number" "[I", Cond.fieldLink RX1 40 "StaffHeads$Layout" "noteCount" "[I", Cond.methodLink RX1 66 yX1_clear, Cond.instanceMethod yX1_clear, Cond.selects RX1 yX1_clear yX1_clear, Cond.code yX1_clear cX1_clear 1 none, Cond.fieldLink RX1 31 "StaffHeads$Layout" "signColumn" "[I", Cond.fieldLink RX1 34 "StaffHeads$Layout" "high" "[I", Cond.fieldLink RX1 37 "StaffHeads$Layout" "low" "[I", Cond.fieldLink RX1 43 "StaffHeads$Layout" "chordCount" "[I", Cond.fieldLink RX1 46 "StaffHeads$Layout" "signColumns" "[I", Cond.fieldLink RX1 49 "StaffHeads$Layout" "mostMoved" "[I", Cond.methodLink RX1 98 yJ7_fill_53178, Cond.static yJ7_fill_53178, Cond.initialized RJ7, Cond.code yJ7_fill_53178 cJ7_fill_53178 4 none, Cond.methodLink RX1 84 yX4_stepOf, Cond.instanceMethod yX4_stepOf, Cond.selects RX4 yX4_stepOf yX4_stepOf]
def wsL_crowded_r3 : List Cond := [Cond.initialized RX4, Cond.code yX4_stepOf cX4_stepOf 6 (some .int), Cond.fieldLink RX4 27 "StaffHeads$Staves" "shifts" "I", Cond.fieldLink RX4 15 "StaffHeads$Staves" "shiftStaff" "[I", Cond.fieldLink RX4 18 "StaffHeads$Staves" "shiftFrom" "[I", Cond.fieldLink RX4 21 "StaffHeads$Staves" "shiftTo" "[I", Cond.fieldLink RX4 24 "StaffHeads$Staves" "shiftOctaves" "[I", Cond.fieldLink RX4 9 "StaffHeads$Staves" "lowestLine" "[I", Cond.static yX5_cellOf, Cond.code yX5_cellOf cX5_cellOf 2 (some .int), Cond.methodLink RX1 94 yX1_layCell, Cond.instanceMethod yX1_layCell, Cond.selects RX1 yX1_layCell yX1_layCell, Cond.code yX1_layCell cX1_layCell 5 none, Cond.fieldLink RX1 55 "StaffHeads$Layout" "chords" "[LStaffHeads$Chord;", Cond.fieldLink RX1 22 "StaffHeads$Layout" "aside" "[I", Cond.fieldLink RX1 123 "StaffHeads$Chord" "size" "I", Cond.fieldLink RX1 62 "StaffHeads$Layout" "signs" "LStaffHeads$Signs;", Cond.fieldLink RX1 130 "StaffHeads$Notes" "sign" "[I", Cond.methodLink RX1 104 yX1_gather, Cond.instanceMethod yX1_gather, Cond.selects RX1 yX1_gather yX1_gather, Cond.code yX1_gather cX1_gather 5 none, Cond.fieldLink RX1 143 "StaffHeads$Notes" "voice" "[I"]
def wsL_crowded_r4 : List Cond := [Cond.fieldLink RX1 146 "StaffHeads$Notes" "head" "[I", Cond.methodLink RX1 137 yX0_clear, Cond.instanceMethod yX0_clear, Cond.selects RX0 yX0_clear yX0_clear, Cond.initialized RX0, Cond.code yX0_clear cX0_clear 1 none, Cond.fieldLink RX0 15 "StaffHeads$Chord" "size" "I", Cond.fieldLink RX0 19 "StaffHeads$Chord" "onlyWhole" "Z", Cond.fieldLink RX0 23 "StaffHeads$Chord" "moved" "I", Cond.methodLink RX1 138 yX3_clear, Cond.instanceMethod yX3_clear, Cond.selects RX3 yX3_clear yX3_clear, Cond.initialized RX3, Cond.code yX3_clear cX3_clear 1 none, Cond.fieldLink RX3 18 "StaffHeads$Signs" "size" "I", Cond.methodLink RX1 139 yX2_together, Cond.instanceMethod yX2_together, Cond.selects RX2 yX2_together yX2_together, Cond.initialized RX2, Cond.code yX2_together cX2_together 3 (some .boolean), Cond.fieldLink RX2 9 "StaffHeads$Notes" "staff" "[I", Cond.fieldLink RX2 18 "StaffHeads$Notes" "tick" "[I", Cond.methodLink RX1 149 yX0_add, Cond.instanceMethod yX0_add]
def wsL_crowded_r5 : List Cond := [Cond.selects RX0 yX0_add yX0_add, Cond.code yX0_add cX0_add 4 none, Cond.fieldLink RX0 26 "StaffHeads$Chord" "lowest" "I", Cond.methodLink RX0 29 Lib.Math.min.name, Cond.static Lib.Math.min.name, Cond.initialized "java/lang/Math", Cond.code Lib.Math.min.name Lib.Math.min.code 2 (some .int), Cond.fieldLink RX0 35 "StaffHeads$Chord" "highest" "I", Cond.methodLink RX0 38 Lib.Math.max.name, Cond.static Lib.Math.max.name, Cond.code Lib.Math.max.name Lib.Math.max.code 2 (some .int), Cond.fieldLink RX0 9 "StaffHeads$Chord" "heads" "[I", Cond.methodLink RX1 153 yX3_add, Cond.instanceMethod yX3_add, Cond.selects RX3 yX3_add yX3_add, Cond.code yX3_add cX3_add 2 none, Cond.fieldLink RX3 9 "StaffHeads$Signs" "bearers" "[I", Cond.methodLink RX1 107 yX1_turnStems, Cond.instanceMethod yX1_turnStems, Cond.selects RX1 yX1_turnStems yX1_turnStems, Cond.code yX1_turnStems cX1_turnStems 6 none, Cond.fieldLink RX1 159 "StaffHeads$Chord" "up" "Z", Cond.fieldLink RX1 19 "StaffHeads$Layout" "stem" "[I", Cond.fieldLink RX1 162 "StaffHeads$Chord" "heads" "[I"]
def wsL_crowded_r6 : List Cond := [Cond.methodLink RX1 155 yX0_liesLow, Cond.instanceMethod yX0_liesLow, Cond.selects RX0 yX0_liesLow yX0_liesLow, Cond.code yX0_liesLow cX0_liesLow 1 (some .boolean), Cond.methodLink RX1 111 yX0_sortFromStemsFarEnd, Cond.instanceMethod yX0_sortFromStemsFarEnd, Cond.selects RX0 yX0_sortFromStemsFarEnd yX0_sortFromStemsFarEnd, Cond.code yX0_sortFromStemsFarEnd cX0_sortFromStemsFarEnd 5 none, Cond.methodLink RX0 41 yX0_isBefore, Cond.instanceMethod yX0_isBefore, Cond.selects RX0 yX0_isBefore yX0_isBefore, Cond.code yX0_isBefore cX0_isBefore 3 (some .boolean), Cond.fieldLink RX0 45 "StaffHeads$Chord" "up" "Z", Cond.methodLink RX1 115 yX0_turnHeads, Cond.instanceMethod yX0_turnHeads, Cond.selects RX0 yX0_turnHeads yX0_turnHeads, Cond.code yX0_turnHeads cX0_turnHeads 7 none, Cond.methodLink RX0 48 Lib.Math.abs.name, Cond.static Lib.Math.abs.name, Cond.code Lib.Math.abs.name Lib.Math.abs.code 1 (some .int), Cond.methodLink RX1 119 yX1_moveChords, Cond.instanceMethod yX1_moveChords, Cond.selects RX1 yX1_moveChords yX1_moveChords, Cond.code yX1_moveChords cX1_moveChords 4 none]
def wsL_crowded_r7 : List Cond := [Cond.fieldLink RX1 165 "StaffHeads$Chord" "moved" "I", Cond.methodLink RX1 167 yX1_liesOverLesser, Cond.instanceMethod yX1_liesOverLesser, Cond.selects RX1 yX1_liesOverLesser yX1_liesOverLesser, Cond.code yX1_liesOverLesser cX1_liesOverLesser 4 (some .boolean), Cond.methodLink RX1 171 yX1_lieOver, Cond.instanceMethod yX1_lieOver, Cond.selects RX1 yX1_lieOver yX1_lieOver, Cond.code yX1_lieOver cX1_lieOver 8 (some .boolean), Cond.methodLink RX1 175 Lib.Math.abs.name, Cond.methodLink RX1 181 yX1_areShared, Cond.instanceMethod yX1_areShared, Cond.selects RX1 yX1_areShared yX1_areShared, Cond.code yX1_areShared cX1_areShared 4 (some .boolean), Cond.methodLink RX1 126 yX1_keep, Cond.instanceMethod yX1_keep, Cond.selects RX1 yX1_keep yX1_keep, Cond.code yX1_keep cX1_keep 4 none, Cond.fieldLink RX1 25 "StaffHeads$Layout" "moved" "[I", Cond.fieldLink RX1 28 "StaffHeads$Layout" "chordSize" "[I", Cond.methodLink RX1 189 Lib.Math.max.name, Cond.methodLink RX1 195 Lib.Math.min.name, Cond.methodLink RX1 185 yX0_reachUp, Cond.instanceMethod yX0_reachUp]
def wsL_crowded_r8 : List Cond := [Cond.selects RX0 yX0_reachUp yX0_reachUp, Cond.code yX0_reachUp cX0_reachUp 1 (some .int), Cond.methodLink RX1 192 yX0_reachDown, Cond.instanceMethod yX0_reachDown, Cond.selects RX0 yX0_reachDown yX0_reachDown, Cond.code yX0_reachDown cX0_reachDown 1 (some .int), Cond.methodLink RX1 133 yX3_placeAll, Cond.instanceMethod yX3_placeAll, Cond.selects RX3 yX3_placeAll yX3_placeAll, Cond.code yX3_placeAll cX3_placeAll 7 (some .int), Cond.fieldLink RX3 15 "StaffHeads$Signs" "takenInTurn" "[I", Cond.methodLink RX3 36 Lib.Math.max.name, Cond.methodLink RX3 22 yJ7_fill_53178, Cond.methodLink RX3 28 yX3_outermost, Cond.instanceMethod yX3_outermost, Cond.selects RX3 yX3_outermost yX3_outermost, Cond.code yX3_outermost cX3_outermost 7 (some .int), Cond.methodLink RX3 32 yX3_columnFor, Cond.instanceMethod yX3_columnFor, Cond.selects RX3 yX3_columnFor yX3_columnFor, Cond.code yX3_columnFor cX3_columnFor 8 (some .int), Cond.methodLink RX3 42 Lib.Math.abs.name, Cond.methodLink RX5 123 yX5_cellOf]
def wsL_crowded : List Cond := .codeWith yL_crowded cL_crowded 4 (some .int) [(0, 9, 12, 13)] :: ((wsL_crowded_r1 ++ (wsL_crowded_r2 ++ (wsL_crowded_r3 ++ (wsL_crowded_r4 ++ (wsL_crowded_r5 ++ (wsL_crowded_r6 ++ (wsL_crowded_r7 ++ wsL_crowded_r8))))))) ++ wsX50 ++ wsX10 ++ wsX20 ++ wsX40 ++ wsX00 ++ wsX30 ++ (vx_atS RX5 167 "java/lang/ArithmeticException" ["java/lang/RuntimeException", "java/lang/Exception"]).filter goodWord)
def wsL_law0_r1 : List Cond := [Cond.classLink RL 8 RX5, Cond.instantiable RX5 7, Cond.initialized RX5, Cond.classLink RL 24 RX6, Cond.instantiable RX6 23, Cond.initialized RX6, Cond.arrayClass .long, Cond.methodLink RL 15 yL_cell, Cond.static yL_cell, Cond.initialized RL, Cond.code yL_cell cL_cell 2 (some .int), Cond.methodLink RL 21 yX5_init, Cond.instanceMethod yX5_init, Cond.code yX5_init cX5_init 2 none, Cond.methodLink RX5 1 objectInit, Cond.instanceMethod objectInit, Cond.code objectInit ⟨#[0xb1]⟩ 1 none, Cond.classLink RX5 7 RX4, Cond.instantiable RX4 6, Cond.initialized RX4, Cond.fieldLink RX5 10 "StaffHeads" "staves" "LStaffHeads$Staves;", Cond.classLink RX5 16 RX2, Cond.instantiable RX2 7, Cond.initialized RX2]
def wsL_law0_r2 : List Cond := [Cond.fieldLink RX5 19 "StaffHeads" "notes" "LStaffHeads$Notes;", Cond.classLink RX5 23 RX1, Cond.instantiable RX1 15, Cond.initialized RX1, Cond.fieldLink RX5 26 "StaffHeads" "layout" "LStaffHeads$Layout;", Cond.fieldLink RX5 30 "StaffHeads" "pad" "I", Cond.fieldLink RX5 34 "StaffHeads" "least" "I", Cond.fieldLink RX5 37 "StaffHeads" "hiding" "Z", Cond.constant RX5 41 (65536), Cond.fieldLink RX5 46 "StaffHeads" "unit" "I", Cond.methodLink RX5 9 yX4_init, Cond.instanceMethod yX4_init, Cond.code yX4_init cX4_init 2 none, Cond.methodLink RX4 3 objectInit, Cond.arrayClass .int, Cond.fieldLink RX4 9 "StaffHeads$Staves" "lowestLine" "[I", Cond.fieldLink RX4 15 "StaffHeads$Staves" "shiftStaff" "[I", Cond.fieldLink RX4 18 "StaffHeads$Staves" "shiftFrom" "[I", Cond.fieldLink RX4 21 "StaffHeads$Staves" "shiftTo" "[I", Cond.fieldLink RX4 24 "StaffHeads$Staves" "shiftOctaves" "[I", Cond.fieldLink RX4 27 "StaffHeads$Staves" "shifts" "I", Cond.methodLink RX4 31 yX4_putClef, Cond.instanceMethod yX4_putClef, Cond.selects RX4 yX4_putClef yX4_putClef]
def wsL_law0_r3 : List Cond := [Cond.code yX4_putClef cX4_putClef 4 none, Cond.instanceMethod yX2_init, Cond.code yX2_init cX2_init 1 none, Cond.methodLink RX2 3 objectInit, Cond.fieldLink RX2 9 "StaffHeads$Notes" "staff" "[I", Cond.fieldLink RX2 15 "StaffHeads$Notes" "voice" "[I", Cond.fieldLink RX2 18 "StaffHeads$Notes" "tick" "[I", Cond.fieldLink RX2 21 "StaffHeads$Notes" "number" "[I", Cond.fieldLink RX2 24 "StaffHeads$Notes" "sign" "[I", Cond.fieldLink RX2 27 "StaffHeads$Notes" "head" "[I", Cond.fieldLink RX2 30 "StaffHeads$Notes" "count" "I", Cond.instanceMethod yX1_init, Cond.code yX1_init cX1_init 1 none, Cond.methodLink RX1 3 objectInit, Cond.fieldLink RX1 9 "StaffHeads$Layout" "stale" "Z", Cond.fieldLink RX1 15 "StaffHeads$Layout" "step" "[I", Cond.fieldLink RX1 19 "StaffHeads$Layout" "stem" "[I", Cond.fieldLink RX1 22 "StaffHeads$Layout" "aside" "[I", Cond.fieldLink RX1 25 "StaffHeads$Layout" "moved" "[I", Cond.fieldLink RX1 28 "StaffHeads$Layout" "chordSize" "[I", Cond.fieldLink RX1 31 "StaffHeads$Layout" "signColumn" "[I", Cond.fieldLink RX1 34 "StaffHeads$Layout" "high" "[I", Cond.fieldLink RX1 37 "StaffHeads$Layout" "low" "[I", Cond.fieldLink RX1 40 "StaffHeads$Layout" "noteCount" "[I"]
def wsL_law0_r4 : List Cond := [Cond.fieldLink RX1 43 "StaffHeads$Layout" "chordCount" "[I", Cond.fieldLink RX1 46 "StaffHeads$Layout" "signColumns" "[I", Cond.fieldLink RX1 49 "StaffHeads$Layout" "mostMoved" "[I", Cond.classLink RX1 52 RX0, Cond.instantiable RX0 7, Cond.initialized RX0, Cond.fieldLink RX1 55 "StaffHeads$Layout" "chords" "[LStaffHeads$Chord;", Cond.classLink RX1 59 RX3, Cond.instantiable RX3 3, Cond.initialized RX3, Cond.fieldLink RX1 62 "StaffHeads$Layout" "signs" "LStaffHeads$Signs;", Cond.instanceMethod yX0_init, Cond.code yX0_init cX0_init 1 none, Cond.methodLink RX0 3 objectInit, Cond.fieldLink RX0 9 "StaffHeads$Chord" "heads" "[I", Cond.instanceMethod yX3_init, Cond.code yX3_init cX3_init 1 none, Cond.methodLink RX3 3 objectInit, Cond.fieldLink RX3 9 "StaffHeads$Signs" "bearers" "[I", Cond.fieldLink RX3 15 "StaffHeads$Signs" "takenInTurn" "[I", Cond.methodLink RX5 42 yX5_within, Cond.static yX5_within, Cond.code yX5_within cX5_within 3 (some .boolean), Cond.methodLink RL 26 yX6_init]
def wsL_law0_r5 : List Cond := [Cond.instanceMethod yX6_init, Cond.code yX6_init cX6_init 3 none, Cond.methodLink RX6 1 objectInit, Cond.fieldLink RX6 7 "StaffHeadsModel" "clefKind" "[I", Cond.fieldLink RX6 13 "StaffHeadsModel" "clefLine" "[I", Cond.fieldLink RX6 16 "StaffHeadsModel" "shiftStaff" "[I", Cond.fieldLink RX6 19 "StaffHeadsModel" "shiftFrom" "[I", Cond.fieldLink RX6 22 "StaffHeadsModel" "shiftTo" "[I", Cond.fieldLink RX6 25 "StaffHeadsModel" "shiftBy" "[I", Cond.fieldLink RX6 28 "StaffHeadsModel" "staffOf" "[I", Cond.fieldLink RX6 31 "StaffHeadsModel" "voiceOf" "[I", Cond.fieldLink RX6 34 "StaffHeadsModel" "tickOf" "[I", Cond.fieldLink RX6 37 "StaffHeadsModel" "numberOf" "[I", Cond.fieldLink RX6 40 "StaffHeadsModel" "signOf" "[I", Cond.fieldLink RX6 43 "StaffHeadsModel" "headOf" "[I", Cond.fieldLink RX6 46 "StaffHeadsModel" "pad" "I", Cond.fieldLink RX6 50 "StaffHeadsModel" "least" "I", Cond.fieldLink RX6 53 "StaffHeadsModel" "stepOf" "[I", Cond.fieldLink RX6 56 "StaffHeadsModel" "movedBy" "[I", Cond.fieldLink RX6 59 "StaffHeadsModel" "columnOf" "[I", Cond.fieldLink RX6 62 "StaffHeadsModel" "signColumn" "[I", Cond.constant RX6 65 (65536), Cond.fieldLink RX6 66 "StaffHeadsModel" "unit" "I", Cond.methodLink RL 27 yX5_clef]
def wsL_law0_r6 : List Cond := [Cond.instanceMethod yX5_clef, Cond.selects RX5 yX5_clef yX5_clef, Cond.code yX5_clef cX5_clef 4 (some .int), Cond.fieldLink RX5 53 "StaffHeads" "CLEF_NUMBERS" "[I", Cond.fieldLink RX5 61 "StaffHeads$Layout" "stale" "Z", Cond.methodLink RX5 49 yX5_isStaff, Cond.static yX5_isStaff, Cond.code yX5_isStaff cX5_isStaff 1 (some .boolean), Cond.methodLink RX5 57 yX4_putClef, Cond.methodLink RL 31 yX6_clef, Cond.instanceMethod yX6_clef, Cond.selects RX6 yX6_clef yX6_clef, Cond.code yX6_clef cX6_clef 4 (some .int), Cond.fieldLink RX6 69 "StaffHeadsModel" "thrown" "I", Cond.methodLink RX6 79 yX6_isStaff, Cond.static yX6_isStaff, Cond.code yX6_isStaff cX6_isStaff 1 (some .boolean), Cond.methodLink RX6 72 yX6_in, Cond.static yX6_in, Cond.code yX6_in cX6_in 3 (some .boolean), Cond.methodLink RL 32 yX5_shift, Cond.instanceMethod yX5_shift, Cond.selects RX5 yX5_shift yX5_shift, Cond.code yX5_shift cX5_shift 5 (some .int)]
def wsL_law0_r7 : List Cond := [Cond.fieldLink RX5 67 "StaffHeads$Staves" "shifts" "I", Cond.methodLink RX5 64 yX5_isTick, Cond.static yX5_isTick, Cond.code yX5_isTick cX5_isTick 1 (some .boolean), Cond.methodLink RX5 70 yX4_addShift, Cond.instanceMethod yX4_addShift, Cond.selects RX4 yX4_addShift yX4_addShift, Cond.code yX4_addShift cX4_addShift 5 none, Cond.methodLink RL 36 yX6_shift, Cond.instanceMethod yX6_shift, Cond.selects RX6 yX6_shift yX6_shift, Cond.code yX6_shift cX6_shift 5 (some .int), Cond.fieldLink RX6 83 "StaffHeadsModel" "shifts" "I", Cond.methodLink RL 37 yX5_plain, Cond.instanceMethod yX5_plain, Cond.selects RX5 yX5_plain yX5_plain, Cond.code yX5_plain cX5_plain 2 (some .int), Cond.methodLink RL 41 yX6_plain, Cond.instanceMethod yX6_plain, Cond.selects RX6 yX6_plain yX6_plain, Cond.code yX6_plain cX6_plain 2 (some .int), Cond.methodLink RL 42 yX5_note, Cond.instanceMethod yX5_note, Cond.selects RX5 yX5_note yX5_note]
def wsL_law0_r8 : List Cond := [Cond.code yX5_note cX5_note 8 (some .int), Cond.fieldLink RX5 78 "StaffHeads$Notes" "count" "I", Cond.methodLink RX5 74 yX5_isPitch, Cond.static yX5_isPitch, Cond.code yX5_isPitch cX5_isPitch 2 (some .boolean), Cond.methodLink RX5 81 yX2_add, Cond.instanceMethod yX2_add, Cond.selects RX2 yX2_add yX2_add, Cond.code yX2_add cX2_add 7 none, Cond.methodLink RL 46 yX6_note, Cond.instanceMethod yX6_note, Cond.selects RX6 yX6_note yX6_note, Cond.code yX6_note cX6_note 8 (some .int), Cond.fieldLink RX6 76 "StaffHeadsModel" "notes" "I", Cond.methodLink RL 47 yX5_drop, Cond.instanceMethod yX5_drop, Cond.selects RX5 yX5_drop yX5_drop, Cond.code yX5_drop cX5_drop 2 (some .int), Cond.methodLink RX5 85 yX2_has, Cond.instanceMethod yX2_has, Cond.selects RX2 yX2_has yX2_has, Cond.code yX2_has cX2_has 2 (some .boolean), Cond.methodLink RX5 88 yX2_remove, Cond.instanceMethod yX2_remove]
def wsL_law0_r9 : List Cond := [Cond.selects RX2 yX2_remove yX2_remove, Cond.code yX2_remove cX2_remove 3 none, Cond.methodLink RL 50 yX6_drop, Cond.instanceMethod yX6_drop, Cond.selects RX6 yX6_drop yX6_drop, Cond.code yX6_drop cX6_drop 3 (some .int), Cond.methodLink RX6 86 yX6_isNote, Cond.instanceMethod yX6_isNote, Cond.selects RX6 yX6_isNote yX6_isNote, Cond.code yX6_isNote cX6_isNote 2 (some .boolean), Cond.methodLink RL 51 yX5_of, Cond.instanceMethod yX5_of, Cond.selects RX5 yX5_of yX5_of, Cond.code yX5_of cX5_of 4 (some .int), Cond.fieldLink RX5 96 "StaffHeads$Layout" "step" "[I", Cond.fieldLink RX5 99 "StaffHeads$Layout" "stem" "[I", Cond.fieldLink RX5 102 "StaffHeads$Layout" "aside" "[I", Cond.fieldLink RX5 105 "StaffHeads$Layout" "moved" "[I", Cond.fieldLink RX5 108 "StaffHeads$Layout" "signColumn" "[I", Cond.fieldLink RX5 111 "StaffHeads$Layout" "chordSize" "[I", Cond.methodLink RX5 92 yX1_refresh, Cond.instanceMethod yX1_refresh, Cond.selects RX1 yX1_refresh yX1_refresh, Cond.code yX1_refresh cX1_refresh 5 none]
def wsL_law0_r10 : List Cond := [Cond.fieldLink RX1 69 "StaffHeads$Notes" "count" "I", Cond.fieldLink RX1 75 "StaffHeads$Notes" "staff" "[I", Cond.fieldLink RX1 78 "StaffHeads$Notes" "tick" "[I", Cond.fieldLink RX1 81 "StaffHeads$Notes" "number" "[I", Cond.methodLink RX1 66 yX1_clear, Cond.instanceMethod yX1_clear, Cond.selects RX1 yX1_clear yX1_clear, Cond.code yX1_clear cX1_clear 1 none, Cond.methodLink RX1 98 yJ7_fill_53178, Cond.static yJ7_fill_53178, Cond.initialized RJ7, Cond.code yJ7_fill_53178 cJ7_fill_53178 4 none, Cond.methodLink RX1 84 yX4_stepOf, Cond.instanceMethod yX4_stepOf, Cond.selects RX4 yX4_stepOf yX4_stepOf, Cond.code yX4_stepOf cX4_stepOf 6 (some .int), Cond.static yX5_cellOf, Cond.code yX5_cellOf cX5_cellOf 2 (some .int), Cond.methodLink RX1 94 yX1_layCell, Cond.instanceMethod yX1_layCell, Cond.selects RX1 yX1_layCell yX1_layCell, Cond.code yX1_layCell cX1_layCell 5 none, Cond.fieldLink RX1 123 "StaffHeads$Chord" "size" "I", Cond.fieldLink RX1 130 "StaffHeads$Notes" "sign" "[I"]
def wsL_law0_r11 : List Cond := [Cond.methodLink RX1 104 yX1_gather, Cond.instanceMethod yX1_gather, Cond.selects RX1 yX1_gather yX1_gather, Cond.code yX1_gather cX1_gather 5 none, Cond.fieldLink RX1 143 "StaffHeads$Notes" "voice" "[I", Cond.fieldLink RX1 146 "StaffHeads$Notes" "head" "[I", Cond.methodLink RX1 137 yX0_clear, Cond.instanceMethod yX0_clear, Cond.selects RX0 yX0_clear yX0_clear, Cond.code yX0_clear cX0_clear 1 none, Cond.fieldLink RX0 15 "StaffHeads$Chord" "size" "I", Cond.fieldLink RX0 19 "StaffHeads$Chord" "onlyWhole" "Z", Cond.fieldLink RX0 23 "StaffHeads$Chord" "moved" "I", Cond.methodLink RX1 138 yX3_clear, Cond.instanceMethod yX3_clear, Cond.selects RX3 yX3_clear yX3_clear, Cond.code yX3_clear cX3_clear 1 none, Cond.fieldLink RX3 18 "StaffHeads$Signs" "size" "I", Cond.methodLink RX1 139 yX2_together, Cond.instanceMethod yX2_together, Cond.selects RX2 yX2_together yX2_together, Cond.code yX2_together cX2_together 3 (some .boolean), Cond.methodLink RX1 149 yX0_add, Cond.instanceMethod yX0_add]
def wsL_law0_r12 : List Cond := [Cond.selects RX0 yX0_add yX0_add, Cond.code yX0_add cX0_add 4 none, Cond.fieldLink RX0 26 "StaffHeads$Chord" "lowest" "I", Cond.methodLink RX0 29 Lib.Math.min.name, Cond.static Lib.Math.min.name, Cond.initialized "java/lang/Math", Cond.code Lib.Math.min.name Lib.Math.min.code 2 (some .int), Cond.fieldLink RX0 35 "StaffHeads$Chord" "highest" "I", Cond.methodLink RX0 38 Lib.Math.max.name, Cond.static Lib.Math.max.name, Cond.code Lib.Math.max.name Lib.Math.max.code 2 (some .int), Cond.methodLink RX1 153 yX3_add, Cond.instanceMethod yX3_add, Cond.selects RX3 yX3_add yX3_add, Cond.code yX3_add cX3_add 2 none, Cond.methodLink RX1 107 yX1_turnStems, Cond.instanceMethod yX1_turnStems, Cond.selects RX1 yX1_turnStems yX1_turnStems, Cond.code yX1_turnStems cX1_turnStems 6 none, Cond.fieldLink RX1 159 "StaffHeads$Chord" "up" "Z", Cond.fieldLink RX1 162 "StaffHeads$Chord" "heads" "[I", Cond.methodLink RX1 155 yX0_liesLow, Cond.instanceMethod yX0_liesLow, Cond.selects RX0 yX0_liesLow yX0_liesLow]
def wsL_law0_r13 : List Cond := [Cond.code yX0_liesLow cX0_liesLow 1 (some .boolean), Cond.methodLink RX1 111 yX0_sortFromStemsFarEnd, Cond.instanceMethod yX0_sortFromStemsFarEnd, Cond.selects RX0 yX0_sortFromStemsFarEnd yX0_sortFromStemsFarEnd, Cond.code yX0_sortFromStemsFarEnd cX0_sortFromStemsFarEnd 5 none, Cond.methodLink RX0 41 yX0_isBefore, Cond.instanceMethod yX0_isBefore, Cond.selects RX0 yX0_isBefore yX0_isBefore, Cond.code yX0_isBefore cX0_isBefore 3 (some .boolean), Cond.fieldLink RX0 45 "StaffHeads$Chord" "up" "Z", Cond.methodLink RX1 115 yX0_turnHeads, Cond.instanceMethod yX0_turnHeads, Cond.selects RX0 yX0_turnHeads yX0_turnHeads, Cond.code yX0_turnHeads cX0_turnHeads 7 none, Cond.methodLink RX0 48 Lib.Math.abs.name, Cond.static Lib.Math.abs.name, Cond.code Lib.Math.abs.name Lib.Math.abs.code 1 (some .int), Cond.methodLink RX1 119 yX1_moveChords, Cond.instanceMethod yX1_moveChords, Cond.selects RX1 yX1_moveChords yX1_moveChords, Cond.code yX1_moveChords cX1_moveChords 4 none, Cond.fieldLink RX1 165 "StaffHeads$Chord" "moved" "I", Cond.methodLink RX1 167 yX1_liesOverLesser, Cond.instanceMethod yX1_liesOverLesser]
def wsL_law0_r14 : List Cond := [Cond.selects RX1 yX1_liesOverLesser yX1_liesOverLesser, Cond.code yX1_liesOverLesser cX1_liesOverLesser 4 (some .boolean), Cond.methodLink RX1 171 yX1_lieOver, Cond.instanceMethod yX1_lieOver, Cond.selects RX1 yX1_lieOver yX1_lieOver, Cond.code yX1_lieOver cX1_lieOver 8 (some .boolean), Cond.methodLink RX1 175 Lib.Math.abs.name, Cond.methodLink RX1 181 yX1_areShared, Cond.instanceMethod yX1_areShared, Cond.selects RX1 yX1_areShared yX1_areShared, Cond.code yX1_areShared cX1_areShared 4 (some .boolean), Cond.methodLink RX1 126 yX1_keep, Cond.instanceMethod yX1_keep, Cond.selects RX1 yX1_keep yX1_keep, Cond.code yX1_keep cX1_keep 4 none, Cond.methodLink RX1 189 Lib.Math.max.name, Cond.methodLink RX1 195 Lib.Math.min.name, Cond.methodLink RX1 185 yX0_reachUp, Cond.instanceMethod yX0_reachUp, Cond.selects RX0 yX0_reachUp yX0_reachUp, Cond.code yX0_reachUp cX0_reachUp 1 (some .int), Cond.methodLink RX1 192 yX0_reachDown, Cond.instanceMethod yX0_reachDown, Cond.selects RX0 yX0_reachDown yX0_reachDown]
def wsL_law0_r15 : List Cond := [Cond.code yX0_reachDown cX0_reachDown 1 (some .int), Cond.methodLink RX1 133 yX3_placeAll, Cond.instanceMethod yX3_placeAll, Cond.selects RX3 yX3_placeAll yX3_placeAll, Cond.code yX3_placeAll cX3_placeAll 7 (some .int), Cond.methodLink RX3 36 Lib.Math.max.name, Cond.methodLink RX3 22 yJ7_fill_53178, Cond.methodLink RX3 28 yX3_outermost, Cond.instanceMethod yX3_outermost, Cond.selects RX3 yX3_outermost yX3_outermost, Cond.code yX3_outermost cX3_outermost 7 (some .int), Cond.methodLink RX3 32 yX3_columnFor, Cond.instanceMethod yX3_columnFor, Cond.selects RX3 yX3_columnFor yX3_columnFor, Cond.code yX3_columnFor cX3_columnFor 8 (some .int), Cond.methodLink RX3 42 Lib.Math.abs.name, Cond.methodLink RL 55 yX6_of, Cond.instanceMethod yX6_of, Cond.selects RX6 yX6_of yX6_of, Cond.code yX6_of cX6_of 4 (some .int), Cond.methodLink RX6 134 yX6_reckon, Cond.instanceMethod yX6_reckon, Cond.selects RX6 yX6_reckon yX6_reckon, Cond.code yX6_reckon cX6_reckon 2 none]
def wsL_law0_r16 : List Cond := [Cond.methodLink RX6 89 yX6_reckonStep, Cond.instanceMethod yX6_reckonStep, Cond.selects RX6 yX6_reckonStep yX6_reckonStep, Cond.code yX6_reckonStep cX6_reckonStep 6 (some .int), Cond.methodLink RX6 100 yX6_step, Cond.instanceMethod yX6_step, Cond.selects RX6 yX6_step yX6_step, Cond.code yX6_step cX6_step 2 (some .int), Cond.methodLink RX6 114 yX6_stemOf, Cond.instanceMethod yX6_stemOf, Cond.selects RX6 yX6_stemOf yX6_stemOf, Cond.code yX6_stemOf cX6_stemOf 2 (some .int), Cond.methodLink RX6 111 yX6_stem, Cond.instanceMethod yX6_stem, Cond.selects RX6 yX6_stem yX6_stem, Cond.code yX6_stem cX6_stem 8 (some .int), Cond.methodLink RX6 103 yX6_many, Cond.instanceMethod yX6_many, Cond.selects RX6 yX6_many yX6_many, Cond.code yX6_many cX6_many 6 (some .int), Cond.methodLink RX6 96 yX6_isIn, Cond.instanceMethod yX6_isIn, Cond.selects RX6 yX6_isIn yX6_isIn, Cond.code yX6_isIn cX6_isIn 5 (some .boolean)]
def wsL_law0_r17 : List Cond := [Cond.methodLink RX6 93 yX6_isAt, Cond.instanceMethod yX6_isAt, Cond.selects RX6 yX6_isAt yX6_isAt, Cond.code yX6_isAt cX6_isAt 4 (some .boolean), Cond.methodLink RX6 107 yX6_end, Cond.instanceMethod yX6_end, Cond.selects RX6 yX6_end yX6_end, Cond.code yX6_end cX6_end 8 (some .int), Cond.methodLink RX6 121 yX6_aside, Cond.instanceMethod yX6_aside, Cond.selects RX6 yX6_aside yX6_aside, Cond.code yX6_aside cX6_aside 9 (some .int), Cond.methodLink RX6 117 yX6_isAhead, Cond.instanceMethod yX6_isAhead, Cond.selects RX6 yX6_isAhead yX6_isAhead, Cond.code yX6_isAhead cX6_isAhead 5 (some .boolean), Cond.methodLink RX6 137 yX6_move, Cond.instanceMethod yX6_move, Cond.selects RX6 yX6_move yX6_move, Cond.code yX6_move cX6_move 6 none, Cond.methodLink RX6 124 yX6_liesOver, Cond.instanceMethod yX6_liesOver, Cond.selects RX6 yX6_liesOver yX6_liesOver, Cond.code yX6_liesOver cX6_liesOver 7 (some .boolean)]
def wsL_law0_r18 : List Cond := [Cond.methodLink RX6 127 yX6_areShared, Cond.instanceMethod yX6_areShared, Cond.selects RX6 yX6_areShared yX6_areShared, Cond.code yX6_areShared cX6_areShared 3 (some .boolean), Cond.methodLink RX6 141 yX6_placeSigns, Cond.instanceMethod yX6_placeSigns, Cond.selects RX6 yX6_placeSigns yX6_placeSigns, Cond.code yX6_placeSigns cX6_placeSigns 8 none, Cond.methodLink RX6 131 yX6_columnFor, Cond.instanceMethod yX6_columnFor, Cond.selects RX6 yX6_columnFor yX6_columnFor, Cond.code yX6_columnFor cX6_columnFor 8 (some .int), Cond.methodLink RL 56 yX5_height, Cond.instanceMethod yX5_height, Cond.selects RX5 yX5_height yX5_height, Cond.code yX5_height cX5_height 2 (some .long), Cond.constantLong RX5 114 (-1001), Cond.fieldLink RX5 116 "StaffHeads$Notes" "staff" "[I", Cond.methodLink RX5 119 yX5_stepsDownTo, Cond.instanceMethod yX5_stepsDownTo, Cond.selects RX5 yX5_stepsDownTo yX5_stepsDownTo, Cond.code yX5_stepsDownTo cX5_stepsDownTo 4 (some .int), Cond.methodLink RX5 149 yX5_isHidden, Cond.instanceMethod yX5_isHidden]
def wsL_law0_r19 : List Cond := [Cond.selects RX5 yX5_isHidden yX5_isHidden, Cond.code yX5_isHidden cX5_isHidden 2 (some .boolean), Cond.methodLink RX5 174 yX2_anyOn, Cond.instanceMethod yX2_anyOn, Cond.selects RX2 yX2_anyOn yX2_anyOn, Cond.code yX2_anyOn cX2_anyOn 3 (some .boolean), Cond.methodLink RX5 152 yX5_shownAbove, Cond.instanceMethod yX5_shownAbove, Cond.selects RX5 yX5_shownAbove yX5_shownAbove, Cond.code yX5_shownAbove cX5_shownAbove 3 (some .int), Cond.methodLink RX5 155 yX5_gapBetween, Cond.instanceMethod yX5_gapBetween, Cond.selects RX5 yX5_gapBetween yX5_gapBetween, Cond.code yX5_gapBetween cX5_gapBetween 7 (some .int), Cond.fieldLink RX5 130 "StaffHeads$Layout" "low" "[I", Cond.fieldLink RX5 127 "StaffHeads$Layout" "high" "[I", Cond.methodLink RX5 177 Lib.Math.max.name, Cond.methodLink RX5 123 yX5_cellOf, Cond.methodLink RL 60 yX6_height, Cond.instanceMethod yX6_height, Cond.selects RX6 yX6_height yX6_height, Cond.code yX6_height cX6_height 2 (some .long), Cond.constantLong RX6 164 (-1001), Cond.methodLink RX6 168 yX6_placeOf]
def wsL_law0_r20 : List Cond := [Cond.instanceMethod yX6_placeOf, Cond.selects RX6 yX6_placeOf yX6_placeOf, Cond.code yX6_placeOf cX6_placeOf 5 (some .long), Cond.methodLink RX6 155 yX6_isHidden, Cond.instanceMethod yX6_isHidden, Cond.selects RX6 yX6_isHidden yX6_isHidden, Cond.code yX6_isHidden cX6_isHidden 4 (some .boolean), Cond.fieldLink RX6 151 "StaffHeadsModel" "hiding" "Z", Cond.methodLink RX6 161 yX6_gapAbove, Cond.instanceMethod yX6_gapAbove, Cond.selects RX6 yX6_gapAbove yX6_gapAbove, Cond.code yX6_gapAbove cX6_gapAbove 6 (some .int), Cond.methodLink RX6 158 yX6_isFirstAt, Cond.instanceMethod yX6_isFirstAt, Cond.selects RX6 yX6_isFirstAt yX6_isFirstAt, Cond.code yX6_isFirstAt cX6_isFirstAt 5 (some .boolean), Cond.methodLink RX6 144 yX6_high, Cond.instanceMethod yX6_high, Cond.selects RX6 yX6_high yX6_high, Cond.code yX6_high cX6_high 7 (some .int), Cond.methodLink RX6 148 yX6_low, Cond.instanceMethod yX6_low, Cond.selects RX6 yX6_low yX6_low, Cond.code yX6_low cX6_low 7 (some .int)]
def wsL_law0_r21 : List Cond := [Cond.methodLink RL 61 yX5_at, Cond.instanceMethod yX5_at, Cond.selects RX5 yX5_at yX5_at, Cond.code yX5_at cX5_at 5 (some .int), Cond.fieldLink RX5 133 "StaffHeads$Layout" "noteCount" "[I", Cond.fieldLink RX5 136 "StaffHeads$Layout" "chordCount" "[I", Cond.fieldLink RX5 139 "StaffHeads$Layout" "signColumns" "[I", Cond.methodLink RL 64 yX6_at, Cond.instanceMethod yX6_at, Cond.selects RX6 yX6_at yX6_at, Cond.code yX6_at cX6_at 8 (some .int), Cond.methodLink RL 65 yX5_shared, Cond.instanceMethod yX5_shared, Cond.selects RX5 yX5_shared yX5_shared, Cond.code yX5_shared cX5_shared 3 (some .int), Cond.methodLink RX5 142 yX2_together, Cond.methodLink RX5 145 yX1_areShared, Cond.methodLink RL 68 yX6_shared, Cond.instanceMethod yX6_shared, Cond.selects RX6 yX6_shared yX6_shared, Cond.code yX6_shared cX6_shared 3 (some .int), Cond.methodLink RL 69 yX5_setting, Cond.instanceMethod yX5_setting, Cond.selects RX5 yX5_setting yX5_setting]
def wsL_law0_r22 : List Cond := [Cond.code yX5_setting cX5_setting 4 (some .int), Cond.methodLink RL 72 yX6_setting, Cond.instanceMethod yX6_setting, Cond.selects RX6 yX6_setting yX6_setting, Cond.code yX6_setting cX6_setting 4 (some .int), Cond.methodLink RL 73 yX5_hides, Cond.instanceMethod yX5_hides, Cond.selects RX5 yX5_hides yX5_hides, Cond.code yX5_hides cX5_hides 3 (some .int), Cond.methodLink RL 77 yX6_hides, Cond.instanceMethod yX6_hides, Cond.selects RX6 yX6_hides yX6_hides, Cond.code yX6_hides cX6_hides 3 (some .int), Cond.methodLink RL 78 yX5_gap, Cond.instanceMethod yX5_gap, Cond.selects RX5 yX5_gap yX5_gap, Cond.code yX5_gap cX5_gap 2 (some .int), Cond.methodLink RL 81 yX6_gap, Cond.instanceMethod yX6_gap, Cond.selects RX6 yX6_gap yX6_gap, Cond.code yX6_gap cX6_gap 2 (some .int), Cond.methodLink RL 82 yX5_place, Cond.instanceMethod yX5_place, Cond.selects RX5 yX5_place yX5_place]
def wsL_law0_r23 : List Cond := [Cond.code yX5_place cX5_place 2 (some .long), Cond.constantLong RX5 158 (-1000), Cond.methodLink RL 85 yX6_place, Cond.instanceMethod yX6_place, Cond.selects RX6 yX6_place yX6_place, Cond.code yX6_place cX6_place 2 (some .long), Cond.constantLong RX6 166 (-1000), Cond.methodLink RL 86 yL_crowded, Cond.static yL_crowded, Cond.codeWith yL_crowded cL_crowded 4 (some .int) [(0, 9, 12, 13)], Cond.classLink RL 13 "java/lang/ArithmeticException", Cond.methodLink RL 7 yX5_crowded, Cond.instanceMethod yX5_crowded, Cond.selects RX5 yX5_crowded yX5_crowded, Cond.code yX5_crowded cX5_crowded 6 (some .int), Cond.classLink RX5 163 "java/lang/ArithmeticException", Cond.initialized "java/lang/ArithmeticException", Cond.fieldLink RX5 160 "StaffHeads$Layout" "mostMoved" "[I", Cond.methodLink RL 89 yX6_crowded, Cond.instanceMethod yX6_crowded, Cond.selects RX6 yX6_crowded yX6_crowded, Cond.code yX6_crowded cX6_crowded 6 (some .int), Cond.methodLink RL 90 yX6_thrown, Cond.instanceMethod yX6_thrown]
def wsL_law0_r24 : List Cond := [Cond.selects RX6 yX6_thrown yX6_thrown, Cond.code yX6_thrown cX6_thrown 1 (some .int), Cond.methodLink RL 93 yX5_about, Cond.instanceMethod yX5_about, Cond.selects RX5 yX5_about yX5_about, Cond.code yX5_about cX5_about 2 (some .int), Cond.methodLink RX5 170 yX5_shownStaves, Cond.instanceMethod yX5_shownStaves, Cond.selects RX5 yX5_shownStaves yX5_shownStaves, Cond.code yX5_shownStaves cX5_shownStaves 3 (some .int), Cond.methodLink RL 96 yX6_about, Cond.instanceMethod yX6_about, Cond.selects RX6 yX6_about yX6_about, Cond.code yX6_about cX6_about 4 (some .int)]
def wsL_law0 : List Cond := (wsL_law0_r1 ++ (wsL_law0_r2 ++ (wsL_law0_r3 ++ (wsL_law0_r4 ++ (wsL_law0_r5 ++ (wsL_law0_r6 ++ (wsL_law0_r7 ++ (wsL_law0_r8 ++ (wsL_law0_r9 ++ (wsL_law0_r10 ++ (wsL_law0_r11 ++ (wsL_law0_r12 ++ (wsL_law0_r13 ++ (wsL_law0_r14 ++ (wsL_law0_r15 ++ (wsL_law0_r16 ++ (wsL_law0_r17 ++ (wsL_law0_r18 ++ (wsL_law0_r19 ++ (wsL_law0_r20 ++ (wsL_law0_r21 ++ (wsL_law0_r22 ++ (wsL_law0_r23 ++ wsL_law0_r24))))))))))))))))))))))) ++ wsX50 ++ wsX60 ++ wsX40 ++ wsX20 ++ wsX10 ++ wsX00 ++ wsX30 ++ ([] : List Cond)
def wsL_law : List Cond := wsL_law0 ++ (vx_atS RX5 167 "java/lang/ArithmeticException" ["java/lang/RuntimeException", "java/lang/Exception"]).filter goodWord
theorem inlX0 : ∀ w ∈ wsX00, w ∈ wsL_law := fun _ h => List.mem_append_left _ (List.mem_append_left _ (List.mem_append_left _ (List.mem_append_right _ h)))
theorem inlX1 : ∀ w ∈ wsX10, w ∈ wsL_law := fun _ h => List.mem_append_left _ (List.mem_append_left _ (List.mem_append_left _ (List.mem_append_left _ (List.mem_append_right _ h))))
theorem inlX2 : ∀ w ∈ wsX20, w ∈ wsL_law := fun _ h => List.mem_append_left _ (List.mem_append_left _ (List.mem_append_left _ (List.mem_append_left _ (List.mem_append_left _ (List.mem_append_right _ h)))))
theorem inlX3 : ∀ w ∈ wsX30, w ∈ wsL_law := fun _ h => List.mem_append_left _ (List.mem_append_left _ (List.mem_append_right _ h))
theorem inlX4 : ∀ w ∈ wsX40, w ∈ wsL_law := fun _ h => List.mem_append_left _ (List.mem_append_left _ (List.mem_append_left _ (List.mem_append_left _ (List.mem_append_left _ (List.mem_append_left _ (List.mem_append_right _ h))))))
theorem inlX5 : ∀ w ∈ wsX50, w ∈ wsL_law := fun _ h => List.mem_append_left _ (List.mem_append_left _ (List.mem_append_left _ (List.mem_append_left _ (List.mem_append_left _ (List.mem_append_left _ (List.mem_append_left _ (List.mem_append_left _ (List.mem_append_right _ h))))))))
theorem inlX6 : ∀ w ∈ wsX60, w ∈ wsL_law := fun _ h => List.mem_append_left _ (List.mem_append_left _ (List.mem_append_left _ (List.mem_append_left _ (List.mem_append_left _ (List.mem_append_left _ (List.mem_append_left _ (List.mem_append_right _ h)))))))
theorem inJ9 : ∀ w ∈ wsJ90, w ∈ lw_tbl := by decide +kernel
theorem inJ0 : ∀ w ∈ wsJ00, w ∈ lw_tbl := by decide +kernel
theorem inJ7 : ∀ w ∈ wsJ70, w ∈ lw_tbl := by decide +kernel
theorem dX0_init_0 : decode cX0_init 0 = .ok (.aload_n 0, 1) := by decide +kernel
theorem dX0_init_1 : decode cX0_init 1 = .ok (.invokespecial 3, 3) := by decide +kernel
theorem dX0_init_4 : decode cX0_init 4 = .ok (.aload_n 0, 1) := by decide +kernel
theorem dX0_init_5 : decode cX0_init 5 = .ok (.bipush 60, 2) := by decide +kernel
theorem dX0_init_7 : decode cX0_init 7 = .ok (.newarray .int, 2) := by decide +kernel
theorem dX0_init_9 : decode cX0_init 9 = .ok (.putfield 9, 3) := by decide +kernel
theorem dX0_init_12 : decode cX0_init 12 = .ok (.return_, 1) := by decide +kernel
theorem dX0_clear_0 : decode cX0_clear 0 = .ok (.aload_n 0, 1) := by decide +kernel
theorem dX0_clear_1 : decode cX0_clear 1 = .ok (.iconst 0, 1) := by decide +kernel
theorem dX0_clear_2 : decode cX0_clear 2 = .ok (.putfield 15, 3) := by decide +kernel
theorem dX0_clear_5 : decode cX0_clear 5 = .ok (.aload_n 0, 1) := by decide +kernel
theorem dX0_clear_6 : decode cX0_clear 6 = .ok (.iconst 1, 1) := by decide +kernel
theorem dX0_clear_7 : decode cX0_clear 7 = .ok (.putfield 19, 3) := by decide +kernel
theorem dX0_clear_10 : decode cX0_clear 10 = .ok (.aload_n 0, 1) := by decide +kernel
end
section
theorem dX0_clear_11 : decode cX0_clear 11 = .ok (.iconst 0, 1) := by decide +kernel
theorem dX0_clear_12 : decode cX0_clear 12 = .ok (.putfield 23, 3) := by decide +kernel
theorem dX0_clear_15 : decode cX0_clear 15 = .ok (.return_, 1) := by decide +kernel
theorem dX0_add_0 : decode cX0_add 0 = .ok (.aload_n 0, 1) := by decide +kernel
theorem dX0_add_1 : decode cX0_add 1 = .ok (.aload_n 0, 1) := by decide +kernel
theorem dX0_add_2 : decode cX0_add 2 = .ok (.getfield 15, 3) := by decide +kernel
theorem dX0_add_5 : decode cX0_add 5 = .ok (.ifCond .ne 7, 3) := by decide +kernel
theorem dX0_add_8 : decode cX0_add 8 = .ok (.iload_n 2, 1) := by decide +kernel
theorem dX0_add_9 : decode cX0_add 9 = .ok (.goto 11, 3) := by decide +kernel
theorem dX0_add_12 : decode cX0_add 12 = .ok (.aload_n 0, 1) := by decide +kernel
theorem dX0_add_13 : decode cX0_add 13 = .ok (.getfield 26, 3) := by decide +kernel
theorem dX0_add_16 : decode cX0_add 16 = .ok (.iload_n 2, 1) := by decide +kernel
theorem dX0_add_17 : decode cX0_add 17 = .ok (.invokestatic 29, 3) := by decide +kernel
theorem dX0_add_20 : decode cX0_add 20 = .ok (.putfield 26, 3) := by decide +kernel
theorem dX0_add_23 : decode cX0_add 23 = .ok (.aload_n 0, 1) := by decide +kernel
theorem dX0_add_24 : decode cX0_add 24 = .ok (.aload_n 0, 1) := by decide +kernel
theorem dX0_add_25 : decode cX0_add 25 = .ok (.getfield 15, 3) := by decide +kernel
theorem dX0_add_28 : decode cX0_add 28 = .ok (.ifCond .ne 7, 3) := by decide +kernel
theorem dX0_add_31 : decode cX0_add 31 = .ok (.iload_n 2, 1) := by decide +kernel
theorem dX0_add_32 : decode cX0_add 32 = .ok (.goto 11, 3) := by decide +kernel
theorem dX0_add_35 : decode cX0_add 35 = .ok (.aload_n 0, 1) := by decide +kernel
theorem dX0_add_36 : decode cX0_add 36 = .ok (.getfield 35, 3) := by decide +kernel
theorem dX0_add_39 : decode cX0_add 39 = .ok (.iload_n 2, 1) := by decide +kernel
theorem dX0_add_40 : decode cX0_add 40 = .ok (.invokestatic 38, 3) := by decide +kernel
theorem dX0_add_43 : decode cX0_add 43 = .ok (.putfield 35, 3) := by decide +kernel
theorem dX0_add_46 : decode cX0_add 46 = .ok (.aload_n 0, 1) := by decide +kernel
theorem dX0_add_47 : decode cX0_add 47 = .ok (.aload_n 0, 1) := by decide +kernel
theorem dX0_add_48 : decode cX0_add 48 = .ok (.getfield 19, 3) := by decide +kernel
theorem dX0_add_51 : decode cX0_add 51 = .ok (.ifCond .eq 11, 3) := by decide +kernel
theorem dX0_add_54 : decode cX0_add 54 = .ok (.iload_n 3, 1) := by decide +kernel
theorem dX0_add_55 : decode cX0_add 55 = .ok (.ifCond .ne 7, 3) := by decide +kernel
theorem dX0_add_58 : decode cX0_add 58 = .ok (.iconst 1, 1) := by decide +kernel
theorem dX0_add_59 : decode cX0_add 59 = .ok (.goto 4, 3) := by decide +kernel
theorem dX0_add_62 : decode cX0_add 62 = .ok (.iconst 0, 1) := by decide +kernel
theorem dX0_add_63 : decode cX0_add 63 = .ok (.putfield 19, 3) := by decide +kernel
theorem dX0_add_66 : decode cX0_add 66 = .ok (.aload_n 0, 1) := by decide +kernel
theorem dX0_add_67 : decode cX0_add 67 = .ok (.getfield 9, 3) := by decide +kernel
theorem dX0_add_70 : decode cX0_add 70 = .ok (.aload_n 0, 1) := by decide +kernel
theorem dX0_add_71 : decode cX0_add 71 = .ok (.getfield 15, 3) := by decide +kernel
theorem dX0_add_74 : decode cX0_add 74 = .ok (.iload_n 1, 1) := by decide +kernel
theorem dX0_add_75 : decode cX0_add 75 = .ok (.iastore, 1) := by decide +kernel
theorem dX0_add_76 : decode cX0_add 76 = .ok (.aload_n 0, 1) := by decide +kernel
theorem dX0_add_77 : decode cX0_add 77 = .ok (.dup, 1) := by decide +kernel
theorem dX0_add_78 : decode cX0_add 78 = .ok (.getfield 15, 3) := by decide +kernel
theorem dX0_add_81 : decode cX0_add 81 = .ok (.iconst 1, 1) := by decide +kernel
theorem dX0_add_82 : decode cX0_add 82 = .ok (.iadd, 1) := by decide +kernel
theorem dX0_add_83 : decode cX0_add 83 = .ok (.putfield 15, 3) := by decide +kernel
theorem dX0_add_86 : decode cX0_add 86 = .ok (.return_, 1) := by decide +kernel
theorem dX0_liesLow_0 : decode cX0_liesLow 0 = .ok (.aload_n 0, 1) := by decide +kernel
theorem dX0_liesLow_1 : decode cX0_liesLow 1 = .ok (.getfield 35, 3) := by decide +kernel
theorem dX0_liesLow_4 : decode cX0_liesLow 4 = .ok (.iconst 4, 1) := by decide +kernel
theorem dX0_liesLow_5 : decode cX0_liesLow 5 = .ok (.isub, 1) := by decide +kernel
theorem dX0_liesLow_6 : decode cX0_liesLow 6 = .ok (.iconst 4, 1) := by decide +kernel
theorem dX0_liesLow_7 : decode cX0_liesLow 7 = .ok (.aload_n 0, 1) := by decide +kernel
theorem dX0_liesLow_8 : decode cX0_liesLow 8 = .ok (.getfield 26, 3) := by decide +kernel
theorem dX0_liesLow_11 : decode cX0_liesLow 11 = .ok (.isub, 1) := by decide +kernel
theorem dX0_liesLow_12 : decode cX0_liesLow 12 = .ok (.if_icmp .ge 7, 3) := by decide +kernel
theorem dX0_liesLow_15 : decode cX0_liesLow 15 = .ok (.iconst 1, 1) := by decide +kernel
theorem dX0_liesLow_16 : decode cX0_liesLow 16 = .ok (.goto 4, 3) := by decide +kernel
theorem dX0_liesLow_19 : decode cX0_liesLow 19 = .ok (.iconst 0, 1) := by decide +kernel
theorem dX0_liesLow_20 : decode cX0_liesLow 20 = .ok (.ireturn, 1) := by decide +kernel
set_option maxRecDepth 20000 in
theorem ggX0_sortFromStemsFarEnd_X0_isBefore : GoodIn wsX0_sortFromStemsFarEnd wsX0_isBefore := goodIn_r _ [7, 8, 9, 10, 11, 12, 13, 14, 15] (by decide +kernel) (by decide +kernel)
set_option maxRecDepth 20000 in
theorem gX0_sortFromStemsFarEnd_X0_isBefore : GoodIn wsX0_sortFromStemsFarEnd (wsV RX0 41 RX0 yX0_isBefore wsX0_isBefore) := goodIn_app (goodIn_of _ (by decide +kernel)) ggX0_sortFromStemsFarEnd_X0_isBefore
theorem dX0_sortFromStemsFarEnd_0 : decode cX0_sortFromStemsFarEnd 0 = .ok (.iconst 1, 1) := by decide +kernel
theorem dX0_sortFromStemsFarEnd_1 : decode cX0_sortFromStemsFarEnd 1 = .ok (.istore_n 2, 1) := by decide +kernel
theorem dX0_sortFromStemsFarEnd_2 : decode cX0_sortFromStemsFarEnd 2 = .ok (.iload_n 2, 1) := by decide +kernel
theorem dX0_sortFromStemsFarEnd_3 : decode cX0_sortFromStemsFarEnd 3 = .ok (.aload_n 0, 1) := by decide +kernel
theorem dX0_sortFromStemsFarEnd_4 : decode cX0_sortFromStemsFarEnd 4 = .ok (.getfield 15, 3) := by decide +kernel
theorem dX0_sortFromStemsFarEnd_7 : decode cX0_sortFromStemsFarEnd 7 = .ok (.if_icmp .ge 75, 3) := by decide +kernel
theorem dX0_sortFromStemsFarEnd_10 : decode cX0_sortFromStemsFarEnd 10 = .ok (.aload_n 0, 1) := by decide +kernel
theorem dX0_sortFromStemsFarEnd_11 : decode cX0_sortFromStemsFarEnd 11 = .ok (.getfield 9, 3) := by decide +kernel
theorem dX0_sortFromStemsFarEnd_14 : decode cX0_sortFromStemsFarEnd 14 = .ok (.iload_n 2, 1) := by decide +kernel
theorem dX0_sortFromStemsFarEnd_15 : decode cX0_sortFromStemsFarEnd 15 = .ok (.iaload, 1) := by decide +kernel
theorem dX0_sortFromStemsFarEnd_16 : decode cX0_sortFromStemsFarEnd 16 = .ok (.istore_n 3, 1) := by decide +kernel
theorem dX0_sortFromStemsFarEnd_17 : decode cX0_sortFromStemsFarEnd 17 = .ok (.iload_n 2, 1) := by decide +kernel
theorem dX0_sortFromStemsFarEnd_18 : decode cX0_sortFromStemsFarEnd 18 = .ok (.istore 4, 2) := by decide +kernel
theorem dX0_sortFromStemsFarEnd_20 : decode cX0_sortFromStemsFarEnd 20 = .ok (.iload 4, 2) := by decide +kernel
theorem dX0_sortFromStemsFarEnd_22 : decode cX0_sortFromStemsFarEnd 22 = .ok (.ifCond .le 46, 3) := by decide +kernel
theorem dX0_sortFromStemsFarEnd_25 : decode cX0_sortFromStemsFarEnd 25 = .ok (.aload_n 0, 1) := by decide +kernel
theorem dX0_sortFromStemsFarEnd_26 : decode cX0_sortFromStemsFarEnd 26 = .ok (.aload_n 1, 1) := by decide +kernel
theorem dX0_sortFromStemsFarEnd_27 : decode cX0_sortFromStemsFarEnd 27 = .ok (.iload_n 3, 1) := by decide +kernel
theorem dX0_sortFromStemsFarEnd_28 : decode cX0_sortFromStemsFarEnd 28 = .ok (.iaload, 1) := by decide +kernel
theorem dX0_sortFromStemsFarEnd_29 : decode cX0_sortFromStemsFarEnd 29 = .ok (.aload_n 1, 1) := by decide +kernel
theorem dX0_sortFromStemsFarEnd_30 : decode cX0_sortFromStemsFarEnd 30 = .ok (.aload_n 0, 1) := by decide +kernel
theorem dX0_sortFromStemsFarEnd_31 : decode cX0_sortFromStemsFarEnd 31 = .ok (.getfield 9, 3) := by decide +kernel
theorem dX0_sortFromStemsFarEnd_34 : decode cX0_sortFromStemsFarEnd 34 = .ok (.iload 4, 2) := by decide +kernel
theorem dX0_sortFromStemsFarEnd_36 : decode cX0_sortFromStemsFarEnd 36 = .ok (.iconst 1, 1) := by decide +kernel
theorem dX0_sortFromStemsFarEnd_37 : decode cX0_sortFromStemsFarEnd 37 = .ok (.isub, 1) := by decide +kernel
theorem dX0_sortFromStemsFarEnd_38 : decode cX0_sortFromStemsFarEnd 38 = .ok (.iaload, 1) := by decide +kernel
theorem dX0_sortFromStemsFarEnd_39 : decode cX0_sortFromStemsFarEnd 39 = .ok (.iaload, 1) := by decide +kernel
theorem dX0_sortFromStemsFarEnd_40 : decode cX0_sortFromStemsFarEnd 40 = .ok (.invokevirtual 41, 3) := by decide +kernel
theorem dX0_sortFromStemsFarEnd_43 : decode cX0_sortFromStemsFarEnd 43 = .ok (.ifCond .eq 25, 3) := by decide +kernel
theorem dX0_sortFromStemsFarEnd_46 : decode cX0_sortFromStemsFarEnd 46 = .ok (.aload_n 0, 1) := by decide +kernel
theorem dX0_sortFromStemsFarEnd_47 : decode cX0_sortFromStemsFarEnd 47 = .ok (.getfield 9, 3) := by decide +kernel
theorem dX0_sortFromStemsFarEnd_50 : decode cX0_sortFromStemsFarEnd 50 = .ok (.iload 4, 2) := by decide +kernel
theorem dX0_sortFromStemsFarEnd_52 : decode cX0_sortFromStemsFarEnd 52 = .ok (.aload_n 0, 1) := by decide +kernel
theorem dX0_sortFromStemsFarEnd_53 : decode cX0_sortFromStemsFarEnd 53 = .ok (.getfield 9, 3) := by decide +kernel
theorem dX0_sortFromStemsFarEnd_56 : decode cX0_sortFromStemsFarEnd 56 = .ok (.iload 4, 2) := by decide +kernel
theorem dX0_sortFromStemsFarEnd_58 : decode cX0_sortFromStemsFarEnd 58 = .ok (.iconst 1, 1) := by decide +kernel
theorem dX0_sortFromStemsFarEnd_59 : decode cX0_sortFromStemsFarEnd 59 = .ok (.isub, 1) := by decide +kernel
theorem dX0_sortFromStemsFarEnd_60 : decode cX0_sortFromStemsFarEnd 60 = .ok (.iaload, 1) := by decide +kernel
theorem dX0_sortFromStemsFarEnd_61 : decode cX0_sortFromStemsFarEnd 61 = .ok (.iastore, 1) := by decide +kernel
theorem dX0_sortFromStemsFarEnd_62 : decode cX0_sortFromStemsFarEnd 62 = .ok (.iinc 4 (-1), 3) := by decide +kernel
theorem dX0_sortFromStemsFarEnd_65 : decode cX0_sortFromStemsFarEnd 65 = .ok (.goto (-45), 3) := by decide +kernel
theorem dX0_sortFromStemsFarEnd_68 : decode cX0_sortFromStemsFarEnd 68 = .ok (.aload_n 0, 1) := by decide +kernel
theorem dX0_sortFromStemsFarEnd_69 : decode cX0_sortFromStemsFarEnd 69 = .ok (.getfield 9, 3) := by decide +kernel
theorem dX0_sortFromStemsFarEnd_72 : decode cX0_sortFromStemsFarEnd 72 = .ok (.iload 4, 2) := by decide +kernel
theorem dX0_sortFromStemsFarEnd_74 : decode cX0_sortFromStemsFarEnd 74 = .ok (.iload_n 3, 1) := by decide +kernel
theorem dX0_sortFromStemsFarEnd_75 : decode cX0_sortFromStemsFarEnd 75 = .ok (.iastore, 1) := by decide +kernel
theorem dX0_sortFromStemsFarEnd_76 : decode cX0_sortFromStemsFarEnd 76 = .ok (.iinc 2 1, 3) := by decide +kernel
theorem dX0_sortFromStemsFarEnd_79 : decode cX0_sortFromStemsFarEnd 79 = .ok (.goto (-77), 3) := by decide +kernel
theorem dX0_sortFromStemsFarEnd_82 : decode cX0_sortFromStemsFarEnd 82 = .ok (.return_, 1) := by decide +kernel
theorem dX0_isBefore_0 : decode cX0_isBefore 0 = .ok (.aload_n 0, 1) := by decide +kernel
theorem dX0_isBefore_1 : decode cX0_isBefore 1 = .ok (.getfield 45, 3) := by decide +kernel
theorem dX0_isBefore_4 : decode cX0_isBefore 4 = .ok (.ifCond .eq 16, 3) := by decide +kernel
theorem dX0_isBefore_7 : decode cX0_isBefore 7 = .ok (.iload_n 1, 1) := by decide +kernel
theorem dX0_isBefore_8 : decode cX0_isBefore 8 = .ok (.iload_n 2, 1) := by decide +kernel
theorem dX0_isBefore_9 : decode cX0_isBefore 9 = .ok (.if_icmp .ge 7, 3) := by decide +kernel
theorem dX0_isBefore_12 : decode cX0_isBefore 12 = .ok (.iconst 1, 1) := by decide +kernel
theorem dX0_isBefore_13 : decode cX0_isBefore 13 = .ok (.goto 17, 3) := by decide +kernel
theorem dX0_isBefore_16 : decode cX0_isBefore 16 = .ok (.iconst 0, 1) := by decide +kernel
theorem dX0_isBefore_17 : decode cX0_isBefore 17 = .ok (.goto 13, 3) := by decide +kernel
theorem dX0_isBefore_20 : decode cX0_isBefore 20 = .ok (.iload_n 1, 1) := by decide +kernel
theorem dX0_isBefore_21 : decode cX0_isBefore 21 = .ok (.iload_n 2, 1) := by decide +kernel
theorem dX0_isBefore_22 : decode cX0_isBefore 22 = .ok (.if_icmp .le 7, 3) := by decide +kernel
theorem dX0_isBefore_25 : decode cX0_isBefore 25 = .ok (.iconst 1, 1) := by decide +kernel
theorem dX0_isBefore_26 : decode cX0_isBefore 26 = .ok (.goto 4, 3) := by decide +kernel
theorem dX0_isBefore_29 : decode cX0_isBefore 29 = .ok (.iconst 0, 1) := by decide +kernel
theorem dX0_isBefore_30 : decode cX0_isBefore 30 = .ok (.ireturn, 1) := by decide +kernel
theorem dX0_turnHeads_0 : decode cX0_turnHeads 0 = .ok (.iconst 0, 1) := by decide +kernel
theorem dX0_turnHeads_1 : decode cX0_turnHeads 1 = .ok (.istore_n 3, 1) := by decide +kernel
theorem dX0_turnHeads_2 : decode cX0_turnHeads 2 = .ok (.iconst 0, 1) := by decide +kernel
theorem dX0_turnHeads_3 : decode cX0_turnHeads 3 = .ok (.istore 4, 2) := by decide +kernel
theorem dX0_turnHeads_5 : decode cX0_turnHeads 5 = .ok (.iload 4, 2) := by decide +kernel
theorem dX0_turnHeads_7 : decode cX0_turnHeads 7 = .ok (.aload_n 0, 1) := by decide +kernel
theorem dX0_turnHeads_8 : decode cX0_turnHeads 8 = .ok (.getfield 15, 3) := by decide +kernel
theorem dX0_turnHeads_11 : decode cX0_turnHeads 11 = .ok (.if_icmp .ge 92, 3) := by decide +kernel
theorem dX0_turnHeads_14 : decode cX0_turnHeads 14 = .ok (.aload_n 0, 1) := by decide +kernel
theorem dX0_turnHeads_15 : decode cX0_turnHeads 15 = .ok (.getfield 9, 3) := by decide +kernel
theorem dX0_turnHeads_18 : decode cX0_turnHeads 18 = .ok (.iload 4, 2) := by decide +kernel
theorem dX0_turnHeads_20 : decode cX0_turnHeads 20 = .ok (.iaload, 1) := by decide +kernel
theorem dX0_turnHeads_21 : decode cX0_turnHeads 21 = .ok (.istore 5, 2) := by decide +kernel
theorem dX0_turnHeads_23 : decode cX0_turnHeads 23 = .ok (.iload 4, 2) := by decide +kernel
theorem dX0_turnHeads_25 : decode cX0_turnHeads 25 = .ok (.ifCond .le 30, 3) := by decide +kernel
theorem dX0_turnHeads_28 : decode cX0_turnHeads 28 = .ok (.aload_n 1, 1) := by decide +kernel
theorem dX0_turnHeads_29 : decode cX0_turnHeads 29 = .ok (.iload 5, 2) := by decide +kernel
theorem dX0_turnHeads_31 : decode cX0_turnHeads 31 = .ok (.iaload, 1) := by decide +kernel
theorem dX0_turnHeads_32 : decode cX0_turnHeads 32 = .ok (.aload_n 1, 1) := by decide +kernel
theorem dX0_turnHeads_33 : decode cX0_turnHeads 33 = .ok (.aload_n 0, 1) := by decide +kernel
theorem dX0_turnHeads_34 : decode cX0_turnHeads 34 = .ok (.getfield 9, 3) := by decide +kernel
theorem dX0_turnHeads_37 : decode cX0_turnHeads 37 = .ok (.iload 4, 2) := by decide +kernel
theorem dX0_turnHeads_39 : decode cX0_turnHeads 39 = .ok (.iconst 1, 1) := by decide +kernel
theorem dX0_turnHeads_40 : decode cX0_turnHeads 40 = .ok (.isub, 1) := by decide +kernel
theorem dX0_turnHeads_41 : decode cX0_turnHeads 41 = .ok (.iaload, 1) := by decide +kernel
theorem dX0_turnHeads_42 : decode cX0_turnHeads 42 = .ok (.iaload, 1) := by decide +kernel
theorem dX0_turnHeads_43 : decode cX0_turnHeads 43 = .ok (.isub, 1) := by decide +kernel
theorem dX0_turnHeads_44 : decode cX0_turnHeads 44 = .ok (.invokestatic 48, 3) := by decide +kernel
theorem dX0_turnHeads_47 : decode cX0_turnHeads 47 = .ok (.iconst 1, 1) := by decide +kernel
theorem dX0_turnHeads_48 : decode cX0_turnHeads 48 = .ok (.if_icmp .gt 7, 3) := by decide +kernel
theorem dX0_turnHeads_51 : decode cX0_turnHeads 51 = .ok (.iconst 1, 1) := by decide +kernel
theorem dX0_turnHeads_52 : decode cX0_turnHeads 52 = .ok (.goto 4, 3) := by decide +kernel
theorem dX0_turnHeads_55 : decode cX0_turnHeads 55 = .ok (.iconst 0, 1) := by decide +kernel
theorem dX0_turnHeads_56 : decode cX0_turnHeads 56 = .ok (.istore 6, 2) := by decide +kernel
theorem dX0_turnHeads_58 : decode cX0_turnHeads 58 = .ok (.iload 6, 2) := by decide +kernel
theorem dX0_turnHeads_60 : decode cX0_turnHeads 60 = .ok (.ifCond .eq 11, 3) := by decide +kernel
theorem dX0_turnHeads_63 : decode cX0_turnHeads 63 = .ok (.iload_n 3, 1) := by decide +kernel
theorem dX0_turnHeads_64 : decode cX0_turnHeads 64 = .ok (.ifCond .ne 7, 3) := by decide +kernel
theorem dX0_turnHeads_67 : decode cX0_turnHeads 67 = .ok (.iconst 1, 1) := by decide +kernel
theorem dX0_turnHeads_68 : decode cX0_turnHeads 68 = .ok (.goto 4, 3) := by decide +kernel
theorem dX0_turnHeads_71 : decode cX0_turnHeads 71 = .ok (.iconst 0, 1) := by decide +kernel
theorem dX0_turnHeads_72 : decode cX0_turnHeads 72 = .ok (.istore_n 3, 1) := by decide +kernel
theorem dX0_turnHeads_73 : decode cX0_turnHeads 73 = .ok (.aload_n 2, 1) := by decide +kernel
theorem dX0_turnHeads_74 : decode cX0_turnHeads 74 = .ok (.iload 5, 2) := by decide +kernel
theorem dX0_turnHeads_76 : decode cX0_turnHeads 76 = .ok (.iload_n 3, 1) := by decide +kernel
theorem dX0_turnHeads_77 : decode cX0_turnHeads 77 = .ok (.ifCond .eq 18, 3) := by decide +kernel
theorem dX0_turnHeads_80 : decode cX0_turnHeads 80 = .ok (.aload_n 0, 1) := by decide +kernel
theorem dX0_turnHeads_81 : decode cX0_turnHeads 81 = .ok (.getfield 45, 3) := by decide +kernel
theorem dX0_turnHeads_84 : decode cX0_turnHeads 84 = .ok (.ifCond .eq 7, 3) := by decide +kernel
theorem dX0_turnHeads_87 : decode cX0_turnHeads 87 = .ok (.iconst 1, 1) := by decide +kernel
theorem dX0_turnHeads_88 : decode cX0_turnHeads 88 = .ok (.goto 8, 3) := by decide +kernel
theorem dX0_turnHeads_91 : decode cX0_turnHeads 91 = .ok (.iconst (-1), 1) := by decide +kernel
theorem dX0_turnHeads_92 : decode cX0_turnHeads 92 = .ok (.goto 4, 3) := by decide +kernel
theorem dX0_turnHeads_95 : decode cX0_turnHeads 95 = .ok (.iconst 0, 1) := by decide +kernel
theorem dX0_turnHeads_96 : decode cX0_turnHeads 96 = .ok (.iastore, 1) := by decide +kernel
theorem dX0_turnHeads_97 : decode cX0_turnHeads 97 = .ok (.iinc 4 1, 3) := by decide +kernel
theorem dX0_turnHeads_100 : decode cX0_turnHeads 100 = .ok (.goto (-95), 3) := by decide +kernel
theorem dX0_turnHeads_103 : decode cX0_turnHeads 103 = .ok (.return_, 1) := by decide +kernel
theorem dX0_reachUp_0 : decode cX0_reachUp 0 = .ok (.aload_n 0, 1) := by decide +kernel
theorem dX0_reachUp_1 : decode cX0_reachUp 1 = .ok (.getfield 45, 3) := by decide +kernel
theorem dX0_reachUp_4 : decode cX0_reachUp 4 = .ok (.ifCond .eq 24, 3) := by decide +kernel
theorem dX0_reachUp_7 : decode cX0_reachUp 7 = .ok (.aload_n 0, 1) := by decide +kernel
theorem dX0_reachUp_8 : decode cX0_reachUp 8 = .ok (.getfield 19, 3) := by decide +kernel
theorem dX0_reachUp_11 : decode cX0_reachUp 11 = .ok (.ifCond .ne 17, 3) := by decide +kernel
theorem dX0_reachUp_14 : decode cX0_reachUp 14 = .ok (.aload_n 0, 1) := by decide +kernel
theorem dX0_reachUp_15 : decode cX0_reachUp 15 = .ok (.getfield 35, 3) := by decide +kernel
theorem dX0_reachUp_18 : decode cX0_reachUp 18 = .ok (.bipush 7, 2) := by decide +kernel
theorem dX0_reachUp_20 : decode cX0_reachUp 20 = .ok (.iadd, 1) := by decide +kernel
theorem dX0_reachUp_21 : decode cX0_reachUp 21 = .ok (.iconst 4, 1) := by decide +kernel
theorem dX0_reachUp_22 : decode cX0_reachUp 22 = .ok (.invokestatic 38, 3) := by decide +kernel
theorem dX0_reachUp_25 : decode cX0_reachUp 25 = .ok (.goto 7, 3) := by decide +kernel
theorem dX0_reachUp_28 : decode cX0_reachUp 28 = .ok (.aload_n 0, 1) := by decide +kernel
theorem dX0_reachUp_29 : decode cX0_reachUp 29 = .ok (.getfield 35, 3) := by decide +kernel
theorem dX0_reachUp_32 : decode cX0_reachUp 32 = .ok (.ireturn, 1) := by decide +kernel
theorem dX0_reachDown_0 : decode cX0_reachDown 0 = .ok (.aload_n 0, 1) := by decide +kernel
theorem dX0_reachDown_1 : decode cX0_reachDown 1 = .ok (.getfield 45, 3) := by decide +kernel
theorem dX0_reachDown_4 : decode cX0_reachDown 4 = .ok (.ifCond .ne 24, 3) := by decide +kernel
theorem dX0_reachDown_7 : decode cX0_reachDown 7 = .ok (.aload_n 0, 1) := by decide +kernel
theorem dX0_reachDown_8 : decode cX0_reachDown 8 = .ok (.getfield 19, 3) := by decide +kernel
theorem dX0_reachDown_11 : decode cX0_reachDown 11 = .ok (.ifCond .ne 17, 3) := by decide +kernel
theorem dX0_reachDown_14 : decode cX0_reachDown 14 = .ok (.aload_n 0, 1) := by decide +kernel
theorem dX0_reachDown_15 : decode cX0_reachDown 15 = .ok (.getfield 26, 3) := by decide +kernel
theorem dX0_reachDown_18 : decode cX0_reachDown 18 = .ok (.bipush 7, 2) := by decide +kernel
theorem dX0_reachDown_20 : decode cX0_reachDown 20 = .ok (.isub, 1) := by decide +kernel
theorem dX0_reachDown_21 : decode cX0_reachDown 21 = .ok (.iconst 4, 1) := by decide +kernel
theorem dX0_reachDown_22 : decode cX0_reachDown 22 = .ok (.invokestatic 29, 3) := by decide +kernel
theorem dX0_reachDown_25 : decode cX0_reachDown 25 = .ok (.goto 7, 3) := by decide +kernel
theorem dX0_reachDown_28 : decode cX0_reachDown 28 = .ok (.aload_n 0, 1) := by decide +kernel
theorem dX0_reachDown_29 : decode cX0_reachDown 29 = .ok (.getfield 26, 3) := by decide +kernel
theorem dX0_reachDown_32 : decode cX0_reachDown 32 = .ok (.ireturn, 1) := by decide +kernel
set_option maxRecDepth 20000 in
theorem ggX1_init_X0_init : GoodIn wsX1_init wsX0_init := goodIn_r _ [27, 28, 2, 3, 5, 29, 50, 51, 52, 53, 54, 55, 56] (by decide +kernel) (by decide +kernel)
set_option maxRecDepth 20000 in
theorem gX1_init_X0_init_n54 : GoodIn wsX1_init (wsX0_init) := ggX1_init_X0_init
set_option maxRecDepth 20000 in
theorem ggX1_init_X3_init : GoodIn wsX1_init wsX3_init := goodIn_r _ [31, 32, 2, 3, 5, 33, 34, 57, 58, 59] (by decide +kernel) (by decide +kernel)
set_option maxRecDepth 20000 in
theorem gX1_init_X3_init_n61 : GoodIn wsX1_init (wsX3_init) := ggX1_init_X3_init
theorem dX1_init_0 : decode cX1_init 0 = .ok (.aload_n 0, 1) := by decide +kernel
theorem dX1_init_1 : decode cX1_init 1 = .ok (.invokespecial 3, 3) := by decide +kernel
theorem dX1_init_4 : decode cX1_init 4 = .ok (.aload_n 0, 1) := by decide +kernel
theorem dX1_init_5 : decode cX1_init 5 = .ok (.iconst 1, 1) := by decide +kernel
theorem dX1_init_6 : decode cX1_init 6 = .ok (.putfield 9, 3) := by decide +kernel
theorem dX1_init_9 : decode cX1_init 9 = .ok (.aload_n 0, 1) := by decide +kernel
theorem dX1_init_10 : decode cX1_init 10 = .ok (.bipush 60, 2) := by decide +kernel
theorem dX1_init_12 : decode cX1_init 12 = .ok (.newarray .int, 2) := by decide +kernel
theorem dX1_init_14 : decode cX1_init 14 = .ok (.putfield 15, 3) := by decide +kernel
theorem dX1_init_17 : decode cX1_init 17 = .ok (.aload_n 0, 1) := by decide +kernel
theorem dX1_init_18 : decode cX1_init 18 = .ok (.bipush 60, 2) := by decide +kernel
theorem dX1_init_20 : decode cX1_init 20 = .ok (.newarray .int, 2) := by decide +kernel
theorem dX1_init_22 : decode cX1_init 22 = .ok (.putfield 19, 3) := by decide +kernel
theorem dX1_init_25 : decode cX1_init 25 = .ok (.aload_n 0, 1) := by decide +kernel
theorem dX1_init_26 : decode cX1_init 26 = .ok (.bipush 60, 2) := by decide +kernel
theorem dX1_init_28 : decode cX1_init 28 = .ok (.newarray .int, 2) := by decide +kernel
theorem dX1_init_30 : decode cX1_init 30 = .ok (.putfield 22, 3) := by decide +kernel
theorem dX1_init_33 : decode cX1_init 33 = .ok (.aload_n 0, 1) := by decide +kernel
theorem dX1_init_34 : decode cX1_init 34 = .ok (.bipush 60, 2) := by decide +kernel
theorem dX1_init_36 : decode cX1_init 36 = .ok (.newarray .int, 2) := by decide +kernel
theorem dX1_init_38 : decode cX1_init 38 = .ok (.putfield 25, 3) := by decide +kernel
theorem dX1_init_41 : decode cX1_init 41 = .ok (.aload_n 0, 1) := by decide +kernel
theorem dX1_init_42 : decode cX1_init 42 = .ok (.bipush 60, 2) := by decide +kernel
theorem dX1_init_44 : decode cX1_init 44 = .ok (.newarray .int, 2) := by decide +kernel
theorem dX1_init_46 : decode cX1_init 46 = .ok (.putfield 28, 3) := by decide +kernel
theorem dX1_init_49 : decode cX1_init 49 = .ok (.aload_n 0, 1) := by decide +kernel
theorem dX1_init_50 : decode cX1_init 50 = .ok (.bipush 60, 2) := by decide +kernel
theorem dX1_init_52 : decode cX1_init 52 = .ok (.newarray .int, 2) := by decide +kernel
theorem dX1_init_54 : decode cX1_init 54 = .ok (.putfield 31, 3) := by decide +kernel
theorem dX1_init_57 : decode cX1_init 57 = .ok (.aload_n 0, 1) := by decide +kernel
theorem dX1_init_58 : decode cX1_init 58 = .ok (.sipush 400, 3) := by decide +kernel
theorem dX1_init_61 : decode cX1_init 61 = .ok (.newarray .int, 2) := by decide +kernel
theorem dX1_init_63 : decode cX1_init 63 = .ok (.putfield 34, 3) := by decide +kernel
theorem dX1_init_66 : decode cX1_init 66 = .ok (.aload_n 0, 1) := by decide +kernel
theorem dX1_init_67 : decode cX1_init 67 = .ok (.sipush 400, 3) := by decide +kernel
theorem dX1_init_70 : decode cX1_init 70 = .ok (.newarray .int, 2) := by decide +kernel
theorem dX1_init_72 : decode cX1_init 72 = .ok (.putfield 37, 3) := by decide +kernel
theorem dX1_init_75 : decode cX1_init 75 = .ok (.aload_n 0, 1) := by decide +kernel
theorem dX1_init_76 : decode cX1_init 76 = .ok (.sipush 400, 3) := by decide +kernel
theorem dX1_init_79 : decode cX1_init 79 = .ok (.newarray .int, 2) := by decide +kernel
theorem dX1_init_81 : decode cX1_init 81 = .ok (.putfield 40, 3) := by decide +kernel
theorem dX1_init_84 : decode cX1_init 84 = .ok (.aload_n 0, 1) := by decide +kernel
theorem dX1_init_85 : decode cX1_init 85 = .ok (.sipush 400, 3) := by decide +kernel
theorem dX1_init_88 : decode cX1_init 88 = .ok (.newarray .int, 2) := by decide +kernel
theorem dX1_init_90 : decode cX1_init 90 = .ok (.putfield 43, 3) := by decide +kernel
theorem dX1_init_93 : decode cX1_init 93 = .ok (.aload_n 0, 1) := by decide +kernel
theorem dX1_init_94 : decode cX1_init 94 = .ok (.sipush 400, 3) := by decide +kernel
theorem dX1_init_97 : decode cX1_init 97 = .ok (.newarray .int, 2) := by decide +kernel
theorem dX1_init_99 : decode cX1_init 99 = .ok (.putfield 46, 3) := by decide +kernel
theorem dX1_init_102 : decode cX1_init 102 = .ok (.aload_n 0, 1) := by decide +kernel
theorem dX1_init_103 : decode cX1_init 103 = .ok (.sipush 400, 3) := by decide +kernel
theorem dX1_init_106 : decode cX1_init 106 = .ok (.newarray .int, 2) := by decide +kernel
theorem dX1_init_108 : decode cX1_init 108 = .ok (.putfield 49, 3) := by decide +kernel
theorem dX1_init_111 : decode cX1_init 111 = .ok (.aload_n 0, 1) := by decide +kernel
theorem dX1_init_112 : decode cX1_init 112 = .ok (.iconst 3, 1) := by decide +kernel
theorem dX1_init_113 : decode cX1_init 113 = .ok (.anewarray 52, 3) := by decide +kernel
theorem dX1_init_116 : decode cX1_init 116 = .ok (.dup, 1) := by decide +kernel
theorem dX1_init_117 : decode cX1_init 117 = .ok (.iconst 0, 1) := by decide +kernel
theorem dX1_init_118 : decode cX1_init 118 = .ok (.new 52, 3) := by decide +kernel
theorem dX1_init_121 : decode cX1_init 121 = .ok (.dup, 1) := by decide +kernel
theorem dX1_init_122 : decode cX1_init 122 = .ok (.invokespecial 54, 3) := by decide +kernel
theorem dX1_init_125 : decode cX1_init 125 = .ok (.aastore, 1) := by decide +kernel
theorem dX1_init_126 : decode cX1_init 126 = .ok (.dup, 1) := by decide +kernel
theorem dX1_init_127 : decode cX1_init 127 = .ok (.iconst 1, 1) := by decide +kernel
theorem dX1_init_128 : decode cX1_init 128 = .ok (.new 52, 3) := by decide +kernel
theorem dX1_init_131 : decode cX1_init 131 = .ok (.dup, 1) := by decide +kernel
theorem dX1_init_132 : decode cX1_init 132 = .ok (.invokespecial 54, 3) := by decide +kernel
theorem dX1_init_135 : decode cX1_init 135 = .ok (.aastore, 1) := by decide +kernel
theorem dX1_init_136 : decode cX1_init 136 = .ok (.dup, 1) := by decide +kernel
theorem dX1_init_137 : decode cX1_init 137 = .ok (.iconst 2, 1) := by decide +kernel
theorem dX1_init_138 : decode cX1_init 138 = .ok (.new 52, 3) := by decide +kernel
theorem dX1_init_141 : decode cX1_init 141 = .ok (.dup, 1) := by decide +kernel
theorem dX1_init_142 : decode cX1_init 142 = .ok (.invokespecial 54, 3) := by decide +kernel
theorem dX1_init_145 : decode cX1_init 145 = .ok (.aastore, 1) := by decide +kernel
theorem dX1_init_146 : decode cX1_init 146 = .ok (.putfield 55, 3) := by decide +kernel
theorem dX1_init_149 : decode cX1_init 149 = .ok (.aload_n 0, 1) := by decide +kernel
theorem dX1_init_150 : decode cX1_init 150 = .ok (.new 59, 3) := by decide +kernel
theorem dX1_init_153 : decode cX1_init 153 = .ok (.dup, 1) := by decide +kernel
theorem dX1_init_154 : decode cX1_init 154 = .ok (.invokespecial 61, 3) := by decide +kernel
theorem dX1_init_157 : decode cX1_init 157 = .ok (.putfield 62, 3) := by decide +kernel
theorem dX1_init_160 : decode cX1_init 160 = .ok (.return_, 1) := by decide +kernel
set_option maxRecDepth 20000 in
theorem ggX1_refresh_X1_clear : GoodIn wsX1_refresh wsX1_clear := goodIn_r _ [12, 13, 14, 15, 7, 16, 17, 18, 19, 20, 21, 22, 171, 172, 173, 174, 175, 176, 177, 178, 179, 180, 181, 182, 183, 184, 185] (by decide +kernel) (by decide +kernel)
set_option maxRecDepth 20000 in
theorem gX1_refresh_X1_clear : GoodIn wsX1_refresh (wsV RX1 66 RX1 yX1_clear wsX1_clear) := goodIn_app (goodIn_of _ (by decide +kernel)) ggX1_refresh_X1_clear
set_option maxRecDepth 20000 in
theorem ggX1_refresh_X4_stepOf : GoodIn wsX1_refresh wsX4_stepOf := goodIn_r _ [27, 28, 29, 30, 31, 32, 33, 34, 35, 36, 193, 194, 195, 196, 197, 198] (by decide +kernel) (by decide +kernel)
set_option maxRecDepth 20000 in
theorem gX1_refresh_X4_stepOf : GoodIn wsX1_refresh (wsV RX1 84 RX4 yX4_stepOf wsX4_stepOf) := goodIn_app (goodIn_of _ (by decide +kernel)) ggX1_refresh_X4_stepOf
set_option maxRecDepth 20000 in
theorem ggX1_refresh_X5_cellOf : GoodIn wsX1_refresh wsX5_cellOf := goodIn_r _ [38] (by decide +kernel) (by decide +kernel)
set_option maxRecDepth 20000 in
theorem gX1_refresh_X5_cellOf_n90 : GoodIn wsX1_refresh (wsX5_cellOf) := ggX1_refresh_X5_cellOf
set_option maxRecDepth 20000 in
theorem ggX1_refresh_X1_layCell : GoodIn wsX1_refresh wsX1_layCell := goodIn_r _ [42, 43, 3, 44, 45, 17, 46, 47, 13, 48, 49, 50, 11, 51, 2, 52, 53, 7, 54, 55, 56, 57, 58, 59, 60, 61, 62, 63, 64, 65, 66, 67, 68, 69, 70, 71, 72, 73, 74, 75, 76, 77, 78, 79, 80, 81, 82, 83, 84, 85, 86, 87, 88, 89, 90, 91, 92, 93, 94, 95, 96, 97, 16, 98, 99, 100, 101, 102, 103, 104, 105, 106, 107, 108, 109, 110, 111, 112, 113, 114, 115, 116, 117, 118, 119, 120, 121, 122, 123, 124, 125, 126, 127, 128, 129, 130, 131, 132, 133, 134, 135, 136, 137, 138, 139, 140, 141, 142, 143, 144, 14, 145, 15, 146, 18, 147, 148, 149, 150, 151, 152, 153, 154, 155, 156, 157, 158, 159, 160, 161, 20, 21, 22, 162, 163, 164, 165, 166, 167, 168, 169, 170, 171, 172, 173, 174, 175, 176, 177, 178, 179, 180, 181, 182, 183, 184, 185, 199, 200, 201, 202, 203, 204, 205, 186, 187, 188, 189, 190, 191, 192, 206, 207, 208] (by decide +kernel) (by decide +kernel)
set_option maxRecDepth 20000 in
theorem gX1_refresh_X1_layCell : GoodIn wsX1_refresh (wsV RX1 94 RX1 yX1_layCell wsX1_layCell) := goodIn_app (goodIn_of _ (by decide +kernel)) ggX1_refresh_X1_layCell
theorem dX1_refresh_0 : decode cX1_refresh 0 = .ok (.aload_n 0, 1) := by decide +kernel
theorem dX1_refresh_1 : decode cX1_refresh 1 = .ok (.getfield 9, 3) := by decide +kernel
theorem dX1_refresh_4 : decode cX1_refresh 4 = .ok (.ifCond .ne 4, 3) := by decide +kernel
theorem dX1_refresh_7 : decode cX1_refresh 7 = .ok (.return_, 1) := by decide +kernel
theorem dX1_refresh_8 : decode cX1_refresh 8 = .ok (.aload_n 0, 1) := by decide +kernel
theorem dX1_refresh_9 : decode cX1_refresh 9 = .ok (.invokevirtual 66, 3) := by decide +kernel
theorem dX1_refresh_12 : decode cX1_refresh 12 = .ok (.iconst 0, 1) := by decide +kernel
theorem dX1_refresh_13 : decode cX1_refresh 13 = .ok (.istore_n 3, 1) := by decide +kernel
theorem dX1_refresh_14 : decode cX1_refresh 14 = .ok (.iload_n 3, 1) := by decide +kernel
theorem dX1_refresh_15 : decode cX1_refresh 15 = .ok (.aload_n 1, 1) := by decide +kernel
theorem dX1_refresh_16 : decode cX1_refresh 16 = .ok (.getfield 69, 3) := by decide +kernel
theorem dX1_refresh_19 : decode cX1_refresh 19 = .ok (.if_icmp .ge 37, 3) := by decide +kernel
theorem dX1_refresh_22 : decode cX1_refresh 22 = .ok (.aload_n 0, 1) := by decide +kernel
theorem dX1_refresh_23 : decode cX1_refresh 23 = .ok (.getfield 15, 3) := by decide +kernel
theorem dX1_refresh_26 : decode cX1_refresh 26 = .ok (.iload_n 3, 1) := by decide +kernel
theorem dX1_refresh_27 : decode cX1_refresh 27 = .ok (.aload_n 2, 1) := by decide +kernel
theorem dX1_refresh_28 : decode cX1_refresh 28 = .ok (.aload_n 1, 1) := by decide +kernel
theorem dX1_refresh_29 : decode cX1_refresh 29 = .ok (.getfield 75, 3) := by decide +kernel
theorem dX1_refresh_32 : decode cX1_refresh 32 = .ok (.iload_n 3, 1) := by decide +kernel
theorem dX1_refresh_33 : decode cX1_refresh 33 = .ok (.iaload, 1) := by decide +kernel
theorem dX1_refresh_34 : decode cX1_refresh 34 = .ok (.aload_n 1, 1) := by decide +kernel
theorem dX1_refresh_35 : decode cX1_refresh 35 = .ok (.getfield 78, 3) := by decide +kernel
theorem dX1_refresh_38 : decode cX1_refresh 38 = .ok (.iload_n 3, 1) := by decide +kernel
theorem dX1_refresh_39 : decode cX1_refresh 39 = .ok (.iaload, 1) := by decide +kernel
theorem dX1_refresh_40 : decode cX1_refresh 40 = .ok (.aload_n 1, 1) := by decide +kernel
theorem dX1_refresh_41 : decode cX1_refresh 41 = .ok (.getfield 81, 3) := by decide +kernel
theorem dX1_refresh_44 : decode cX1_refresh 44 = .ok (.iload_n 3, 1) := by decide +kernel
theorem dX1_refresh_45 : decode cX1_refresh 45 = .ok (.iaload, 1) := by decide +kernel
theorem dX1_refresh_46 : decode cX1_refresh 46 = .ok (.invokevirtual 84, 3) := by decide +kernel
theorem dX1_refresh_49 : decode cX1_refresh 49 = .ok (.iastore, 1) := by decide +kernel
theorem dX1_refresh_50 : decode cX1_refresh 50 = .ok (.iinc 3 1, 3) := by decide +kernel
theorem dX1_refresh_53 : decode cX1_refresh 53 = .ok (.goto (-39), 3) := by decide +kernel
theorem dX1_refresh_56 : decode cX1_refresh 56 = .ok (.iconst 0, 1) := by decide +kernel
theorem dX1_refresh_57 : decode cX1_refresh 57 = .ok (.istore_n 3, 1) := by decide +kernel
theorem dX1_refresh_58 : decode cX1_refresh 58 = .ok (.iload_n 3, 1) := by decide +kernel
theorem dX1_refresh_59 : decode cX1_refresh 59 = .ok (.aload_n 1, 1) := by decide +kernel
theorem dX1_refresh_60 : decode cX1_refresh 60 = .ok (.getfield 69, 3) := by decide +kernel
theorem dX1_refresh_63 : decode cX1_refresh 63 = .ok (.if_icmp .ge 44, 3) := by decide +kernel
theorem dX1_refresh_66 : decode cX1_refresh 66 = .ok (.aload_n 1, 1) := by decide +kernel
theorem dX1_refresh_67 : decode cX1_refresh 67 = .ok (.getfield 75, 3) := by decide +kernel
theorem dX1_refresh_70 : decode cX1_refresh 70 = .ok (.iload_n 3, 1) := by decide +kernel
theorem dX1_refresh_71 : decode cX1_refresh 71 = .ok (.iaload, 1) := by decide +kernel
theorem dX1_refresh_72 : decode cX1_refresh 72 = .ok (.aload_n 1, 1) := by decide +kernel
theorem dX1_refresh_73 : decode cX1_refresh 73 = .ok (.getfield 78, 3) := by decide +kernel
theorem dX1_refresh_76 : decode cX1_refresh 76 = .ok (.iload_n 3, 1) := by decide +kernel
theorem dX1_refresh_77 : decode cX1_refresh 77 = .ok (.iaload, 1) := by decide +kernel
theorem dX1_refresh_78 : decode cX1_refresh 78 = .ok (.invokestatic 90, 3) := by decide +kernel
theorem dX1_refresh_81 : decode cX1_refresh 81 = .ok (.istore 4, 2) := by decide +kernel
theorem dX1_refresh_83 : decode cX1_refresh 83 = .ok (.aload_n 0, 1) := by decide +kernel
theorem dX1_refresh_84 : decode cX1_refresh 84 = .ok (.getfield 40, 3) := by decide +kernel
theorem dX1_refresh_87 : decode cX1_refresh 87 = .ok (.iload 4, 2) := by decide +kernel
theorem dX1_refresh_89 : decode cX1_refresh 89 = .ok (.iaload, 1) := by decide +kernel
theorem dX1_refresh_90 : decode cX1_refresh 90 = .ok (.ifCond .ne 11, 3) := by decide +kernel
theorem dX1_refresh_93 : decode cX1_refresh 93 = .ok (.aload_n 0, 1) := by decide +kernel
theorem dX1_refresh_94 : decode cX1_refresh 94 = .ok (.aload_n 1, 1) := by decide +kernel
theorem dX1_refresh_95 : decode cX1_refresh 95 = .ok (.iload_n 3, 1) := by decide +kernel
theorem dX1_refresh_96 : decode cX1_refresh 96 = .ok (.iload 4, 2) := by decide +kernel
theorem dX1_refresh_98 : decode cX1_refresh 98 = .ok (.invokevirtual 94, 3) := by decide +kernel
theorem dX1_refresh_101 : decode cX1_refresh 101 = .ok (.iinc 3 1, 3) := by decide +kernel
theorem dX1_refresh_104 : decode cX1_refresh 104 = .ok (.goto (-46), 3) := by decide +kernel
theorem dX1_refresh_107 : decode cX1_refresh 107 = .ok (.aload_n 0, 1) := by decide +kernel
theorem dX1_refresh_108 : decode cX1_refresh 108 = .ok (.iconst 0, 1) := by decide +kernel
theorem dX1_refresh_109 : decode cX1_refresh 109 = .ok (.putfield 9, 3) := by decide +kernel
theorem dX1_refresh_112 : decode cX1_refresh 112 = .ok (.return_, 1) := by decide +kernel
set_option maxRecDepth 20000 in
theorem ggX1_clear_J7_fill_53178 : GoodIn wsX1_clear wsJ7_fill_53178 := goodIn_r _ [11] (by decide +kernel) (by decide +kernel)
set_option maxRecDepth 20000 in
theorem gX1_clear_J7_fill_53178 : GoodIn wsX1_clear (va_wsS RX1 98 yJ7_fill_53178 wsJ7_fill_53178) := goodIn_app (goodIn_of _ (by decide +kernel)) ggX1_clear_J7_fill_53178
theorem dX1_clear_0 : decode cX1_clear 0 = .ok (.aload_n 0, 1) := by decide +kernel
theorem dX1_clear_1 : decode cX1_clear 1 = .ok (.getfield 31, 3) := by decide +kernel
theorem dX1_clear_4 : decode cX1_clear 4 = .ok (.iconst 0, 1) := by decide +kernel
theorem dX1_clear_5 : decode cX1_clear 5 = .ok (.invokestatic 98, 3) := by decide +kernel
theorem dX1_clear_8 : decode cX1_clear 8 = .ok (.aload_n 0, 1) := by decide +kernel
theorem dX1_clear_9 : decode cX1_clear 9 = .ok (.getfield 34, 3) := by decide +kernel
theorem dX1_clear_12 : decode cX1_clear 12 = .ok (.bipush 8, 2) := by decide +kernel
theorem dX1_clear_14 : decode cX1_clear 14 = .ok (.invokestatic 98, 3) := by decide +kernel
theorem dX1_clear_17 : decode cX1_clear 17 = .ok (.aload_n 0, 1) := by decide +kernel
theorem dX1_clear_18 : decode cX1_clear 18 = .ok (.getfield 37, 3) := by decide +kernel
theorem dX1_clear_21 : decode cX1_clear 21 = .ok (.iconst 0, 1) := by decide +kernel
theorem dX1_clear_22 : decode cX1_clear 22 = .ok (.invokestatic 98, 3) := by decide +kernel
theorem dX1_clear_25 : decode cX1_clear 25 = .ok (.aload_n 0, 1) := by decide +kernel
theorem dX1_clear_26 : decode cX1_clear 26 = .ok (.getfield 40, 3) := by decide +kernel
theorem dX1_clear_29 : decode cX1_clear 29 = .ok (.iconst 0, 1) := by decide +kernel
theorem dX1_clear_30 : decode cX1_clear 30 = .ok (.invokestatic 98, 3) := by decide +kernel
theorem dX1_clear_33 : decode cX1_clear 33 = .ok (.aload_n 0, 1) := by decide +kernel
theorem dX1_clear_34 : decode cX1_clear 34 = .ok (.getfield 43, 3) := by decide +kernel
theorem dX1_clear_37 : decode cX1_clear 37 = .ok (.iconst 0, 1) := by decide +kernel
theorem dX1_clear_38 : decode cX1_clear 38 = .ok (.invokestatic 98, 3) := by decide +kernel
theorem dX1_clear_41 : decode cX1_clear 41 = .ok (.aload_n 0, 1) := by decide +kernel
theorem dX1_clear_42 : decode cX1_clear 42 = .ok (.getfield 46, 3) := by decide +kernel
theorem dX1_clear_45 : decode cX1_clear 45 = .ok (.iconst 0, 1) := by decide +kernel
theorem dX1_clear_46 : decode cX1_clear 46 = .ok (.invokestatic 98, 3) := by decide +kernel
theorem dX1_clear_49 : decode cX1_clear 49 = .ok (.aload_n 0, 1) := by decide +kernel
theorem dX1_clear_50 : decode cX1_clear 50 = .ok (.getfield 49, 3) := by decide +kernel
theorem dX1_clear_53 : decode cX1_clear 53 = .ok (.iconst 0, 1) := by decide +kernel
theorem dX1_clear_54 : decode cX1_clear 54 = .ok (.invokestatic 98, 3) := by decide +kernel
theorem dX1_clear_57 : decode cX1_clear 57 = .ok (.return_, 1) := by decide +kernel
set_option maxRecDepth 20000 in
theorem ggX1_layCell_X1_gather : GoodIn wsX1_layCell wsX1_gather := goodIn_r _ [13, 1, 6, 14, 15, 2, 16, 17, 7, 18, 19, 20, 21, 22, 23, 24, 25, 26, 27, 28, 29, 30, 31, 32, 33, 34, 35, 36, 37, 38, 39, 40, 41, 42, 43, 44, 45, 46, 47, 48, 49, 50, 51, 52, 53, 54, 55, 56, 57, 142, 143, 144, 145, 146, 147, 148, 149, 150, 151, 152, 153, 154, 155, 156, 164, 165, 166, 167, 168, 169, 170, 157, 158, 159, 160, 161, 162, 163, 171, 172, 173] (by decide +kernel) (by decide +kernel)
set_option maxRecDepth 20000 in
theorem gX1_layCell_X1_gather : GoodIn wsX1_layCell (wsV RX1 104 RX1 yX1_gather wsX1_gather) := goodIn_app (goodIn_of _ (by decide +kernel)) ggX1_layCell_X1_gather
set_option maxRecDepth 20000 in
theorem ggX1_layCell_X1_turnStems : GoodIn wsX1_layCell wsX1_turnStems := goodIn_r _ [61, 62, 1, 4, 63, 64, 65, 66, 67, 68, 21, 69, 48, 43, 142, 143, 144, 145, 146, 147, 148, 149, 150, 151, 152, 153, 154, 155, 156, 157, 158, 159, 160, 161, 162, 163] (by decide +kernel) (by decide +kernel)
set_option maxRecDepth 20000 in
theorem gX1_layCell_X1_turnStems : GoodIn wsX1_layCell (wsV RX1 107 RX1 yX1_turnStems wsX1_turnStems) := goodIn_app (goodIn_of _ (by decide +kernel)) ggX1_layCell_X1_turnStems
set_option maxRecDepth 20000 in
theorem ggX1_layCell_X0_sortFromStemsFarEnd : GoodIn wsX1_layCell wsX0_sortFromStemsFarEnd := goodIn_r _ [73, 23, 52, 74, 75, 76, 21, 77, 78, 157, 158, 159, 160, 161, 162, 163] (by decide +kernel) (by decide +kernel)
set_option maxRecDepth 20000 in
theorem gX1_layCell_X0_sortFromStemsFarEnd : GoodIn wsX1_layCell (wsV RX1 111 RX0 yX0_sortFromStemsFarEnd wsX0_sortFromStemsFarEnd) := goodIn_app (goodIn_of _ (by decide +kernel)) ggX1_layCell_X0_sortFromStemsFarEnd
set_option maxRecDepth 20000 in
theorem ggX1_layCell_X0_turnHeads : GoodIn wsX1_layCell wsX0_turnHeads := goodIn_r _ [82, 23, 52, 83, 84, 46, 85, 78, 157, 158, 159, 160, 161, 162, 163] (by decide +kernel) (by decide +kernel)
set_option maxRecDepth 20000 in
theorem gX1_layCell_X0_turnHeads : GoodIn wsX1_layCell (wsV RX1 115 RX0 yX0_turnHeads wsX0_turnHeads) := goodIn_app (goodIn_of _ (by decide +kernel)) ggX1_layCell_X0_turnHeads
set_option maxRecDepth 20000 in
theorem ggX1_layCell_X1_moveChords : GoodIn wsX1_layCell wsX1_moveChords := goodIn_r _ [89, 1, 90, 91, 92, 93, 12, 94, 95, 96, 97, 98, 4, 65, 3, 2, 99, 84, 46, 85, 100, 101, 102, 103, 16, 7, 64, 142, 143, 144, 145, 146, 147, 148, 149, 150, 151, 152, 153, 154, 155, 156, 157, 158, 159, 160, 161, 162, 163, 164, 165, 166, 167, 168, 169, 170] (by decide +kernel) (by decide +kernel)
set_option maxRecDepth 20000 in
theorem gX1_layCell_X1_moveChords : GoodIn wsX1_layCell (wsV RX1 119 RX1 yX1_moveChords wsX1_moveChords) := goodIn_app (goodIn_of _ (by decide +kernel)) ggX1_layCell_X1_moveChords
set_option maxRecDepth 20000 in
theorem ggX1_layCell_X1_keep : GoodIn wsX1_layCell wsX1_keep := goodIn_r _ [107, 4, 108, 65, 90, 109, 110, 111, 50, 46, 51, 112, 113, 45, 47, 114, 115, 116, 117, 21, 118, 78, 24, 48, 49, 119, 120, 121, 122, 43, 44, 157, 158, 159, 160, 161, 162, 163, 142, 143, 144, 145, 146, 147, 148, 149, 150, 151, 152, 153, 154, 155, 156] (by decide +kernel) (by decide +kernel)
set_option maxRecDepth 20000 in
theorem gX1_layCell_X1_keep : GoodIn wsX1_layCell (wsV RX1 126 RX1 yX1_keep wsX1_keep) := goodIn_app (goodIn_of _ (by decide +kernel)) ggX1_layCell_X1_keep
set_option maxRecDepth 20000 in
theorem ggX1_layCell_X3_placeAll : GoodIn wsX1_layCell wsX3_placeAll := goodIn_r _ [126, 127, 31, 128, 50, 46, 51, 129, 130, 131, 132, 133, 134, 135, 29, 136, 57, 137, 138, 139, 140, 141, 84, 85, 171, 172, 173] (by decide +kernel) (by decide +kernel)
set_option maxRecDepth 20000 in
theorem gX1_layCell_X3_placeAll : GoodIn wsX1_layCell (wsV RX1 133 RX3 yX3_placeAll wsX3_placeAll) := goodIn_app (goodIn_of _ (by decide +kernel)) ggX1_layCell_X3_placeAll
theorem dX1_layCell_0 : decode cX1_layCell 0 = .ok (.aload_n 0, 1) := by decide +kernel
theorem dX1_layCell_1 : decode cX1_layCell 1 = .ok (.aload_n 1, 1) := by decide +kernel
theorem dX1_layCell_2 : decode cX1_layCell 2 = .ok (.iload_n 2, 1) := by decide +kernel
theorem dX1_layCell_3 : decode cX1_layCell 3 = .ok (.iload_n 3, 1) := by decide +kernel
theorem dX1_layCell_4 : decode cX1_layCell 4 = .ok (.invokevirtual 104, 3) := by decide +kernel
theorem dX1_layCell_7 : decode cX1_layCell 7 = .ok (.aload_n 0, 1) := by decide +kernel
theorem dX1_layCell_8 : decode cX1_layCell 8 = .ok (.iload_n 3, 1) := by decide +kernel
theorem dX1_layCell_9 : decode cX1_layCell 9 = .ok (.invokevirtual 107, 3) := by decide +kernel
theorem dX1_layCell_12 : decode cX1_layCell 12 = .ok (.iconst 0, 1) := by decide +kernel
theorem dX1_layCell_13 : decode cX1_layCell 13 = .ok (.istore 4, 2) := by decide +kernel
theorem dX1_layCell_15 : decode cX1_layCell 15 = .ok (.iload 4, 2) := by decide +kernel
theorem dX1_layCell_17 : decode cX1_layCell 17 = .ok (.iconst 3, 1) := by decide +kernel
theorem dX1_layCell_18 : decode cX1_layCell 18 = .ok (.if_icmp .ge 41, 3) := by decide +kernel
theorem dX1_layCell_21 : decode cX1_layCell 21 = .ok (.aload_n 0, 1) := by decide +kernel
theorem dX1_layCell_22 : decode cX1_layCell 22 = .ok (.getfield 55, 3) := by decide +kernel
theorem dX1_layCell_25 : decode cX1_layCell 25 = .ok (.iload 4, 2) := by decide +kernel
theorem dX1_layCell_27 : decode cX1_layCell 27 = .ok (.aaload, 1) := by decide +kernel
theorem dX1_layCell_28 : decode cX1_layCell 28 = .ok (.aload_n 0, 1) := by decide +kernel
theorem dX1_layCell_29 : decode cX1_layCell 29 = .ok (.getfield 15, 3) := by decide +kernel
theorem dX1_layCell_32 : decode cX1_layCell 32 = .ok (.invokevirtual 111, 3) := by decide +kernel
theorem dX1_layCell_35 : decode cX1_layCell 35 = .ok (.aload_n 0, 1) := by decide +kernel
theorem dX1_layCell_36 : decode cX1_layCell 36 = .ok (.getfield 55, 3) := by decide +kernel
theorem dX1_layCell_39 : decode cX1_layCell 39 = .ok (.iload 4, 2) := by decide +kernel
theorem dX1_layCell_41 : decode cX1_layCell 41 = .ok (.aaload, 1) := by decide +kernel
theorem dX1_layCell_42 : decode cX1_layCell 42 = .ok (.aload_n 0, 1) := by decide +kernel
theorem dX1_layCell_43 : decode cX1_layCell 43 = .ok (.getfield 15, 3) := by decide +kernel
theorem dX1_layCell_46 : decode cX1_layCell 46 = .ok (.aload_n 0, 1) := by decide +kernel
theorem dX1_layCell_47 : decode cX1_layCell 47 = .ok (.getfield 22, 3) := by decide +kernel
theorem dX1_layCell_50 : decode cX1_layCell 50 = .ok (.invokevirtual 115, 3) := by decide +kernel
theorem dX1_layCell_53 : decode cX1_layCell 53 = .ok (.iinc 4 1, 3) := by decide +kernel
theorem dX1_layCell_56 : decode cX1_layCell 56 = .ok (.goto (-41), 3) := by decide +kernel
theorem dX1_layCell_59 : decode cX1_layCell 59 = .ok (.aload_n 0, 1) := by decide +kernel
theorem dX1_layCell_60 : decode cX1_layCell 60 = .ok (.aload_n 1, 1) := by decide +kernel
theorem dX1_layCell_61 : decode cX1_layCell 61 = .ok (.invokevirtual 119, 3) := by decide +kernel
theorem dX1_layCell_64 : decode cX1_layCell 64 = .ok (.iconst 0, 1) := by decide +kernel
theorem dX1_layCell_65 : decode cX1_layCell 65 = .ok (.istore 4, 2) := by decide +kernel
theorem dX1_layCell_67 : decode cX1_layCell 67 = .ok (.iload 4, 2) := by decide +kernel
theorem dX1_layCell_69 : decode cX1_layCell 69 = .ok (.iconst 3, 1) := by decide +kernel
theorem dX1_layCell_70 : decode cX1_layCell 70 = .ok (.if_icmp .ge 34, 3) := by decide +kernel
theorem dX1_layCell_73 : decode cX1_layCell 73 = .ok (.aload_n 0, 1) := by decide +kernel
theorem dX1_layCell_74 : decode cX1_layCell 74 = .ok (.getfield 55, 3) := by decide +kernel
theorem dX1_layCell_77 : decode cX1_layCell 77 = .ok (.iload 4, 2) := by decide +kernel
theorem dX1_layCell_79 : decode cX1_layCell 79 = .ok (.aaload, 1) := by decide +kernel
theorem dX1_layCell_80 : decode cX1_layCell 80 = .ok (.getfield 123, 3) := by decide +kernel
theorem dX1_layCell_83 : decode cX1_layCell 83 = .ok (.ifCond .le 15, 3) := by decide +kernel
theorem dX1_layCell_86 : decode cX1_layCell 86 = .ok (.aload_n 0, 1) := by decide +kernel
theorem dX1_layCell_87 : decode cX1_layCell 87 = .ok (.aload_n 0, 1) := by decide +kernel
theorem dX1_layCell_88 : decode cX1_layCell 88 = .ok (.getfield 55, 3) := by decide +kernel
theorem dX1_layCell_91 : decode cX1_layCell 91 = .ok (.iload 4, 2) := by decide +kernel
theorem dX1_layCell_93 : decode cX1_layCell 93 = .ok (.aaload, 1) := by decide +kernel
theorem dX1_layCell_94 : decode cX1_layCell 94 = .ok (.iload_n 3, 1) := by decide +kernel
theorem dX1_layCell_95 : decode cX1_layCell 95 = .ok (.invokevirtual 126, 3) := by decide +kernel
theorem dX1_layCell_98 : decode cX1_layCell 98 = .ok (.iinc 4 1, 3) := by decide +kernel
theorem dX1_layCell_101 : decode cX1_layCell 101 = .ok (.goto (-34), 3) := by decide +kernel
theorem dX1_layCell_104 : decode cX1_layCell 104 = .ok (.aload_n 0, 1) := by decide +kernel
theorem dX1_layCell_105 : decode cX1_layCell 105 = .ok (.getfield 46, 3) := by decide +kernel
theorem dX1_layCell_108 : decode cX1_layCell 108 = .ok (.iload_n 3, 1) := by decide +kernel
theorem dX1_layCell_109 : decode cX1_layCell 109 = .ok (.aload_n 0, 1) := by decide +kernel
theorem dX1_layCell_110 : decode cX1_layCell 110 = .ok (.getfield 62, 3) := by decide +kernel
theorem dX1_layCell_113 : decode cX1_layCell 113 = .ok (.aload_n 1, 1) := by decide +kernel
theorem dX1_layCell_114 : decode cX1_layCell 114 = .ok (.getfield 130, 3) := by decide +kernel
theorem dX1_layCell_117 : decode cX1_layCell 117 = .ok (.aload_n 0, 1) := by decide +kernel
theorem dX1_layCell_118 : decode cX1_layCell 118 = .ok (.getfield 15, 3) := by decide +kernel
theorem dX1_layCell_121 : decode cX1_layCell 121 = .ok (.aload_n 0, 1) := by decide +kernel
theorem dX1_layCell_122 : decode cX1_layCell 122 = .ok (.getfield 31, 3) := by decide +kernel
theorem dX1_layCell_125 : decode cX1_layCell 125 = .ok (.invokevirtual 133, 3) := by decide +kernel
theorem dX1_layCell_128 : decode cX1_layCell 128 = .ok (.iastore, 1) := by decide +kernel
theorem dX1_layCell_129 : decode cX1_layCell 129 = .ok (.return_, 1) := by decide +kernel
set_option maxRecDepth 20000 in
theorem ggX1_gather_X0_clear : GoodIn wsX1_gather wsX0_clear := goodIn_r _ [13, 14, 15, 16, 71, 72, 73, 74, 75, 76, 77] (by decide +kernel) (by decide +kernel)
set_option maxRecDepth 20000 in
theorem gX1_gather_X0_clear : GoodIn wsX1_gather (wsV RX1 137 RX0 yX0_clear wsX0_clear) := goodIn_app (goodIn_of _ (by decide +kernel)) ggX1_gather_X0_clear
set_option maxRecDepth 20000 in
theorem ggX1_gather_X3_clear : GoodIn wsX1_gather wsX3_clear := goodIn_r _ [21, 22, 78, 79, 80] (by decide +kernel) (by decide +kernel)
set_option maxRecDepth 20000 in
theorem gX1_gather_X3_clear : GoodIn wsX1_gather (wsV RX1 138 RX3 yX3_clear wsX3_clear) := goodIn_app (goodIn_of _ (by decide +kernel)) ggX1_gather_X3_clear
set_option maxRecDepth 20000 in
theorem ggX1_gather_X2_together : GoodIn wsX1_gather wsX2_together := goodIn_r _ [27, 28, 29, 64, 65, 66, 67, 68, 69, 70] (by decide +kernel) (by decide +kernel)
set_option maxRecDepth 20000 in
theorem gX1_gather_X2_together : GoodIn wsX1_gather (wsV RX1 139 RX2 yX2_together wsX2_together) := goodIn_app (goodIn_of _ (by decide +kernel)) ggX1_gather_X2_together
set_option maxRecDepth 20000 in
theorem ggX1_gather_X0_add : GoodIn wsX1_gather wsX0_add := goodIn_r _ [33, 14, 34, 35, 36, 37, 38, 39, 40, 41, 42, 15, 43, 71, 72, 73, 74, 75, 76, 77] (by decide +kernel) (by decide +kernel)
set_option maxRecDepth 20000 in
theorem gX1_gather_X0_add : GoodIn wsX1_gather (wsV RX1 149 RX0 yX0_add wsX0_add) := goodIn_app (goodIn_of _ (by decide +kernel)) ggX1_gather_X0_add
set_option maxRecDepth 20000 in
theorem ggX1_gather_X3_add : GoodIn wsX1_gather wsX3_add := goodIn_r _ [47, 48, 22, 78, 79, 80] (by decide +kernel) (by decide +kernel)
set_option maxRecDepth 20000 in
theorem gX1_gather_X3_add : GoodIn wsX1_gather (wsV RX1 153 RX3 yX3_add wsX3_add) := goodIn_app (goodIn_of _ (by decide +kernel)) ggX1_gather_X3_add
theorem dX1_gather_0 : decode cX1_gather 0 = .ok (.iconst 0, 1) := by decide +kernel
theorem dX1_gather_1 : decode cX1_gather 1 = .ok (.istore 4, 2) := by decide +kernel
theorem dX1_gather_3 : decode cX1_gather 3 = .ok (.iload 4, 2) := by decide +kernel
theorem dX1_gather_5 : decode cX1_gather 5 = .ok (.iconst 3, 1) := by decide +kernel
theorem dX1_gather_6 : decode cX1_gather 6 = .ok (.if_icmp .ge 19, 3) := by decide +kernel
theorem dX1_gather_9 : decode cX1_gather 9 = .ok (.aload_n 0, 1) := by decide +kernel
theorem dX1_gather_10 : decode cX1_gather 10 = .ok (.getfield 55, 3) := by decide +kernel
theorem dX1_gather_13 : decode cX1_gather 13 = .ok (.iload 4, 2) := by decide +kernel
theorem dX1_gather_15 : decode cX1_gather 15 = .ok (.aaload, 1) := by decide +kernel
theorem dX1_gather_16 : decode cX1_gather 16 = .ok (.invokevirtual 137, 3) := by decide +kernel
theorem dX1_gather_19 : decode cX1_gather 19 = .ok (.iinc 4 1, 3) := by decide +kernel
theorem dX1_gather_22 : decode cX1_gather 22 = .ok (.goto (-19), 3) := by decide +kernel
theorem dX1_gather_25 : decode cX1_gather 25 = .ok (.aload_n 0, 1) := by decide +kernel
theorem dX1_gather_26 : decode cX1_gather 26 = .ok (.getfield 62, 3) := by decide +kernel
theorem dX1_gather_29 : decode cX1_gather 29 = .ok (.invokevirtual 138, 3) := by decide +kernel
theorem dX1_gather_32 : decode cX1_gather 32 = .ok (.iload_n 2, 1) := by decide +kernel
theorem dX1_gather_33 : decode cX1_gather 33 = .ok (.istore 4, 2) := by decide +kernel
theorem dX1_gather_35 : decode cX1_gather 35 = .ok (.iload 4, 2) := by decide +kernel
theorem dX1_gather_37 : decode cX1_gather 37 = .ok (.aload_n 1, 1) := by decide +kernel
theorem dX1_gather_38 : decode cX1_gather 38 = .ok (.getfield 69, 3) := by decide +kernel
theorem dX1_gather_41 : decode cX1_gather 41 = .ok (.if_icmp .ge 80, 3) := by decide +kernel
theorem dX1_gather_44 : decode cX1_gather 44 = .ok (.aload_n 1, 1) := by decide +kernel
theorem dX1_gather_45 : decode cX1_gather 45 = .ok (.iload_n 2, 1) := by decide +kernel
theorem dX1_gather_46 : decode cX1_gather 46 = .ok (.iload 4, 2) := by decide +kernel
theorem dX1_gather_48 : decode cX1_gather 48 = .ok (.invokevirtual 139, 3) := by decide +kernel
theorem dX1_gather_51 : decode cX1_gather 51 = .ok (.ifCond .eq 64, 3) := by decide +kernel
theorem dX1_gather_54 : decode cX1_gather 54 = .ok (.aload_n 0, 1) := by decide +kernel
theorem dX1_gather_55 : decode cX1_gather 55 = .ok (.getfield 55, 3) := by decide +kernel
theorem dX1_gather_58 : decode cX1_gather 58 = .ok (.aload_n 1, 1) := by decide +kernel
theorem dX1_gather_59 : decode cX1_gather 59 = .ok (.getfield 143, 3) := by decide +kernel
theorem dX1_gather_62 : decode cX1_gather 62 = .ok (.iload 4, 2) := by decide +kernel
theorem dX1_gather_64 : decode cX1_gather 64 = .ok (.iaload, 1) := by decide +kernel
theorem dX1_gather_65 : decode cX1_gather 65 = .ok (.aaload, 1) := by decide +kernel
theorem dX1_gather_66 : decode cX1_gather 66 = .ok (.iload 4, 2) := by decide +kernel
theorem dX1_gather_68 : decode cX1_gather 68 = .ok (.aload_n 0, 1) := by decide +kernel
theorem dX1_gather_69 : decode cX1_gather 69 = .ok (.getfield 15, 3) := by decide +kernel
theorem dX1_gather_72 : decode cX1_gather 72 = .ok (.iload 4, 2) := by decide +kernel
theorem dX1_gather_74 : decode cX1_gather 74 = .ok (.iaload, 1) := by decide +kernel
theorem dX1_gather_75 : decode cX1_gather 75 = .ok (.aload_n 1, 1) := by decide +kernel
theorem dX1_gather_76 : decode cX1_gather 76 = .ok (.getfield 146, 3) := by decide +kernel
theorem dX1_gather_79 : decode cX1_gather 79 = .ok (.iload 4, 2) := by decide +kernel
theorem dX1_gather_81 : decode cX1_gather 81 = .ok (.iaload, 1) := by decide +kernel
theorem dX1_gather_82 : decode cX1_gather 82 = .ok (.invokevirtual 149, 3) := by decide +kernel
theorem dX1_gather_85 : decode cX1_gather 85 = .ok (.aload_n 0, 1) := by decide +kernel
theorem dX1_gather_86 : decode cX1_gather 86 = .ok (.getfield 40, 3) := by decide +kernel
theorem dX1_gather_89 : decode cX1_gather 89 = .ok (.iload_n 3, 1) := by decide +kernel
theorem dX1_gather_90 : decode cX1_gather 90 = .ok (.dup2, 1) := by decide +kernel
theorem dX1_gather_91 : decode cX1_gather 91 = .ok (.iaload, 1) := by decide +kernel
theorem dX1_gather_92 : decode cX1_gather 92 = .ok (.iconst 1, 1) := by decide +kernel
theorem dX1_gather_93 : decode cX1_gather 93 = .ok (.iadd, 1) := by decide +kernel
theorem dX1_gather_94 : decode cX1_gather 94 = .ok (.iastore, 1) := by decide +kernel
theorem dX1_gather_95 : decode cX1_gather 95 = .ok (.aload_n 1, 1) := by decide +kernel
theorem dX1_gather_96 : decode cX1_gather 96 = .ok (.getfield 130, 3) := by decide +kernel
theorem dX1_gather_99 : decode cX1_gather 99 = .ok (.iload 4, 2) := by decide +kernel
theorem dX1_gather_101 : decode cX1_gather 101 = .ok (.iaload, 1) := by decide +kernel
theorem dX1_gather_102 : decode cX1_gather 102 = .ok (.iconst 3, 1) := by decide +kernel
theorem dX1_gather_103 : decode cX1_gather 103 = .ok (.if_icmp .eq 12, 3) := by decide +kernel
theorem dX1_gather_106 : decode cX1_gather 106 = .ok (.aload_n 0, 1) := by decide +kernel
theorem dX1_gather_107 : decode cX1_gather 107 = .ok (.getfield 62, 3) := by decide +kernel
theorem dX1_gather_110 : decode cX1_gather 110 = .ok (.iload 4, 2) := by decide +kernel
theorem dX1_gather_112 : decode cX1_gather 112 = .ok (.invokevirtual 153, 3) := by decide +kernel
theorem dX1_gather_115 : decode cX1_gather 115 = .ok (.iinc 4 1, 3) := by decide +kernel
theorem dX1_gather_118 : decode cX1_gather 118 = .ok (.goto (-83), 3) := by decide +kernel
theorem dX1_gather_121 : decode cX1_gather 121 = .ok (.return_, 1) := by decide +kernel
set_option maxRecDepth 20000 in
theorem ggX1_turnStems_X0_liesLow : GoodIn wsX1_turnStems wsX0_liesLow := goodIn_r _ [11, 12, 13, 29, 30, 31, 32, 33, 34, 35] (by decide +kernel) (by decide +kernel)
set_option maxRecDepth 20000 in
theorem gX1_turnStems_X0_liesLow : GoodIn wsX1_turnStems (wsV RX1 155 RX0 yX0_liesLow wsX0_liesLow) := goodIn_app (goodIn_of _ (by decide +kernel)) ggX1_turnStems_X0_liesLow
theorem dX1_turnStems_0 : decode cX1_turnStems 0 = .ok (.iconst 0, 1) := by decide +kernel
theorem dX1_turnStems_1 : decode cX1_turnStems 1 = .ok (.istore_n 2, 1) := by decide +kernel
theorem dX1_turnStems_2 : decode cX1_turnStems 2 = .ok (.iload_n 2, 1) := by decide +kernel
theorem dX1_turnStems_3 : decode cX1_turnStems 3 = .ok (.iconst 3, 1) := by decide +kernel
theorem dX1_turnStems_4 : decode cX1_turnStems 4 = .ok (.if_icmp .ge 35, 3) := by decide +kernel
theorem dX1_turnStems_7 : decode cX1_turnStems 7 = .ok (.aload_n 0, 1) := by decide +kernel
theorem dX1_turnStems_8 : decode cX1_turnStems 8 = .ok (.getfield 43, 3) := by decide +kernel
theorem dX1_turnStems_11 : decode cX1_turnStems 11 = .ok (.iload_n 1, 1) := by decide +kernel
theorem dX1_turnStems_12 : decode cX1_turnStems 12 = .ok (.dup2, 1) := by decide +kernel
theorem dX1_turnStems_13 : decode cX1_turnStems 13 = .ok (.iaload, 1) := by decide +kernel
theorem dX1_turnStems_14 : decode cX1_turnStems 14 = .ok (.aload_n 0, 1) := by decide +kernel
theorem dX1_turnStems_15 : decode cX1_turnStems 15 = .ok (.getfield 55, 3) := by decide +kernel
theorem dX1_turnStems_18 : decode cX1_turnStems 18 = .ok (.iload_n 2, 1) := by decide +kernel
theorem dX1_turnStems_19 : decode cX1_turnStems 19 = .ok (.aaload, 1) := by decide +kernel
theorem dX1_turnStems_20 : decode cX1_turnStems 20 = .ok (.getfield 123, 3) := by decide +kernel
theorem dX1_turnStems_23 : decode cX1_turnStems 23 = .ok (.ifCond .le 7, 3) := by decide +kernel
theorem dX1_turnStems_26 : decode cX1_turnStems 26 = .ok (.iconst 1, 1) := by decide +kernel
theorem dX1_turnStems_27 : decode cX1_turnStems 27 = .ok (.goto 4, 3) := by decide +kernel
theorem dX1_turnStems_30 : decode cX1_turnStems 30 = .ok (.iconst 0, 1) := by decide +kernel
theorem dX1_turnStems_31 : decode cX1_turnStems 31 = .ok (.iadd, 1) := by decide +kernel
theorem dX1_turnStems_32 : decode cX1_turnStems 32 = .ok (.iastore, 1) := by decide +kernel
theorem dX1_turnStems_33 : decode cX1_turnStems 33 = .ok (.iinc 2 1, 3) := by decide +kernel
theorem dX1_turnStems_36 : decode cX1_turnStems 36 = .ok (.goto (-34), 3) := by decide +kernel
theorem dX1_turnStems_39 : decode cX1_turnStems 39 = .ok (.iconst 1, 1) := by decide +kernel
theorem dX1_turnStems_40 : decode cX1_turnStems 40 = .ok (.istore_n 2, 1) := by decide +kernel
theorem dX1_turnStems_41 : decode cX1_turnStems 41 = .ok (.iconst 0, 1) := by decide +kernel
theorem dX1_turnStems_42 : decode cX1_turnStems 42 = .ok (.istore_n 3, 1) := by decide +kernel
theorem dX1_turnStems_43 : decode cX1_turnStems 43 = .ok (.iload_n 3, 1) := by decide +kernel
theorem dX1_turnStems_44 : decode cX1_turnStems 44 = .ok (.iconst 3, 1) := by decide +kernel
theorem dX1_turnStems_45 : decode cX1_turnStems 45 = .ok (.if_icmp .ge 96, 3) := by decide +kernel
theorem dX1_turnStems_48 : decode cX1_turnStems 48 = .ok (.aload_n 0, 1) := by decide +kernel
theorem dX1_turnStems_49 : decode cX1_turnStems 49 = .ok (.getfield 55, 3) := by decide +kernel
theorem dX1_turnStems_52 : decode cX1_turnStems 52 = .ok (.iload_n 3, 1) := by decide +kernel
theorem dX1_turnStems_53 : decode cX1_turnStems 53 = .ok (.aaload, 1) := by decide +kernel
theorem dX1_turnStems_54 : decode cX1_turnStems 54 = .ok (.astore 4, 2) := by decide +kernel
theorem dX1_turnStems_56 : decode cX1_turnStems 56 = .ok (.aload 4, 2) := by decide +kernel
theorem dX1_turnStems_58 : decode cX1_turnStems 58 = .ok (.getfield 123, 3) := by decide +kernel
theorem dX1_turnStems_61 : decode cX1_turnStems 61 = .ok (.ifCond .le 29, 3) := by decide +kernel
theorem dX1_turnStems_64 : decode cX1_turnStems 64 = .ok (.aload 4, 2) := by decide +kernel
theorem dX1_turnStems_66 : decode cX1_turnStems 66 = .ok (.aload_n 0, 1) := by decide +kernel
theorem dX1_turnStems_67 : decode cX1_turnStems 67 = .ok (.getfield 43, 3) := by decide +kernel
theorem dX1_turnStems_70 : decode cX1_turnStems 70 = .ok (.iload_n 1, 1) := by decide +kernel
theorem dX1_turnStems_71 : decode cX1_turnStems 71 = .ok (.iaload, 1) := by decide +kernel
theorem dX1_turnStems_72 : decode cX1_turnStems 72 = .ok (.iconst 1, 1) := by decide +kernel
theorem dX1_turnStems_73 : decode cX1_turnStems 73 = .ok (.if_icmp .le 7, 3) := by decide +kernel
theorem dX1_turnStems_76 : decode cX1_turnStems 76 = .ok (.iload_n 2, 1) := by decide +kernel
theorem dX1_turnStems_77 : decode cX1_turnStems 77 = .ok (.goto 8, 3) := by decide +kernel
theorem dX1_turnStems_80 : decode cX1_turnStems 80 = .ok (.aload 4, 2) := by decide +kernel
theorem dX1_turnStems_82 : decode cX1_turnStems 82 = .ok (.invokevirtual 155, 3) := by decide +kernel
theorem dX1_turnStems_85 : decode cX1_turnStems 85 = .ok (.putfield 159, 3) := by decide +kernel
theorem dX1_turnStems_88 : decode cX1_turnStems 88 = .ok (.iconst 0, 1) := by decide +kernel
theorem dX1_turnStems_89 : decode cX1_turnStems 89 = .ok (.istore_n 2, 1) := by decide +kernel
theorem dX1_turnStems_90 : decode cX1_turnStems 90 = .ok (.iconst 0, 1) := by decide +kernel
theorem dX1_turnStems_91 : decode cX1_turnStems 91 = .ok (.istore 5, 2) := by decide +kernel
theorem dX1_turnStems_93 : decode cX1_turnStems 93 = .ok (.iload 5, 2) := by decide +kernel
theorem dX1_turnStems_95 : decode cX1_turnStems 95 = .ok (.aload 4, 2) := by decide +kernel
theorem dX1_turnStems_97 : decode cX1_turnStems 97 = .ok (.getfield 123, 3) := by decide +kernel
theorem dX1_turnStems_100 : decode cX1_turnStems 100 = .ok (.if_icmp .ge 35, 3) := by decide +kernel
theorem dX1_turnStems_103 : decode cX1_turnStems 103 = .ok (.aload_n 0, 1) := by decide +kernel
theorem dX1_turnStems_104 : decode cX1_turnStems 104 = .ok (.getfield 19, 3) := by decide +kernel
theorem dX1_turnStems_107 : decode cX1_turnStems 107 = .ok (.aload 4, 2) := by decide +kernel
theorem dX1_turnStems_109 : decode cX1_turnStems 109 = .ok (.getfield 162, 3) := by decide +kernel
theorem dX1_turnStems_112 : decode cX1_turnStems 112 = .ok (.iload 5, 2) := by decide +kernel
theorem dX1_turnStems_114 : decode cX1_turnStems 114 = .ok (.iaload, 1) := by decide +kernel
theorem dX1_turnStems_115 : decode cX1_turnStems 115 = .ok (.aload 4, 2) := by decide +kernel
theorem dX1_turnStems_117 : decode cX1_turnStems 117 = .ok (.getfield 159, 3) := by decide +kernel
theorem dX1_turnStems_120 : decode cX1_turnStems 120 = .ok (.ifCond .eq 7, 3) := by decide +kernel
theorem dX1_turnStems_123 : decode cX1_turnStems 123 = .ok (.iconst 1, 1) := by decide +kernel
theorem dX1_turnStems_124 : decode cX1_turnStems 124 = .ok (.goto 4, 3) := by decide +kernel
theorem dX1_turnStems_127 : decode cX1_turnStems 127 = .ok (.iconst 0, 1) := by decide +kernel
theorem dX1_turnStems_128 : decode cX1_turnStems 128 = .ok (.iastore, 1) := by decide +kernel
theorem dX1_turnStems_129 : decode cX1_turnStems 129 = .ok (.iinc 5 1, 3) := by decide +kernel
theorem dX1_turnStems_132 : decode cX1_turnStems 132 = .ok (.goto (-39), 3) := by decide +kernel
theorem dX1_turnStems_135 : decode cX1_turnStems 135 = .ok (.iinc 3 1, 3) := by decide +kernel
theorem dX1_turnStems_138 : decode cX1_turnStems 138 = .ok (.goto (-95), 3) := by decide +kernel
theorem dX1_turnStems_141 : decode cX1_turnStems 141 = .ok (.return_, 1) := by decide +kernel
set_option maxRecDepth 20000 in
theorem ggX1_moveChords_X1_liesOverLesser : GoodIn wsX1_moveChords wsX1_liesOverLesser := goodIn_r _ [7, 1, 8, 9, 10, 6, 11, 12, 13, 2, 14, 15, 16, 17, 18, 19, 20, 21, 22, 23, 24, 25, 26, 27, 28, 29, 30, 31, 32, 33, 34, 35, 36, 37, 38, 39, 40, 41, 42, 43, 44, 45, 46, 47, 48, 49, 50, 51, 52, 53, 54, 55] (by decide +kernel) (by decide +kernel)
set_option maxRecDepth 20000 in
theorem gX1_moveChords_X1_liesOverLesser : GoodIn wsX1_moveChords (wsV RX1 167 RX1 yX1_liesOverLesser wsX1_liesOverLesser) := goodIn_app (goodIn_of _ (by decide +kernel)) ggX1_moveChords_X1_liesOverLesser
theorem dX1_moveChords_0 : decode cX1_moveChords 0 = .ok (.iconst 1, 1) := by decide +kernel
theorem dX1_moveChords_1 : decode cX1_moveChords 1 = .ok (.istore_n 2, 1) := by decide +kernel
theorem dX1_moveChords_2 : decode cX1_moveChords 2 = .ok (.iload_n 2, 1) := by decide +kernel
theorem dX1_moveChords_3 : decode cX1_moveChords 3 = .ok (.iconst 3, 1) := by decide +kernel
theorem dX1_moveChords_4 : decode cX1_moveChords 4 = .ok (.if_icmp .ge 47, 3) := by decide +kernel
theorem dX1_moveChords_7 : decode cX1_moveChords 7 = .ok (.aload_n 0, 1) := by decide +kernel
theorem dX1_moveChords_8 : decode cX1_moveChords 8 = .ok (.getfield 55, 3) := by decide +kernel
theorem dX1_moveChords_11 : decode cX1_moveChords 11 = .ok (.iload_n 2, 1) := by decide +kernel
theorem dX1_moveChords_12 : decode cX1_moveChords 12 = .ok (.aaload, 1) := by decide +kernel
theorem dX1_moveChords_13 : decode cX1_moveChords 13 = .ok (.astore_n 3, 1) := by decide +kernel
theorem dX1_moveChords_14 : decode cX1_moveChords 14 = .ok (.aload_n 3, 1) := by decide +kernel
theorem dX1_moveChords_15 : decode cX1_moveChords 15 = .ok (.getfield 165, 3) := by decide +kernel
theorem dX1_moveChords_18 : decode cX1_moveChords 18 = .ok (.bipush 16, 2) := by decide +kernel
theorem dX1_moveChords_20 : decode cX1_moveChords 20 = .ok (.if_icmp .ge 25, 3) := by decide +kernel
theorem dX1_moveChords_23 : decode cX1_moveChords 23 = .ok (.aload_n 0, 1) := by decide +kernel
theorem dX1_moveChords_24 : decode cX1_moveChords 24 = .ok (.aload_n 1, 1) := by decide +kernel
theorem dX1_moveChords_25 : decode cX1_moveChords 25 = .ok (.iload_n 2, 1) := by decide +kernel
theorem dX1_moveChords_26 : decode cX1_moveChords 26 = .ok (.invokevirtual 167, 3) := by decide +kernel
theorem dX1_moveChords_29 : decode cX1_moveChords 29 = .ok (.ifCond .eq 16, 3) := by decide +kernel
theorem dX1_moveChords_32 : decode cX1_moveChords 32 = .ok (.aload_n 3, 1) := by decide +kernel
theorem dX1_moveChords_33 : decode cX1_moveChords 33 = .ok (.dup, 1) := by decide +kernel
theorem dX1_moveChords_34 : decode cX1_moveChords 34 = .ok (.getfield 165, 3) := by decide +kernel
theorem dX1_moveChords_37 : decode cX1_moveChords 37 = .ok (.iconst 1, 1) := by decide +kernel
theorem dX1_moveChords_38 : decode cX1_moveChords 38 = .ok (.iadd, 1) := by decide +kernel
theorem dX1_moveChords_39 : decode cX1_moveChords 39 = .ok (.putfield 165, 3) := by decide +kernel
theorem dX1_moveChords_42 : decode cX1_moveChords 42 = .ok (.goto (-28), 3) := by decide +kernel
theorem dX1_moveChords_45 : decode cX1_moveChords 45 = .ok (.iinc 2 1, 3) := by decide +kernel
theorem dX1_moveChords_48 : decode cX1_moveChords 48 = .ok (.goto (-46), 3) := by decide +kernel
theorem dX1_moveChords_51 : decode cX1_moveChords 51 = .ok (.return_, 1) := by decide +kernel
set_option maxRecDepth 20000 in
theorem ggX1_liesOverLesser_X1_lieOver : GoodIn wsX1_liesOverLesser wsX1_lieOver := goodIn_r _ [6, 7, 8, 9, 10, 11, 12, 13, 14, 15, 16, 17, 18, 5, 19, 20, 21, 22, 38, 39, 40, 41, 42, 43, 44, 23, 24, 25, 26, 27, 28, 29, 30, 31, 32, 33, 34, 35, 36, 37, 45, 46, 47, 48, 49, 50, 51] (by decide +kernel) (by decide +kernel)
set_option maxRecDepth 20000 in
theorem gX1_liesOverLesser_X1_lieOver : GoodIn wsX1_liesOverLesser (wsV RX1 171 RX1 yX1_lieOver wsX1_lieOver) := goodIn_app (goodIn_of _ (by decide +kernel)) ggX1_liesOverLesser_X1_lieOver
theorem dX1_liesOverLesser_0 : decode cX1_liesOverLesser 0 = .ok (.iconst 0, 1) := by decide +kernel
theorem dX1_liesOverLesser_1 : decode cX1_liesOverLesser 1 = .ok (.istore_n 3, 1) := by decide +kernel
theorem dX1_liesOverLesser_2 : decode cX1_liesOverLesser 2 = .ok (.iload_n 3, 1) := by decide +kernel
theorem dX1_liesOverLesser_3 : decode cX1_liesOverLesser 3 = .ok (.iload_n 2, 1) := by decide +kernel
theorem dX1_liesOverLesser_4 : decode cX1_liesOverLesser 4 = .ok (.if_icmp .ge 31, 3) := by decide +kernel
theorem dX1_liesOverLesser_7 : decode cX1_liesOverLesser 7 = .ok (.aload_n 0, 1) := by decide +kernel
theorem dX1_liesOverLesser_8 : decode cX1_liesOverLesser 8 = .ok (.aload_n 1, 1) := by decide +kernel
theorem dX1_liesOverLesser_9 : decode cX1_liesOverLesser 9 = .ok (.aload_n 0, 1) := by decide +kernel
theorem dX1_liesOverLesser_10 : decode cX1_liesOverLesser 10 = .ok (.getfield 55, 3) := by decide +kernel
theorem dX1_liesOverLesser_13 : decode cX1_liesOverLesser 13 = .ok (.iload_n 2, 1) := by decide +kernel
theorem dX1_liesOverLesser_14 : decode cX1_liesOverLesser 14 = .ok (.aaload, 1) := by decide +kernel
theorem dX1_liesOverLesser_15 : decode cX1_liesOverLesser 15 = .ok (.aload_n 0, 1) := by decide +kernel
theorem dX1_liesOverLesser_16 : decode cX1_liesOverLesser 16 = .ok (.getfield 55, 3) := by decide +kernel
theorem dX1_liesOverLesser_19 : decode cX1_liesOverLesser 19 = .ok (.iload_n 3, 1) := by decide +kernel
theorem dX1_liesOverLesser_20 : decode cX1_liesOverLesser 20 = .ok (.aaload, 1) := by decide +kernel
theorem dX1_liesOverLesser_21 : decode cX1_liesOverLesser 21 = .ok (.invokevirtual 171, 3) := by decide +kernel
theorem dX1_liesOverLesser_24 : decode cX1_liesOverLesser 24 = .ok (.ifCond .eq 5, 3) := by decide +kernel
theorem dX1_liesOverLesser_27 : decode cX1_liesOverLesser 27 = .ok (.iconst 1, 1) := by decide +kernel
theorem dX1_liesOverLesser_28 : decode cX1_liesOverLesser 28 = .ok (.ireturn, 1) := by decide +kernel
theorem dX1_liesOverLesser_29 : decode cX1_liesOverLesser 29 = .ok (.iinc 3 1, 3) := by decide +kernel
theorem dX1_liesOverLesser_32 : decode cX1_liesOverLesser 32 = .ok (.goto (-30), 3) := by decide +kernel
theorem dX1_liesOverLesser_35 : decode cX1_liesOverLesser 35 = .ok (.iconst 0, 1) := by decide +kernel
theorem dX1_liesOverLesser_36 : decode cX1_liesOverLesser 36 = .ok (.ireturn, 1) := by decide +kernel
set_option maxRecDepth 20000 in
theorem ggX1_lieOver_X1_areShared : GoodIn wsX1_lieOver wsX1_areShared := goodIn_r _ [14, 5, 15, 16, 17, 25, 26, 27, 28, 29, 30, 31, 32, 33, 34, 35, 36, 37, 38, 39, 40, 41, 42, 43, 44, 45, 46] (by decide +kernel) (by decide +kernel)
set_option maxRecDepth 20000 in
theorem gX1_lieOver_X1_areShared : GoodIn wsX1_lieOver (wsV RX1 181 RX1 yX1_areShared wsX1_areShared) := goodIn_app (goodIn_of _ (by decide +kernel)) ggX1_lieOver_X1_areShared
theorem dX1_lieOver_0 : decode cX1_lieOver 0 = .ok (.iconst 0, 1) := by decide +kernel
theorem dX1_lieOver_1 : decode cX1_lieOver 1 = .ok (.istore 4, 2) := by decide +kernel
theorem dX1_lieOver_3 : decode cX1_lieOver 3 = .ok (.iload 4, 2) := by decide +kernel
theorem dX1_lieOver_5 : decode cX1_lieOver 5 = .ok (.aload_n 2, 1) := by decide +kernel
theorem dX1_lieOver_6 : decode cX1_lieOver 6 = .ok (.getfield 123, 3) := by decide +kernel
theorem dX1_lieOver_9 : decode cX1_lieOver 9 = .ok (.if_icmp .ge 108, 3) := by decide +kernel
theorem dX1_lieOver_12 : decode cX1_lieOver 12 = .ok (.aload_n 2, 1) := by decide +kernel
theorem dX1_lieOver_13 : decode cX1_lieOver 13 = .ok (.getfield 162, 3) := by decide +kernel
theorem dX1_lieOver_16 : decode cX1_lieOver 16 = .ok (.iload 4, 2) := by decide +kernel
theorem dX1_lieOver_18 : decode cX1_lieOver 18 = .ok (.iaload, 1) := by decide +kernel
theorem dX1_lieOver_19 : decode cX1_lieOver 19 = .ok (.istore 5, 2) := by decide +kernel
theorem dX1_lieOver_21 : decode cX1_lieOver 21 = .ok (.iconst 0, 1) := by decide +kernel
theorem dX1_lieOver_22 : decode cX1_lieOver 22 = .ok (.istore 6, 2) := by decide +kernel
theorem dX1_lieOver_24 : decode cX1_lieOver 24 = .ok (.iload 6, 2) := by decide +kernel
theorem dX1_lieOver_26 : decode cX1_lieOver 26 = .ok (.aload_n 3, 1) := by decide +kernel
theorem dX1_lieOver_27 : decode cX1_lieOver 27 = .ok (.getfield 123, 3) := by decide +kernel
theorem dX1_lieOver_30 : decode cX1_lieOver 30 = .ok (.if_icmp .ge 81, 3) := by decide +kernel
theorem dX1_lieOver_33 : decode cX1_lieOver 33 = .ok (.aload_n 3, 1) := by decide +kernel
theorem dX1_lieOver_34 : decode cX1_lieOver 34 = .ok (.getfield 162, 3) := by decide +kernel
theorem dX1_lieOver_37 : decode cX1_lieOver 37 = .ok (.iload 6, 2) := by decide +kernel
theorem dX1_lieOver_39 : decode cX1_lieOver 39 = .ok (.iaload, 1) := by decide +kernel
theorem dX1_lieOver_40 : decode cX1_lieOver 40 = .ok (.istore 7, 2) := by decide +kernel
theorem dX1_lieOver_42 : decode cX1_lieOver 42 = .ok (.aload_n 2, 1) := by decide +kernel
theorem dX1_lieOver_43 : decode cX1_lieOver 43 = .ok (.getfield 165, 3) := by decide +kernel
theorem dX1_lieOver_46 : decode cX1_lieOver 46 = .ok (.aload_n 0, 1) := by decide +kernel
theorem dX1_lieOver_47 : decode cX1_lieOver 47 = .ok (.getfield 22, 3) := by decide +kernel
theorem dX1_lieOver_50 : decode cX1_lieOver 50 = .ok (.iload 5, 2) := by decide +kernel
theorem dX1_lieOver_52 : decode cX1_lieOver 52 = .ok (.iaload, 1) := by decide +kernel
theorem dX1_lieOver_53 : decode cX1_lieOver 53 = .ok (.iadd, 1) := by decide +kernel
theorem dX1_lieOver_54 : decode cX1_lieOver 54 = .ok (.aload_n 3, 1) := by decide +kernel
theorem dX1_lieOver_55 : decode cX1_lieOver 55 = .ok (.getfield 165, 3) := by decide +kernel
theorem dX1_lieOver_58 : decode cX1_lieOver 58 = .ok (.aload_n 0, 1) := by decide +kernel
theorem dX1_lieOver_59 : decode cX1_lieOver 59 = .ok (.getfield 22, 3) := by decide +kernel
theorem dX1_lieOver_62 : decode cX1_lieOver 62 = .ok (.iload 7, 2) := by decide +kernel
theorem dX1_lieOver_64 : decode cX1_lieOver 64 = .ok (.iaload, 1) := by decide +kernel
theorem dX1_lieOver_65 : decode cX1_lieOver 65 = .ok (.iadd, 1) := by decide +kernel
theorem dX1_lieOver_66 : decode cX1_lieOver 66 = .ok (.if_icmp .ne 39, 3) := by decide +kernel
theorem dX1_lieOver_69 : decode cX1_lieOver 69 = .ok (.aload_n 0, 1) := by decide +kernel
theorem dX1_lieOver_70 : decode cX1_lieOver 70 = .ok (.getfield 15, 3) := by decide +kernel
theorem dX1_lieOver_73 : decode cX1_lieOver 73 = .ok (.iload 5, 2) := by decide +kernel
theorem dX1_lieOver_75 : decode cX1_lieOver 75 = .ok (.iaload, 1) := by decide +kernel
theorem dX1_lieOver_76 : decode cX1_lieOver 76 = .ok (.aload_n 0, 1) := by decide +kernel
theorem dX1_lieOver_77 : decode cX1_lieOver 77 = .ok (.getfield 15, 3) := by decide +kernel
theorem dX1_lieOver_80 : decode cX1_lieOver 80 = .ok (.iload 7, 2) := by decide +kernel
theorem dX1_lieOver_82 : decode cX1_lieOver 82 = .ok (.iaload, 1) := by decide +kernel
theorem dX1_lieOver_83 : decode cX1_lieOver 83 = .ok (.isub, 1) := by decide +kernel
theorem dX1_lieOver_84 : decode cX1_lieOver 84 = .ok (.invokestatic 175, 3) := by decide +kernel
theorem dX1_lieOver_87 : decode cX1_lieOver 87 = .ok (.iconst 1, 1) := by decide +kernel
theorem dX1_lieOver_88 : decode cX1_lieOver 88 = .ok (.if_icmp .gt 17, 3) := by decide +kernel
theorem dX1_lieOver_91 : decode cX1_lieOver 91 = .ok (.aload_n 0, 1) := by decide +kernel
theorem dX1_lieOver_92 : decode cX1_lieOver 92 = .ok (.aload_n 1, 1) := by decide +kernel
theorem dX1_lieOver_93 : decode cX1_lieOver 93 = .ok (.iload 5, 2) := by decide +kernel
theorem dX1_lieOver_95 : decode cX1_lieOver 95 = .ok (.iload 7, 2) := by decide +kernel
theorem dX1_lieOver_97 : decode cX1_lieOver 97 = .ok (.invokevirtual 181, 3) := by decide +kernel
theorem dX1_lieOver_100 : decode cX1_lieOver 100 = .ok (.ifCond .ne 5, 3) := by decide +kernel
theorem dX1_lieOver_103 : decode cX1_lieOver 103 = .ok (.iconst 1, 1) := by decide +kernel
theorem dX1_lieOver_104 : decode cX1_lieOver 104 = .ok (.ireturn, 1) := by decide +kernel
theorem dX1_lieOver_105 : decode cX1_lieOver 105 = .ok (.iinc 6 1, 3) := by decide +kernel
theorem dX1_lieOver_108 : decode cX1_lieOver 108 = .ok (.goto (-84), 3) := by decide +kernel
theorem dX1_lieOver_111 : decode cX1_lieOver 111 = .ok (.iinc 4 1, 3) := by decide +kernel
theorem dX1_lieOver_114 : decode cX1_lieOver 114 = .ok (.goto (-111), 3) := by decide +kernel
theorem dX1_lieOver_117 : decode cX1_lieOver 117 = .ok (.iconst 0, 1) := by decide +kernel
theorem dX1_lieOver_118 : decode cX1_lieOver 118 = .ok (.ireturn, 1) := by decide +kernel
theorem dX1_areShared_0 : decode cX1_areShared 0 = .ok (.aload_n 0, 1) := by decide +kernel
theorem dX1_areShared_1 : decode cX1_areShared 1 = .ok (.getfield 15, 3) := by decide +kernel
theorem dX1_areShared_4 : decode cX1_areShared 4 = .ok (.iload_n 2, 1) := by decide +kernel
theorem dX1_areShared_5 : decode cX1_areShared 5 = .ok (.iaload, 1) := by decide +kernel
theorem dX1_areShared_6 : decode cX1_areShared 6 = .ok (.aload_n 0, 1) := by decide +kernel
theorem dX1_areShared_7 : decode cX1_areShared 7 = .ok (.getfield 15, 3) := by decide +kernel
theorem dX1_areShared_10 : decode cX1_areShared 10 = .ok (.iload_n 3, 1) := by decide +kernel
theorem dX1_areShared_11 : decode cX1_areShared 11 = .ok (.iaload, 1) := by decide +kernel
theorem dX1_areShared_12 : decode cX1_areShared 12 = .ok (.if_icmp .ne 52, 3) := by decide +kernel
theorem dX1_areShared_15 : decode cX1_areShared 15 = .ok (.aload_n 1, 1) := by decide +kernel
theorem dX1_areShared_16 : decode cX1_areShared 16 = .ok (.getfield 146, 3) := by decide +kernel
theorem dX1_areShared_19 : decode cX1_areShared 19 = .ok (.iload_n 2, 1) := by decide +kernel
theorem dX1_areShared_20 : decode cX1_areShared 20 = .ok (.iaload, 1) := by decide +kernel
theorem dX1_areShared_21 : decode cX1_areShared 21 = .ok (.aload_n 1, 1) := by decide +kernel
theorem dX1_areShared_22 : decode cX1_areShared 22 = .ok (.getfield 146, 3) := by decide +kernel
theorem dX1_areShared_25 : decode cX1_areShared 25 = .ok (.iload_n 3, 1) := by decide +kernel
theorem dX1_areShared_26 : decode cX1_areShared 26 = .ok (.iaload, 1) := by decide +kernel
theorem dX1_areShared_27 : decode cX1_areShared 27 = .ok (.if_icmp .ne 37, 3) := by decide +kernel
theorem dX1_areShared_30 : decode cX1_areShared 30 = .ok (.aload_n 1, 1) := by decide +kernel
theorem dX1_areShared_31 : decode cX1_areShared 31 = .ok (.getfield 130, 3) := by decide +kernel
theorem dX1_areShared_34 : decode cX1_areShared 34 = .ok (.iload_n 2, 1) := by decide +kernel
theorem dX1_areShared_35 : decode cX1_areShared 35 = .ok (.iaload, 1) := by decide +kernel
theorem dX1_areShared_36 : decode cX1_areShared 36 = .ok (.aload_n 1, 1) := by decide +kernel
theorem dX1_areShared_37 : decode cX1_areShared 37 = .ok (.getfield 130, 3) := by decide +kernel
theorem dX1_areShared_40 : decode cX1_areShared 40 = .ok (.iload_n 3, 1) := by decide +kernel
theorem dX1_areShared_41 : decode cX1_areShared 41 = .ok (.iaload, 1) := by decide +kernel
theorem dX1_areShared_42 : decode cX1_areShared 42 = .ok (.if_icmp .ne 22, 3) := by decide +kernel
theorem dX1_areShared_45 : decode cX1_areShared 45 = .ok (.aload_n 0, 1) := by decide +kernel
theorem dX1_areShared_46 : decode cX1_areShared 46 = .ok (.getfield 19, 3) := by decide +kernel
theorem dX1_areShared_49 : decode cX1_areShared 49 = .ok (.iload_n 2, 1) := by decide +kernel
theorem dX1_areShared_50 : decode cX1_areShared 50 = .ok (.iaload, 1) := by decide +kernel
theorem dX1_areShared_51 : decode cX1_areShared 51 = .ok (.aload_n 0, 1) := by decide +kernel
theorem dX1_areShared_52 : decode cX1_areShared 52 = .ok (.getfield 19, 3) := by decide +kernel
theorem dX1_areShared_55 : decode cX1_areShared 55 = .ok (.iload_n 3, 1) := by decide +kernel
theorem dX1_areShared_56 : decode cX1_areShared 56 = .ok (.iaload, 1) := by decide +kernel
theorem dX1_areShared_57 : decode cX1_areShared 57 = .ok (.if_icmp .eq 7, 3) := by decide +kernel
theorem dX1_areShared_60 : decode cX1_areShared 60 = .ok (.iconst 1, 1) := by decide +kernel
theorem dX1_areShared_61 : decode cX1_areShared 61 = .ok (.goto 4, 3) := by decide +kernel
theorem dX1_areShared_64 : decode cX1_areShared 64 = .ok (.iconst 0, 1) := by decide +kernel
theorem dX1_areShared_65 : decode cX1_areShared 65 = .ok (.ireturn, 1) := by decide +kernel
set_option maxRecDepth 20000 in
theorem ggX1_keep_X0_reachUp : GoodIn wsX1_keep wsX0_reachUp := goodIn_r _ [20, 21, 22, 23, 24, 8, 9, 10, 31, 32, 33, 34, 35, 36, 37] (by decide +kernel) (by decide +kernel)
set_option maxRecDepth 20000 in
theorem gX1_keep_X0_reachUp : GoodIn wsX1_keep (wsV RX1 185 RX0 yX0_reachUp wsX0_reachUp) := goodIn_app (goodIn_of _ (by decide +kernel)) ggX1_keep_X0_reachUp
set_option maxRecDepth 20000 in
theorem ggX1_keep_X0_reachDown : GoodIn wsX1_keep wsX0_reachDown := goodIn_r _ [28, 21, 22, 29, 30, 13, 9, 14, 31, 32, 33, 34, 35, 36, 37] (by decide +kernel) (by decide +kernel)
set_option maxRecDepth 20000 in
theorem gX1_keep_X0_reachDown : GoodIn wsX1_keep (wsV RX1 192 RX0 yX0_reachDown wsX0_reachDown) := goodIn_app (goodIn_of _ (by decide +kernel)) ggX1_keep_X0_reachDown
theorem dX1_keep_0 : decode cX1_keep 0 = .ok (.iconst 0, 1) := by decide +kernel
theorem dX1_keep_1 : decode cX1_keep 1 = .ok (.istore_n 3, 1) := by decide +kernel
theorem dX1_keep_2 : decode cX1_keep 2 = .ok (.iload_n 3, 1) := by decide +kernel
theorem dX1_keep_3 : decode cX1_keep 3 = .ok (.aload_n 1, 1) := by decide +kernel
theorem dX1_keep_4 : decode cX1_keep 4 = .ok (.getfield 123, 3) := by decide +kernel
theorem dX1_keep_7 : decode cX1_keep 7 = .ok (.if_icmp .ge 39, 3) := by decide +kernel
theorem dX1_keep_10 : decode cX1_keep 10 = .ok (.aload_n 0, 1) := by decide +kernel
theorem dX1_keep_11 : decode cX1_keep 11 = .ok (.getfield 25, 3) := by decide +kernel
theorem dX1_keep_14 : decode cX1_keep 14 = .ok (.aload_n 1, 1) := by decide +kernel
theorem dX1_keep_15 : decode cX1_keep 15 = .ok (.getfield 162, 3) := by decide +kernel
theorem dX1_keep_18 : decode cX1_keep 18 = .ok (.iload_n 3, 1) := by decide +kernel
theorem dX1_keep_19 : decode cX1_keep 19 = .ok (.iaload, 1) := by decide +kernel
theorem dX1_keep_20 : decode cX1_keep 20 = .ok (.aload_n 1, 1) := by decide +kernel
theorem dX1_keep_21 : decode cX1_keep 21 = .ok (.getfield 165, 3) := by decide +kernel
theorem dX1_keep_24 : decode cX1_keep 24 = .ok (.iastore, 1) := by decide +kernel
theorem dX1_keep_25 : decode cX1_keep 25 = .ok (.aload_n 0, 1) := by decide +kernel
theorem dX1_keep_26 : decode cX1_keep 26 = .ok (.getfield 28, 3) := by decide +kernel
theorem dX1_keep_29 : decode cX1_keep 29 = .ok (.aload_n 1, 1) := by decide +kernel
theorem dX1_keep_30 : decode cX1_keep 30 = .ok (.getfield 162, 3) := by decide +kernel
theorem dX1_keep_33 : decode cX1_keep 33 = .ok (.iload_n 3, 1) := by decide +kernel
theorem dX1_keep_34 : decode cX1_keep 34 = .ok (.iaload, 1) := by decide +kernel
theorem dX1_keep_35 : decode cX1_keep 35 = .ok (.aload_n 1, 1) := by decide +kernel
theorem dX1_keep_36 : decode cX1_keep 36 = .ok (.getfield 123, 3) := by decide +kernel
theorem dX1_keep_39 : decode cX1_keep 39 = .ok (.iastore, 1) := by decide +kernel
theorem dX1_keep_40 : decode cX1_keep 40 = .ok (.iinc 3 1, 3) := by decide +kernel
theorem dX1_keep_43 : decode cX1_keep 43 = .ok (.goto (-41), 3) := by decide +kernel
theorem dX1_keep_46 : decode cX1_keep 46 = .ok (.aload_n 0, 1) := by decide +kernel
theorem dX1_keep_47 : decode cX1_keep 47 = .ok (.getfield 34, 3) := by decide +kernel
theorem dX1_keep_50 : decode cX1_keep 50 = .ok (.iload_n 2, 1) := by decide +kernel
theorem dX1_keep_51 : decode cX1_keep 51 = .ok (.aload_n 0, 1) := by decide +kernel
theorem dX1_keep_52 : decode cX1_keep 52 = .ok (.getfield 34, 3) := by decide +kernel
theorem dX1_keep_55 : decode cX1_keep 55 = .ok (.iload_n 2, 1) := by decide +kernel
theorem dX1_keep_56 : decode cX1_keep 56 = .ok (.iaload, 1) := by decide +kernel
theorem dX1_keep_57 : decode cX1_keep 57 = .ok (.aload_n 1, 1) := by decide +kernel
theorem dX1_keep_58 : decode cX1_keep 58 = .ok (.invokevirtual 185, 3) := by decide +kernel
theorem dX1_keep_61 : decode cX1_keep 61 = .ok (.invokestatic 189, 3) := by decide +kernel
theorem dX1_keep_64 : decode cX1_keep 64 = .ok (.iastore, 1) := by decide +kernel
theorem dX1_keep_65 : decode cX1_keep 65 = .ok (.aload_n 0, 1) := by decide +kernel
theorem dX1_keep_66 : decode cX1_keep 66 = .ok (.getfield 37, 3) := by decide +kernel
theorem dX1_keep_69 : decode cX1_keep 69 = .ok (.iload_n 2, 1) := by decide +kernel
theorem dX1_keep_70 : decode cX1_keep 70 = .ok (.aload_n 0, 1) := by decide +kernel
theorem dX1_keep_71 : decode cX1_keep 71 = .ok (.getfield 37, 3) := by decide +kernel
theorem dX1_keep_74 : decode cX1_keep 74 = .ok (.iload_n 2, 1) := by decide +kernel
theorem dX1_keep_75 : decode cX1_keep 75 = .ok (.iaload, 1) := by decide +kernel
theorem dX1_keep_76 : decode cX1_keep 76 = .ok (.aload_n 1, 1) := by decide +kernel
theorem dX1_keep_77 : decode cX1_keep 77 = .ok (.invokevirtual 192, 3) := by decide +kernel
theorem dX1_keep_80 : decode cX1_keep 80 = .ok (.invokestatic 195, 3) := by decide +kernel
theorem dX1_keep_83 : decode cX1_keep 83 = .ok (.iastore, 1) := by decide +kernel
theorem dX1_keep_84 : decode cX1_keep 84 = .ok (.aload_n 0, 1) := by decide +kernel
theorem dX1_keep_85 : decode cX1_keep 85 = .ok (.getfield 49, 3) := by decide +kernel
theorem dX1_keep_88 : decode cX1_keep 88 = .ok (.iload_n 2, 1) := by decide +kernel
theorem dX1_keep_89 : decode cX1_keep 89 = .ok (.aload_n 0, 1) := by decide +kernel
theorem dX1_keep_90 : decode cX1_keep 90 = .ok (.getfield 49, 3) := by decide +kernel
theorem dX1_keep_93 : decode cX1_keep 93 = .ok (.iload_n 2, 1) := by decide +kernel
theorem dX1_keep_94 : decode cX1_keep 94 = .ok (.iaload, 1) := by decide +kernel
theorem dX1_keep_95 : decode cX1_keep 95 = .ok (.aload_n 1, 1) := by decide +kernel
theorem dX1_keep_96 : decode cX1_keep 96 = .ok (.getfield 165, 3) := by decide +kernel
theorem dX1_keep_99 : decode cX1_keep 99 = .ok (.invokestatic 189, 3) := by decide +kernel
theorem dX1_keep_102 : decode cX1_keep 102 = .ok (.iastore, 1) := by decide +kernel
theorem dX1_keep_103 : decode cX1_keep 103 = .ok (.return_, 1) := by decide +kernel
theorem dX2_init_0 : decode cX2_init 0 = .ok (.aload_n 0, 1) := by decide +kernel
theorem dX2_init_1 : decode cX2_init 1 = .ok (.invokespecial 3, 3) := by decide +kernel
theorem dX2_init_4 : decode cX2_init 4 = .ok (.aload_n 0, 1) := by decide +kernel
theorem dX2_init_5 : decode cX2_init 5 = .ok (.bipush 60, 2) := by decide +kernel
theorem dX2_init_7 : decode cX2_init 7 = .ok (.newarray .int, 2) := by decide +kernel
theorem dX2_init_9 : decode cX2_init 9 = .ok (.putfield 9, 3) := by decide +kernel
theorem dX2_init_12 : decode cX2_init 12 = .ok (.aload_n 0, 1) := by decide +kernel
theorem dX2_init_13 : decode cX2_init 13 = .ok (.bipush 60, 2) := by decide +kernel
theorem dX2_init_15 : decode cX2_init 15 = .ok (.newarray .int, 2) := by decide +kernel
theorem dX2_init_17 : decode cX2_init 17 = .ok (.putfield 15, 3) := by decide +kernel
theorem dX2_init_20 : decode cX2_init 20 = .ok (.aload_n 0, 1) := by decide +kernel
theorem dX2_init_21 : decode cX2_init 21 = .ok (.bipush 60, 2) := by decide +kernel
theorem dX2_init_23 : decode cX2_init 23 = .ok (.newarray .int, 2) := by decide +kernel
theorem dX2_init_25 : decode cX2_init 25 = .ok (.putfield 18, 3) := by decide +kernel
theorem dX2_init_28 : decode cX2_init 28 = .ok (.aload_n 0, 1) := by decide +kernel
theorem dX2_init_29 : decode cX2_init 29 = .ok (.bipush 60, 2) := by decide +kernel
theorem dX2_init_31 : decode cX2_init 31 = .ok (.newarray .int, 2) := by decide +kernel
theorem dX2_init_33 : decode cX2_init 33 = .ok (.putfield 21, 3) := by decide +kernel
theorem dX2_init_36 : decode cX2_init 36 = .ok (.aload_n 0, 1) := by decide +kernel
theorem dX2_init_37 : decode cX2_init 37 = .ok (.bipush 60, 2) := by decide +kernel
theorem dX2_init_39 : decode cX2_init 39 = .ok (.newarray .int, 2) := by decide +kernel
theorem dX2_init_41 : decode cX2_init 41 = .ok (.putfield 24, 3) := by decide +kernel
theorem dX2_init_44 : decode cX2_init 44 = .ok (.aload_n 0, 1) := by decide +kernel
theorem dX2_init_45 : decode cX2_init 45 = .ok (.bipush 60, 2) := by decide +kernel
theorem dX2_init_47 : decode cX2_init 47 = .ok (.newarray .int, 2) := by decide +kernel
theorem dX2_init_49 : decode cX2_init 49 = .ok (.putfield 27, 3) := by decide +kernel
theorem dX2_init_52 : decode cX2_init 52 = .ok (.aload_n 0, 1) := by decide +kernel
theorem dX2_init_53 : decode cX2_init 53 = .ok (.iconst 0, 1) := by decide +kernel
theorem dX2_init_54 : decode cX2_init 54 = .ok (.putfield 30, 3) := by decide +kernel
theorem dX2_init_57 : decode cX2_init 57 = .ok (.return_, 1) := by decide +kernel
set_option maxRecDepth 20000 in
theorem ggX2_has_X5_within : GoodIn wsX2_has wsX5_within := goodIn_r _ [4] (by decide +kernel) (by decide +kernel)
set_option maxRecDepth 20000 in
theorem gX2_has_X5_within_n34 : GoodIn wsX2_has (wsX5_within) := ggX2_has_X5_within
theorem dX2_has_0 : decode cX2_has 0 = .ok (.iload_n 1, 1) := by decide +kernel
theorem dX2_has_1 : decode cX2_has 1 = .ok (.iconst 0, 1) := by decide +kernel
theorem dX2_has_2 : decode cX2_has 2 = .ok (.aload_n 0, 1) := by decide +kernel
theorem dX2_has_3 : decode cX2_has 3 = .ok (.getfield 30, 3) := by decide +kernel
theorem dX2_has_6 : decode cX2_has 6 = .ok (.iconst 1, 1) := by decide +kernel
theorem dX2_has_7 : decode cX2_has 7 = .ok (.isub, 1) := by decide +kernel
theorem dX2_has_8 : decode cX2_has 8 = .ok (.invokestatic 34, 3) := by decide +kernel
theorem dX2_has_11 : decode cX2_has 11 = .ok (.ireturn, 1) := by decide +kernel
theorem dX2_anyOn_0 : decode cX2_anyOn 0 = .ok (.iconst 0, 1) := by decide +kernel
theorem dX2_anyOn_1 : decode cX2_anyOn 1 = .ok (.istore_n 2, 1) := by decide +kernel
theorem dX2_anyOn_2 : decode cX2_anyOn 2 = .ok (.iload_n 2, 1) := by decide +kernel
theorem dX2_anyOn_3 : decode cX2_anyOn 3 = .ok (.aload_n 0, 1) := by decide +kernel
theorem dX2_anyOn_4 : decode cX2_anyOn 4 = .ok (.getfield 30, 3) := by decide +kernel
theorem dX2_anyOn_7 : decode cX2_anyOn 7 = .ok (.if_icmp .ge 21, 3) := by decide +kernel
theorem dX2_anyOn_10 : decode cX2_anyOn 10 = .ok (.aload_n 0, 1) := by decide +kernel
theorem dX2_anyOn_11 : decode cX2_anyOn 11 = .ok (.getfield 9, 3) := by decide +kernel
theorem dX2_anyOn_14 : decode cX2_anyOn 14 = .ok (.iload_n 2, 1) := by decide +kernel
theorem dX2_anyOn_15 : decode cX2_anyOn 15 = .ok (.iaload, 1) := by decide +kernel
theorem dX2_anyOn_16 : decode cX2_anyOn 16 = .ok (.iload_n 1, 1) := by decide +kernel
theorem dX2_anyOn_17 : decode cX2_anyOn 17 = .ok (.if_icmp .ne 5, 3) := by decide +kernel
theorem dX2_anyOn_20 : decode cX2_anyOn 20 = .ok (.iconst 1, 1) := by decide +kernel
theorem dX2_anyOn_21 : decode cX2_anyOn 21 = .ok (.ireturn, 1) := by decide +kernel
theorem dX2_anyOn_22 : decode cX2_anyOn 22 = .ok (.iinc 2 1, 3) := by decide +kernel
theorem dX2_anyOn_25 : decode cX2_anyOn 25 = .ok (.goto (-23), 3) := by decide +kernel
theorem dX2_anyOn_28 : decode cX2_anyOn 28 = .ok (.iconst 0, 1) := by decide +kernel
theorem dX2_anyOn_29 : decode cX2_anyOn 29 = .ok (.ireturn, 1) := by decide +kernel
theorem dX2_together_0 : decode cX2_together 0 = .ok (.aload_n 0, 1) := by decide +kernel
theorem dX2_together_1 : decode cX2_together 1 = .ok (.getfield 9, 3) := by decide +kernel
theorem dX2_together_4 : decode cX2_together 4 = .ok (.iload_n 1, 1) := by decide +kernel
theorem dX2_together_5 : decode cX2_together 5 = .ok (.iaload, 1) := by decide +kernel
theorem dX2_together_6 : decode cX2_together 6 = .ok (.aload_n 0, 1) := by decide +kernel
theorem dX2_together_7 : decode cX2_together 7 = .ok (.getfield 9, 3) := by decide +kernel
theorem dX2_together_10 : decode cX2_together 10 = .ok (.iload_n 2, 1) := by decide +kernel
theorem dX2_together_11 : decode cX2_together 11 = .ok (.iaload, 1) := by decide +kernel
theorem dX2_together_12 : decode cX2_together 12 = .ok (.if_icmp .ne 22, 3) := by decide +kernel
theorem dX2_together_15 : decode cX2_together 15 = .ok (.aload_n 0, 1) := by decide +kernel
theorem dX2_together_16 : decode cX2_together 16 = .ok (.getfield 18, 3) := by decide +kernel
theorem dX2_together_19 : decode cX2_together 19 = .ok (.iload_n 1, 1) := by decide +kernel
theorem dX2_together_20 : decode cX2_together 20 = .ok (.iaload, 1) := by decide +kernel
theorem dX2_together_21 : decode cX2_together 21 = .ok (.aload_n 0, 1) := by decide +kernel
theorem dX2_together_22 : decode cX2_together 22 = .ok (.getfield 18, 3) := by decide +kernel
theorem dX2_together_25 : decode cX2_together 25 = .ok (.iload_n 2, 1) := by decide +kernel
theorem dX2_together_26 : decode cX2_together 26 = .ok (.iaload, 1) := by decide +kernel
theorem dX2_together_27 : decode cX2_together 27 = .ok (.if_icmp .ne 7, 3) := by decide +kernel
theorem dX2_together_30 : decode cX2_together 30 = .ok (.iconst 1, 1) := by decide +kernel
theorem dX2_together_31 : decode cX2_together 31 = .ok (.goto 4, 3) := by decide +kernel
theorem dX2_together_34 : decode cX2_together 34 = .ok (.iconst 0, 1) := by decide +kernel
theorem dX2_together_35 : decode cX2_together 35 = .ok (.ireturn, 1) := by decide +kernel
theorem dX2_add_0 : decode cX2_add 0 = .ok (.aload_n 0, 1) := by decide +kernel
theorem dX2_add_1 : decode cX2_add 1 = .ok (.getfield 9, 3) := by decide +kernel
theorem dX2_add_4 : decode cX2_add 4 = .ok (.aload_n 0, 1) := by decide +kernel
theorem dX2_add_5 : decode cX2_add 5 = .ok (.getfield 30, 3) := by decide +kernel
theorem dX2_add_8 : decode cX2_add 8 = .ok (.iload_n 1, 1) := by decide +kernel
theorem dX2_add_9 : decode cX2_add 9 = .ok (.iastore, 1) := by decide +kernel
theorem dX2_add_10 : decode cX2_add 10 = .ok (.aload_n 0, 1) := by decide +kernel
theorem dX2_add_11 : decode cX2_add 11 = .ok (.getfield 15, 3) := by decide +kernel
theorem dX2_add_14 : decode cX2_add 14 = .ok (.aload_n 0, 1) := by decide +kernel
theorem dX2_add_15 : decode cX2_add 15 = .ok (.getfield 30, 3) := by decide +kernel
theorem dX2_add_18 : decode cX2_add 18 = .ok (.iload_n 2, 1) := by decide +kernel
theorem dX2_add_19 : decode cX2_add 19 = .ok (.iastore, 1) := by decide +kernel
theorem dX2_add_20 : decode cX2_add 20 = .ok (.aload_n 0, 1) := by decide +kernel
theorem dX2_add_21 : decode cX2_add 21 = .ok (.getfield 18, 3) := by decide +kernel
theorem dX2_add_24 : decode cX2_add 24 = .ok (.aload_n 0, 1) := by decide +kernel
theorem dX2_add_25 : decode cX2_add 25 = .ok (.getfield 30, 3) := by decide +kernel
theorem dX2_add_28 : decode cX2_add 28 = .ok (.iload_n 3, 1) := by decide +kernel
theorem dX2_add_29 : decode cX2_add 29 = .ok (.iastore, 1) := by decide +kernel
theorem dX2_add_30 : decode cX2_add 30 = .ok (.aload_n 0, 1) := by decide +kernel
theorem dX2_add_31 : decode cX2_add 31 = .ok (.getfield 21, 3) := by decide +kernel
theorem dX2_add_34 : decode cX2_add 34 = .ok (.aload_n 0, 1) := by decide +kernel
theorem dX2_add_35 : decode cX2_add 35 = .ok (.getfield 30, 3) := by decide +kernel
theorem dX2_add_38 : decode cX2_add 38 = .ok (.iload 4, 2) := by decide +kernel
theorem dX2_add_40 : decode cX2_add 40 = .ok (.iastore, 1) := by decide +kernel
theorem dX2_add_41 : decode cX2_add 41 = .ok (.aload_n 0, 1) := by decide +kernel
theorem dX2_add_42 : decode cX2_add 42 = .ok (.getfield 24, 3) := by decide +kernel
theorem dX2_add_45 : decode cX2_add 45 = .ok (.aload_n 0, 1) := by decide +kernel
theorem dX2_add_46 : decode cX2_add 46 = .ok (.getfield 30, 3) := by decide +kernel
theorem dX2_add_49 : decode cX2_add 49 = .ok (.iload 5, 2) := by decide +kernel
theorem dX2_add_51 : decode cX2_add 51 = .ok (.iastore, 1) := by decide +kernel
theorem dX2_add_52 : decode cX2_add 52 = .ok (.aload_n 0, 1) := by decide +kernel
theorem dX2_add_53 : decode cX2_add 53 = .ok (.getfield 27, 3) := by decide +kernel
theorem dX2_add_56 : decode cX2_add 56 = .ok (.aload_n 0, 1) := by decide +kernel
theorem dX2_add_57 : decode cX2_add 57 = .ok (.getfield 30, 3) := by decide +kernel
theorem dX2_add_60 : decode cX2_add 60 = .ok (.iload 6, 2) := by decide +kernel
theorem dX2_add_62 : decode cX2_add 62 = .ok (.iastore, 1) := by decide +kernel
theorem dX2_add_63 : decode cX2_add 63 = .ok (.aload_n 0, 1) := by decide +kernel
theorem dX2_add_64 : decode cX2_add 64 = .ok (.dup, 1) := by decide +kernel
theorem dX2_add_65 : decode cX2_add 65 = .ok (.getfield 30, 3) := by decide +kernel
theorem dX2_add_68 : decode cX2_add 68 = .ok (.iconst 1, 1) := by decide +kernel
theorem dX2_add_69 : decode cX2_add 69 = .ok (.iadd, 1) := by decide +kernel
theorem dX2_add_70 : decode cX2_add 70 = .ok (.putfield 30, 3) := by decide +kernel
theorem dX2_add_73 : decode cX2_add 73 = .ok (.return_, 1) := by decide +kernel
theorem dX2_remove_0 : decode cX2_remove 0 = .ok (.iload_n 1, 1) := by decide +kernel
theorem dX2_remove_1 : decode cX2_remove 1 = .ok (.istore_n 2, 1) := by decide +kernel
theorem dX2_remove_2 : decode cX2_remove 2 = .ok (.iload_n 2, 1) := by decide +kernel
theorem dX2_remove_3 : decode cX2_remove 3 = .ok (.iconst 1, 1) := by decide +kernel
theorem dX2_remove_4 : decode cX2_remove 4 = .ok (.iadd, 1) := by decide +kernel
theorem dX2_remove_5 : decode cX2_remove 5 = .ok (.aload_n 0, 1) := by decide +kernel
theorem dX2_remove_6 : decode cX2_remove 6 = .ok (.getfield 30, 3) := by decide +kernel
theorem dX2_remove_9 : decode cX2_remove 9 = .ok (.if_icmp .ge 93, 3) := by decide +kernel
theorem dX2_remove_12 : decode cX2_remove 12 = .ok (.aload_n 0, 1) := by decide +kernel
theorem dX2_remove_13 : decode cX2_remove 13 = .ok (.getfield 9, 3) := by decide +kernel
theorem dX2_remove_16 : decode cX2_remove 16 = .ok (.iload_n 2, 1) := by decide +kernel
theorem dX2_remove_17 : decode cX2_remove 17 = .ok (.aload_n 0, 1) := by decide +kernel
theorem dX2_remove_18 : decode cX2_remove 18 = .ok (.getfield 9, 3) := by decide +kernel
theorem dX2_remove_21 : decode cX2_remove 21 = .ok (.iload_n 2, 1) := by decide +kernel
theorem dX2_remove_22 : decode cX2_remove 22 = .ok (.iconst 1, 1) := by decide +kernel
theorem dX2_remove_23 : decode cX2_remove 23 = .ok (.iadd, 1) := by decide +kernel
theorem dX2_remove_24 : decode cX2_remove 24 = .ok (.iaload, 1) := by decide +kernel
theorem dX2_remove_25 : decode cX2_remove 25 = .ok (.iastore, 1) := by decide +kernel
theorem dX2_remove_26 : decode cX2_remove 26 = .ok (.aload_n 0, 1) := by decide +kernel
theorem dX2_remove_27 : decode cX2_remove 27 = .ok (.getfield 15, 3) := by decide +kernel
theorem dX2_remove_30 : decode cX2_remove 30 = .ok (.iload_n 2, 1) := by decide +kernel
theorem dX2_remove_31 : decode cX2_remove 31 = .ok (.aload_n 0, 1) := by decide +kernel
theorem dX2_remove_32 : decode cX2_remove 32 = .ok (.getfield 15, 3) := by decide +kernel
theorem dX2_remove_35 : decode cX2_remove 35 = .ok (.iload_n 2, 1) := by decide +kernel
theorem dX2_remove_36 : decode cX2_remove 36 = .ok (.iconst 1, 1) := by decide +kernel
theorem dX2_remove_37 : decode cX2_remove 37 = .ok (.iadd, 1) := by decide +kernel
theorem dX2_remove_38 : decode cX2_remove 38 = .ok (.iaload, 1) := by decide +kernel
theorem dX2_remove_39 : decode cX2_remove 39 = .ok (.iastore, 1) := by decide +kernel
theorem dX2_remove_40 : decode cX2_remove 40 = .ok (.aload_n 0, 1) := by decide +kernel
theorem dX2_remove_41 : decode cX2_remove 41 = .ok (.getfield 18, 3) := by decide +kernel
theorem dX2_remove_44 : decode cX2_remove 44 = .ok (.iload_n 2, 1) := by decide +kernel
theorem dX2_remove_45 : decode cX2_remove 45 = .ok (.aload_n 0, 1) := by decide +kernel
theorem dX2_remove_46 : decode cX2_remove 46 = .ok (.getfield 18, 3) := by decide +kernel
theorem dX2_remove_49 : decode cX2_remove 49 = .ok (.iload_n 2, 1) := by decide +kernel
theorem dX2_remove_50 : decode cX2_remove 50 = .ok (.iconst 1, 1) := by decide +kernel
theorem dX2_remove_51 : decode cX2_remove 51 = .ok (.iadd, 1) := by decide +kernel
theorem dX2_remove_52 : decode cX2_remove 52 = .ok (.iaload, 1) := by decide +kernel
theorem dX2_remove_53 : decode cX2_remove 53 = .ok (.iastore, 1) := by decide +kernel
theorem dX2_remove_54 : decode cX2_remove 54 = .ok (.aload_n 0, 1) := by decide +kernel
theorem dX2_remove_55 : decode cX2_remove 55 = .ok (.getfield 21, 3) := by decide +kernel
theorem dX2_remove_58 : decode cX2_remove 58 = .ok (.iload_n 2, 1) := by decide +kernel
theorem dX2_remove_59 : decode cX2_remove 59 = .ok (.aload_n 0, 1) := by decide +kernel
theorem dX2_remove_60 : decode cX2_remove 60 = .ok (.getfield 21, 3) := by decide +kernel
theorem dX2_remove_63 : decode cX2_remove 63 = .ok (.iload_n 2, 1) := by decide +kernel
theorem dX2_remove_64 : decode cX2_remove 64 = .ok (.iconst 1, 1) := by decide +kernel
theorem dX2_remove_65 : decode cX2_remove 65 = .ok (.iadd, 1) := by decide +kernel
theorem dX2_remove_66 : decode cX2_remove 66 = .ok (.iaload, 1) := by decide +kernel
theorem dX2_remove_67 : decode cX2_remove 67 = .ok (.iastore, 1) := by decide +kernel
theorem dX2_remove_68 : decode cX2_remove 68 = .ok (.aload_n 0, 1) := by decide +kernel
theorem dX2_remove_69 : decode cX2_remove 69 = .ok (.getfield 24, 3) := by decide +kernel
theorem dX2_remove_72 : decode cX2_remove 72 = .ok (.iload_n 2, 1) := by decide +kernel
theorem dX2_remove_73 : decode cX2_remove 73 = .ok (.aload_n 0, 1) := by decide +kernel
theorem dX2_remove_74 : decode cX2_remove 74 = .ok (.getfield 24, 3) := by decide +kernel
theorem dX2_remove_77 : decode cX2_remove 77 = .ok (.iload_n 2, 1) := by decide +kernel
theorem dX2_remove_78 : decode cX2_remove 78 = .ok (.iconst 1, 1) := by decide +kernel
theorem dX2_remove_79 : decode cX2_remove 79 = .ok (.iadd, 1) := by decide +kernel
theorem dX2_remove_80 : decode cX2_remove 80 = .ok (.iaload, 1) := by decide +kernel
theorem dX2_remove_81 : decode cX2_remove 81 = .ok (.iastore, 1) := by decide +kernel
theorem dX2_remove_82 : decode cX2_remove 82 = .ok (.aload_n 0, 1) := by decide +kernel
theorem dX2_remove_83 : decode cX2_remove 83 = .ok (.getfield 27, 3) := by decide +kernel
theorem dX2_remove_86 : decode cX2_remove 86 = .ok (.iload_n 2, 1) := by decide +kernel
theorem dX2_remove_87 : decode cX2_remove 87 = .ok (.aload_n 0, 1) := by decide +kernel
theorem dX2_remove_88 : decode cX2_remove 88 = .ok (.getfield 27, 3) := by decide +kernel
theorem dX2_remove_91 : decode cX2_remove 91 = .ok (.iload_n 2, 1) := by decide +kernel
theorem dX2_remove_92 : decode cX2_remove 92 = .ok (.iconst 1, 1) := by decide +kernel
theorem dX2_remove_93 : decode cX2_remove 93 = .ok (.iadd, 1) := by decide +kernel
theorem dX2_remove_94 : decode cX2_remove 94 = .ok (.iaload, 1) := by decide +kernel
theorem dX2_remove_95 : decode cX2_remove 95 = .ok (.iastore, 1) := by decide +kernel
theorem dX2_remove_96 : decode cX2_remove 96 = .ok (.iinc 2 1, 3) := by decide +kernel
theorem dX2_remove_99 : decode cX2_remove 99 = .ok (.goto (-97), 3) := by decide +kernel
theorem dX2_remove_102 : decode cX2_remove 102 = .ok (.aload_n 0, 1) := by decide +kernel
theorem dX2_remove_103 : decode cX2_remove 103 = .ok (.dup, 1) := by decide +kernel
theorem dX2_remove_104 : decode cX2_remove 104 = .ok (.getfield 30, 3) := by decide +kernel
theorem dX2_remove_107 : decode cX2_remove 107 = .ok (.iconst 1, 1) := by decide +kernel
theorem dX2_remove_108 : decode cX2_remove 108 = .ok (.isub, 1) := by decide +kernel
theorem dX2_remove_109 : decode cX2_remove 109 = .ok (.putfield 30, 3) := by decide +kernel
theorem dX2_remove_112 : decode cX2_remove 112 = .ok (.return_, 1) := by decide +kernel
theorem dX3_init_0 : decode cX3_init 0 = .ok (.aload_n 0, 1) := by decide +kernel
theorem dX3_init_1 : decode cX3_init 1 = .ok (.invokespecial 3, 3) := by decide +kernel
theorem dX3_init_4 : decode cX3_init 4 = .ok (.aload_n 0, 1) := by decide +kernel
theorem dX3_init_5 : decode cX3_init 5 = .ok (.bipush 60, 2) := by decide +kernel
theorem dX3_init_7 : decode cX3_init 7 = .ok (.newarray .int, 2) := by decide +kernel
theorem dX3_init_9 : decode cX3_init 9 = .ok (.putfield 9, 3) := by decide +kernel
theorem dX3_init_12 : decode cX3_init 12 = .ok (.aload_n 0, 1) := by decide +kernel
theorem dX3_init_13 : decode cX3_init 13 = .ok (.bipush 61, 2) := by decide +kernel
theorem dX3_init_15 : decode cX3_init 15 = .ok (.newarray .int, 2) := by decide +kernel
theorem dX3_init_17 : decode cX3_init 17 = .ok (.putfield 15, 3) := by decide +kernel
theorem dX3_init_20 : decode cX3_init 20 = .ok (.return_, 1) := by decide +kernel
theorem dX3_clear_0 : decode cX3_clear 0 = .ok (.aload_n 0, 1) := by decide +kernel
theorem dX3_clear_1 : decode cX3_clear 1 = .ok (.iconst 0, 1) := by decide +kernel
theorem dX3_clear_2 : decode cX3_clear 2 = .ok (.putfield 18, 3) := by decide +kernel
theorem dX3_clear_5 : decode cX3_clear 5 = .ok (.return_, 1) := by decide +kernel
theorem dX3_add_0 : decode cX3_add 0 = .ok (.aload_n 0, 1) := by decide +kernel
theorem dX3_add_1 : decode cX3_add 1 = .ok (.getfield 9, 3) := by decide +kernel
theorem dX3_add_4 : decode cX3_add 4 = .ok (.aload_n 0, 1) := by decide +kernel
theorem dX3_add_5 : decode cX3_add 5 = .ok (.getfield 18, 3) := by decide +kernel
theorem dX3_add_8 : decode cX3_add 8 = .ok (.iload_n 1, 1) := by decide +kernel
theorem dX3_add_9 : decode cX3_add 9 = .ok (.iastore, 1) := by decide +kernel
theorem dX3_add_10 : decode cX3_add 10 = .ok (.aload_n 0, 1) := by decide +kernel
theorem dX3_add_11 : decode cX3_add 11 = .ok (.dup, 1) := by decide +kernel
theorem dX3_add_12 : decode cX3_add 12 = .ok (.getfield 18, 3) := by decide +kernel
theorem dX3_add_15 : decode cX3_add 15 = .ok (.iconst 1, 1) := by decide +kernel
theorem dX3_add_16 : decode cX3_add 16 = .ok (.iadd, 1) := by decide +kernel
theorem dX3_add_17 : decode cX3_add 17 = .ok (.putfield 18, 3) := by decide +kernel
theorem dX3_add_20 : decode cX3_add 20 = .ok (.return_, 1) := by decide +kernel
set_option maxRecDepth 20000 in
theorem ggX3_placeAll_J7_fill_53178 : GoodIn wsX3_placeAll wsJ7_fill_53178 := goodIn_r _ [10] (by decide +kernel) (by decide +kernel)
set_option maxRecDepth 20000 in
theorem gX3_placeAll_J7_fill_53178 : GoodIn wsX3_placeAll (va_wsS RX3 22 yJ7_fill_53178 wsJ7_fill_53178) := goodIn_app (goodIn_of _ (by decide +kernel)) ggX3_placeAll_J7_fill_53178
set_option maxRecDepth 20000 in
theorem ggX3_placeAll_X3_outermost : GoodIn wsX3_placeAll wsX3_outermost := goodIn_r _ [15, 2, 16, 24, 25, 26] (by decide +kernel) (by decide +kernel)
set_option maxRecDepth 20000 in
theorem gX3_placeAll_X3_outermost : GoodIn wsX3_placeAll (wsV RX3 28 RX3 yX3_outermost wsX3_outermost) := goodIn_app (goodIn_of _ (by decide +kernel)) ggX3_placeAll_X3_outermost
set_option maxRecDepth 20000 in
theorem ggX3_placeAll_X3_columnFor : GoodIn wsX3_placeAll wsX3_columnFor := goodIn_r _ [20, 2, 16, 21, 22, 5, 23, 1, 24, 25, 26] (by decide +kernel) (by decide +kernel)
set_option maxRecDepth 20000 in
theorem gX3_placeAll_X3_columnFor : GoodIn wsX3_placeAll (wsV RX3 32 RX3 yX3_columnFor wsX3_columnFor) := goodIn_app (goodIn_of _ (by decide +kernel)) ggX3_placeAll_X3_columnFor
theorem dX3_placeAll_0 : decode cX3_placeAll 0 = .ok (.aload_n 0, 1) := by decide +kernel
theorem dX3_placeAll_1 : decode cX3_placeAll 1 = .ok (.getfield 15, 3) := by decide +kernel
theorem dX3_placeAll_4 : decode cX3_placeAll 4 = .ok (.iconst 0, 1) := by decide +kernel
theorem dX3_placeAll_5 : decode cX3_placeAll 5 = .ok (.invokestatic 22, 3) := by decide +kernel
theorem dX3_placeAll_8 : decode cX3_placeAll 8 = .ok (.iconst 0, 1) := by decide +kernel
theorem dX3_placeAll_9 : decode cX3_placeAll 9 = .ok (.istore 4, 2) := by decide +kernel
theorem dX3_placeAll_11 : decode cX3_placeAll 11 = .ok (.iconst 1, 1) := by decide +kernel
theorem dX3_placeAll_12 : decode cX3_placeAll 12 = .ok (.istore 5, 2) := by decide +kernel
theorem dX3_placeAll_14 : decode cX3_placeAll 14 = .ok (.iload 5, 2) := by decide +kernel
theorem dX3_placeAll_16 : decode cX3_placeAll 16 = .ok (.aload_n 0, 1) := by decide +kernel
theorem dX3_placeAll_17 : decode cX3_placeAll 17 = .ok (.getfield 18, 3) := by decide +kernel
theorem dX3_placeAll_20 : decode cX3_placeAll 20 = .ok (.if_icmp .gt 61, 3) := by decide +kernel
theorem dX3_placeAll_23 : decode cX3_placeAll 23 = .ok (.aload_n 0, 1) := by decide +kernel
theorem dX3_placeAll_24 : decode cX3_placeAll 24 = .ok (.iload 5, 2) := by decide +kernel
theorem dX3_placeAll_26 : decode cX3_placeAll 26 = .ok (.iconst 2, 1) := by decide +kernel
theorem dX3_placeAll_27 : decode cX3_placeAll 27 = .ok (.irem, 1) := by decide +kernel
theorem dX3_placeAll_28 : decode cX3_placeAll 28 = .ok (.iconst 1, 1) := by decide +kernel
theorem dX3_placeAll_29 : decode cX3_placeAll 29 = .ok (.if_icmp .ne 7, 3) := by decide +kernel
theorem dX3_placeAll_32 : decode cX3_placeAll 32 = .ok (.iconst 1, 1) := by decide +kernel
theorem dX3_placeAll_33 : decode cX3_placeAll 33 = .ok (.goto 4, 3) := by decide +kernel
theorem dX3_placeAll_36 : decode cX3_placeAll 36 = .ok (.iconst 0, 1) := by decide +kernel
theorem dX3_placeAll_37 : decode cX3_placeAll 37 = .ok (.aload_n 2, 1) := by decide +kernel
theorem dX3_placeAll_38 : decode cX3_placeAll 38 = .ok (.aload_n 3, 1) := by decide +kernel
theorem dX3_placeAll_39 : decode cX3_placeAll 39 = .ok (.invokevirtual 28, 3) := by decide +kernel
theorem dX3_placeAll_42 : decode cX3_placeAll 42 = .ok (.istore 6, 2) := by decide +kernel
theorem dX3_placeAll_44 : decode cX3_placeAll 44 = .ok (.iload 6, 2) := by decide +kernel
theorem dX3_placeAll_46 : decode cX3_placeAll 46 = .ok (.ifCond .lt 29, 3) := by decide +kernel
theorem dX3_placeAll_49 : decode cX3_placeAll 49 = .ok (.aload_n 3, 1) := by decide +kernel
theorem dX3_placeAll_50 : decode cX3_placeAll 50 = .ok (.iload 6, 2) := by decide +kernel
theorem dX3_placeAll_52 : decode cX3_placeAll 52 = .ok (.aload_n 0, 1) := by decide +kernel
theorem dX3_placeAll_53 : decode cX3_placeAll 53 = .ok (.iload 6, 2) := by decide +kernel
theorem dX3_placeAll_55 : decode cX3_placeAll 55 = .ok (.iload 5, 2) := by decide +kernel
theorem dX3_placeAll_57 : decode cX3_placeAll 57 = .ok (.aload_n 1, 1) := by decide +kernel
theorem dX3_placeAll_58 : decode cX3_placeAll 58 = .ok (.aload_n 2, 1) := by decide +kernel
theorem dX3_placeAll_59 : decode cX3_placeAll 59 = .ok (.aload_n 3, 1) := by decide +kernel
theorem dX3_placeAll_60 : decode cX3_placeAll 60 = .ok (.invokevirtual 32, 3) := by decide +kernel
theorem dX3_placeAll_63 : decode cX3_placeAll 63 = .ok (.iastore, 1) := by decide +kernel
theorem dX3_placeAll_64 : decode cX3_placeAll 64 = .ok (.iload 4, 2) := by decide +kernel
theorem dX3_placeAll_66 : decode cX3_placeAll 66 = .ok (.aload_n 3, 1) := by decide +kernel
theorem dX3_placeAll_67 : decode cX3_placeAll 67 = .ok (.iload 6, 2) := by decide +kernel
theorem dX3_placeAll_69 : decode cX3_placeAll 69 = .ok (.iaload, 1) := by decide +kernel
theorem dX3_placeAll_70 : decode cX3_placeAll 70 = .ok (.invokestatic 36, 3) := by decide +kernel
theorem dX3_placeAll_73 : decode cX3_placeAll 73 = .ok (.istore 4, 2) := by decide +kernel
theorem dX3_placeAll_75 : decode cX3_placeAll 75 = .ok (.iinc 5 1, 3) := by decide +kernel
theorem dX3_placeAll_78 : decode cX3_placeAll 78 = .ok (.goto (-64), 3) := by decide +kernel
theorem dX3_placeAll_81 : decode cX3_placeAll 81 = .ok (.iload 4, 2) := by decide +kernel
theorem dX3_placeAll_83 : decode cX3_placeAll 83 = .ok (.ireturn, 1) := by decide +kernel
theorem dX3_outermost_0 : decode cX3_outermost 0 = .ok (.iconst (-1), 1) := by decide +kernel
theorem dX3_outermost_1 : decode cX3_outermost 1 = .ok (.istore 4, 2) := by decide +kernel
theorem dX3_outermost_3 : decode cX3_outermost 3 = .ok (.iconst 0, 1) := by decide +kernel
theorem dX3_outermost_4 : decode cX3_outermost 4 = .ok (.istore 5, 2) := by decide +kernel
theorem dX3_outermost_6 : decode cX3_outermost 6 = .ok (.iload 5, 2) := by decide +kernel
theorem dX3_outermost_8 : decode cX3_outermost 8 = .ok (.aload_n 0, 1) := by decide +kernel
theorem dX3_outermost_9 : decode cX3_outermost 9 = .ok (.getfield 18, 3) := by decide +kernel
theorem dX3_outermost_12 : decode cX3_outermost 12 = .ok (.if_icmp .ge 63, 3) := by decide +kernel
theorem dX3_outermost_15 : decode cX3_outermost 15 = .ok (.aload_n 0, 1) := by decide +kernel
theorem dX3_outermost_16 : decode cX3_outermost 16 = .ok (.getfield 9, 3) := by decide +kernel
theorem dX3_outermost_19 : decode cX3_outermost 19 = .ok (.iload 5, 2) := by decide +kernel
theorem dX3_outermost_21 : decode cX3_outermost 21 = .ok (.iaload, 1) := by decide +kernel
theorem dX3_outermost_22 : decode cX3_outermost 22 = .ok (.istore 6, 2) := by decide +kernel
theorem dX3_outermost_24 : decode cX3_outermost 24 = .ok (.aload_n 3, 1) := by decide +kernel
theorem dX3_outermost_25 : decode cX3_outermost 25 = .ok (.iload 6, 2) := by decide +kernel
theorem dX3_outermost_27 : decode cX3_outermost 27 = .ok (.iaload, 1) := by decide +kernel
theorem dX3_outermost_28 : decode cX3_outermost 28 = .ok (.ifCond .ne 41, 3) := by decide +kernel
theorem dX3_outermost_31 : decode cX3_outermost 31 = .ok (.iload 4, 2) := by decide +kernel
theorem dX3_outermost_33 : decode cX3_outermost 33 = .ok (.ifCond .lt 32, 3) := by decide +kernel
theorem dX3_outermost_36 : decode cX3_outermost 36 = .ok (.iload_n 1, 1) := by decide +kernel
theorem dX3_outermost_37 : decode cX3_outermost 37 = .ok (.ifCond .eq 17, 3) := by decide +kernel
theorem dX3_outermost_40 : decode cX3_outermost 40 = .ok (.aload_n 2, 1) := by decide +kernel
theorem dX3_outermost_41 : decode cX3_outermost 41 = .ok (.iload 6, 2) := by decide +kernel
theorem dX3_outermost_43 : decode cX3_outermost 43 = .ok (.iaload, 1) := by decide +kernel
theorem dX3_outermost_44 : decode cX3_outermost 44 = .ok (.aload_n 2, 1) := by decide +kernel
theorem dX3_outermost_45 : decode cX3_outermost 45 = .ok (.iload 4, 2) := by decide +kernel
theorem dX3_outermost_47 : decode cX3_outermost 47 = .ok (.iaload, 1) := by decide +kernel
theorem dX3_outermost_48 : decode cX3_outermost 48 = .ok (.if_icmp .le 21, 3) := by decide +kernel
theorem dX3_outermost_51 : decode cX3_outermost 51 = .ok (.goto 14, 3) := by decide +kernel
theorem dX3_outermost_54 : decode cX3_outermost 54 = .ok (.aload_n 2, 1) := by decide +kernel
theorem dX3_outermost_55 : decode cX3_outermost 55 = .ok (.iload 6, 2) := by decide +kernel
theorem dX3_outermost_57 : decode cX3_outermost 57 = .ok (.iaload, 1) := by decide +kernel
theorem dX3_outermost_58 : decode cX3_outermost 58 = .ok (.aload_n 2, 1) := by decide +kernel
theorem dX3_outermost_59 : decode cX3_outermost 59 = .ok (.iload 4, 2) := by decide +kernel
theorem dX3_outermost_61 : decode cX3_outermost 61 = .ok (.iaload, 1) := by decide +kernel
theorem dX3_outermost_62 : decode cX3_outermost 62 = .ok (.if_icmp .ge 7, 3) := by decide +kernel
theorem dX3_outermost_65 : decode cX3_outermost 65 = .ok (.iload 6, 2) := by decide +kernel
theorem dX3_outermost_67 : decode cX3_outermost 67 = .ok (.istore 4, 2) := by decide +kernel
theorem dX3_outermost_69 : decode cX3_outermost 69 = .ok (.iinc 5 1, 3) := by decide +kernel
theorem dX3_outermost_72 : decode cX3_outermost 72 = .ok (.goto (-66), 3) := by decide +kernel
theorem dX3_outermost_75 : decode cX3_outermost 75 = .ok (.iload 4, 2) := by decide +kernel
theorem dX3_outermost_77 : decode cX3_outermost 77 = .ok (.ireturn, 1) := by decide +kernel
theorem dX3_columnFor_0 : decode cX3_columnFor 0 = .ok (.iconst 0, 1) := by decide +kernel
theorem dX3_columnFor_1 : decode cX3_columnFor 1 = .ok (.istore 6, 2) := by decide +kernel
theorem dX3_columnFor_3 : decode cX3_columnFor 3 = .ok (.iload 6, 2) := by decide +kernel
theorem dX3_columnFor_5 : decode cX3_columnFor 5 = .ok (.aload_n 0, 1) := by decide +kernel
theorem dX3_columnFor_6 : decode cX3_columnFor 6 = .ok (.getfield 18, 3) := by decide +kernel
theorem dX3_columnFor_9 : decode cX3_columnFor 9 = .ok (.if_icmp .ge 83, 3) := by decide +kernel
theorem dX3_columnFor_12 : decode cX3_columnFor 12 = .ok (.aload_n 0, 1) := by decide +kernel
theorem dX3_columnFor_13 : decode cX3_columnFor 13 = .ok (.getfield 9, 3) := by decide +kernel
theorem dX3_columnFor_16 : decode cX3_columnFor 16 = .ok (.iload 6, 2) := by decide +kernel
theorem dX3_columnFor_18 : decode cX3_columnFor 18 = .ok (.iaload, 1) := by decide +kernel
theorem dX3_columnFor_19 : decode cX3_columnFor 19 = .ok (.istore 7, 2) := by decide +kernel
theorem dX3_columnFor_21 : decode cX3_columnFor 21 = .ok (.aload 5, 2) := by decide +kernel
theorem dX3_columnFor_23 : decode cX3_columnFor 23 = .ok (.iload 7, 2) := by decide +kernel
theorem dX3_columnFor_25 : decode cX3_columnFor 25 = .ok (.iaload, 1) := by decide +kernel
theorem dX3_columnFor_26 : decode cX3_columnFor 26 = .ok (.ifCond .le 31, 3) := by decide +kernel
theorem dX3_columnFor_29 : decode cX3_columnFor 29 = .ok (.aload 4, 2) := by decide +kernel
theorem dX3_columnFor_31 : decode cX3_columnFor 31 = .ok (.iload 7, 2) := by decide +kernel
theorem dX3_columnFor_33 : decode cX3_columnFor 33 = .ok (.iaload, 1) := by decide +kernel
theorem dX3_columnFor_34 : decode cX3_columnFor 34 = .ok (.aload 4, 2) := by decide +kernel
theorem dX3_columnFor_36 : decode cX3_columnFor 36 = .ok (.iload_n 1, 1) := by decide +kernel
theorem dX3_columnFor_37 : decode cX3_columnFor 37 = .ok (.iaload, 1) := by decide +kernel
theorem dX3_columnFor_38 : decode cX3_columnFor 38 = .ok (.if_icmp .ne 19, 3) := by decide +kernel
theorem dX3_columnFor_41 : decode cX3_columnFor 41 = .ok (.aload_n 3, 1) := by decide +kernel
theorem dX3_columnFor_42 : decode cX3_columnFor 42 = .ok (.iload 7, 2) := by decide +kernel
theorem dX3_columnFor_44 : decode cX3_columnFor 44 = .ok (.iaload, 1) := by decide +kernel
theorem dX3_columnFor_45 : decode cX3_columnFor 45 = .ok (.aload_n 3, 1) := by decide +kernel
theorem dX3_columnFor_46 : decode cX3_columnFor 46 = .ok (.iload_n 1, 1) := by decide +kernel
theorem dX3_columnFor_47 : decode cX3_columnFor 47 = .ok (.iaload, 1) := by decide +kernel
theorem dX3_columnFor_48 : decode cX3_columnFor 48 = .ok (.if_icmp .ne 9, 3) := by decide +kernel
theorem dX3_columnFor_51 : decode cX3_columnFor 51 = .ok (.aload 5, 2) := by decide +kernel
theorem dX3_columnFor_53 : decode cX3_columnFor 53 = .ok (.iload 7, 2) := by decide +kernel
theorem dX3_columnFor_55 : decode cX3_columnFor 55 = .ok (.iaload, 1) := by decide +kernel
theorem dX3_columnFor_56 : decode cX3_columnFor 56 = .ok (.ireturn, 1) := by decide +kernel
theorem dX3_columnFor_57 : decode cX3_columnFor 57 = .ok (.aload 4, 2) := by decide +kernel
theorem dX3_columnFor_59 : decode cX3_columnFor 59 = .ok (.iload 7, 2) := by decide +kernel
theorem dX3_columnFor_61 : decode cX3_columnFor 61 = .ok (.iaload, 1) := by decide +kernel
theorem dX3_columnFor_62 : decode cX3_columnFor 62 = .ok (.aload 4, 2) := by decide +kernel
theorem dX3_columnFor_64 : decode cX3_columnFor 64 = .ok (.iload_n 1, 1) := by decide +kernel
theorem dX3_columnFor_65 : decode cX3_columnFor 65 = .ok (.iaload, 1) := by decide +kernel
theorem dX3_columnFor_66 : decode cX3_columnFor 66 = .ok (.isub, 1) := by decide +kernel
theorem dX3_columnFor_67 : decode cX3_columnFor 67 = .ok (.invokestatic 42, 3) := by decide +kernel
theorem dX3_columnFor_70 : decode cX3_columnFor 70 = .ok (.bipush 6, 2) := by decide +kernel
theorem dX3_columnFor_72 : decode cX3_columnFor 72 = .ok (.if_icmp .ge 14, 3) := by decide +kernel
theorem dX3_columnFor_75 : decode cX3_columnFor 75 = .ok (.aload_n 0, 1) := by decide +kernel
theorem dX3_columnFor_76 : decode cX3_columnFor 76 = .ok (.getfield 15, 3) := by decide +kernel
theorem dX3_columnFor_79 : decode cX3_columnFor 79 = .ok (.aload 5, 2) := by decide +kernel
theorem dX3_columnFor_81 : decode cX3_columnFor 81 = .ok (.iload 7, 2) := by decide +kernel
theorem dX3_columnFor_83 : decode cX3_columnFor 83 = .ok (.iaload, 1) := by decide +kernel
theorem dX3_columnFor_84 : decode cX3_columnFor 84 = .ok (.iload_n 2, 1) := by decide +kernel
theorem dX3_columnFor_85 : decode cX3_columnFor 85 = .ok (.iastore, 1) := by decide +kernel
theorem dX3_columnFor_86 : decode cX3_columnFor 86 = .ok (.iinc 6 1, 3) := by decide +kernel
theorem dX3_columnFor_89 : decode cX3_columnFor 89 = .ok (.goto (-86), 3) := by decide +kernel
theorem dX3_columnFor_92 : decode cX3_columnFor 92 = .ok (.iconst 1, 1) := by decide +kernel
theorem dX3_columnFor_93 : decode cX3_columnFor 93 = .ok (.istore 6, 2) := by decide +kernel
theorem dX3_columnFor_95 : decode cX3_columnFor 95 = .ok (.iload 6, 2) := by decide +kernel
theorem dX3_columnFor_97 : decode cX3_columnFor 97 = .ok (.bipush 60, 2) := by decide +kernel
theorem dX3_columnFor_99 : decode cX3_columnFor 99 = .ok (.if_icmp .ge 20, 3) := by decide +kernel
theorem dX3_columnFor_102 : decode cX3_columnFor 102 = .ok (.aload_n 0, 1) := by decide +kernel
theorem dX3_columnFor_103 : decode cX3_columnFor 103 = .ok (.getfield 15, 3) := by decide +kernel
theorem dX3_columnFor_106 : decode cX3_columnFor 106 = .ok (.iload 6, 2) := by decide +kernel
theorem dX3_columnFor_108 : decode cX3_columnFor 108 = .ok (.iaload, 1) := by decide +kernel
theorem dX3_columnFor_109 : decode cX3_columnFor 109 = .ok (.iload_n 2, 1) := by decide +kernel
theorem dX3_columnFor_110 : decode cX3_columnFor 110 = .ok (.if_icmp .ne 9, 3) := by decide +kernel
theorem dX3_columnFor_113 : decode cX3_columnFor 113 = .ok (.iinc 6 1, 3) := by decide +kernel
theorem dX3_columnFor_116 : decode cX3_columnFor 116 = .ok (.goto (-21), 3) := by decide +kernel
theorem dX3_columnFor_119 : decode cX3_columnFor 119 = .ok (.iload 6, 2) := by decide +kernel
theorem dX3_columnFor_121 : decode cX3_columnFor 121 = .ok (.ireturn, 1) := by decide +kernel
set_option maxRecDepth 20000 in
theorem ggX4_init_X4_putClef : GoodIn wsX4_init wsX4_putClef := goodIn_r _ [15, 5, 16, 17, 18, 19, 20, 21] (by decide +kernel) (by decide +kernel)
set_option maxRecDepth 20000 in
theorem gX4_init_X4_putClef : GoodIn wsX4_init (wsV RX4 31 RX4 yX4_putClef wsX4_putClef) := goodIn_app (goodIn_of _ (by decide +kernel)) ggX4_init_X4_putClef
theorem dX4_init_0 : decode cX4_init 0 = .ok (.aload_n 0, 1) := by decide +kernel
theorem dX4_init_1 : decode cX4_init 1 = .ok (.invokespecial 3, 3) := by decide +kernel
theorem dX4_init_4 : decode cX4_init 4 = .ok (.aload_n 0, 1) := by decide +kernel
theorem dX4_init_5 : decode cX4_init 5 = .ok (.iconst 4, 1) := by decide +kernel
theorem dX4_init_6 : decode cX4_init 6 = .ok (.newarray .int, 2) := by decide +kernel
theorem dX4_init_8 : decode cX4_init 8 = .ok (.putfield 9, 3) := by decide +kernel
theorem dX4_init_11 : decode cX4_init 11 = .ok (.aload_n 0, 1) := by decide +kernel
theorem dX4_init_12 : decode cX4_init 12 = .ok (.bipush 12, 2) := by decide +kernel
theorem dX4_init_14 : decode cX4_init 14 = .ok (.newarray .int, 2) := by decide +kernel
theorem dX4_init_16 : decode cX4_init 16 = .ok (.putfield 15, 3) := by decide +kernel
theorem dX4_init_19 : decode cX4_init 19 = .ok (.aload_n 0, 1) := by decide +kernel
theorem dX4_init_20 : decode cX4_init 20 = .ok (.bipush 12, 2) := by decide +kernel
theorem dX4_init_22 : decode cX4_init 22 = .ok (.newarray .int, 2) := by decide +kernel
theorem dX4_init_24 : decode cX4_init 24 = .ok (.putfield 18, 3) := by decide +kernel
theorem dX4_init_27 : decode cX4_init 27 = .ok (.aload_n 0, 1) := by decide +kernel
theorem dX4_init_28 : decode cX4_init 28 = .ok (.bipush 12, 2) := by decide +kernel
theorem dX4_init_30 : decode cX4_init 30 = .ok (.newarray .int, 2) := by decide +kernel
theorem dX4_init_32 : decode cX4_init 32 = .ok (.putfield 21, 3) := by decide +kernel
theorem dX4_init_35 : decode cX4_init 35 = .ok (.aload_n 0, 1) := by decide +kernel
theorem dX4_init_36 : decode cX4_init 36 = .ok (.bipush 12, 2) := by decide +kernel
theorem dX4_init_38 : decode cX4_init 38 = .ok (.newarray .int, 2) := by decide +kernel
theorem dX4_init_40 : decode cX4_init 40 = .ok (.putfield 24, 3) := by decide +kernel
theorem dX4_init_43 : decode cX4_init 43 = .ok (.aload_n 0, 1) := by decide +kernel
theorem dX4_init_44 : decode cX4_init 44 = .ok (.iconst 0, 1) := by decide +kernel
theorem dX4_init_45 : decode cX4_init 45 = .ok (.putfield 27, 3) := by decide +kernel
theorem dX4_init_48 : decode cX4_init 48 = .ok (.iconst 0, 1) := by decide +kernel
theorem dX4_init_49 : decode cX4_init 49 = .ok (.istore_n 1, 1) := by decide +kernel
theorem dX4_init_50 : decode cX4_init 50 = .ok (.iload_n 1, 1) := by decide +kernel
theorem dX4_init_51 : decode cX4_init 51 = .ok (.iconst 4, 1) := by decide +kernel
theorem dX4_init_52 : decode cX4_init 52 = .ok (.if_icmp .ge 16, 3) := by decide +kernel
theorem dX4_init_55 : decode cX4_init 55 = .ok (.aload_n 0, 1) := by decide +kernel
theorem dX4_init_56 : decode cX4_init 56 = .ok (.iload_n 1, 1) := by decide +kernel
theorem dX4_init_57 : decode cX4_init 57 = .ok (.iconst 0, 1) := by decide +kernel
theorem dX4_init_58 : decode cX4_init 58 = .ok (.iconst 2, 1) := by decide +kernel
theorem dX4_init_59 : decode cX4_init 59 = .ok (.invokevirtual 31, 3) := by decide +kernel
theorem dX4_init_62 : decode cX4_init 62 = .ok (.iinc 1 1, 3) := by decide +kernel
theorem dX4_init_65 : decode cX4_init 65 = .ok (.goto (-15), 3) := by decide +kernel
theorem dX4_init_68 : decode cX4_init 68 = .ok (.return_, 1) := by decide +kernel
theorem dX4_putClef_0 : decode cX4_putClef 0 = .ok (.aload_n 0, 1) := by decide +kernel
theorem dX4_putClef_1 : decode cX4_putClef 1 = .ok (.getfield 9, 3) := by decide +kernel
theorem dX4_putClef_4 : decode cX4_putClef 4 = .ok (.iload_n 1, 1) := by decide +kernel
theorem dX4_putClef_5 : decode cX4_putClef 5 = .ok (.getstatic 35, 3) := by decide +kernel
theorem dX4_putClef_8 : decode cX4_putClef 8 = .ok (.iload_n 2, 1) := by decide +kernel
theorem dX4_putClef_9 : decode cX4_putClef 9 = .ok (.iaload, 1) := by decide +kernel
theorem dX4_putClef_10 : decode cX4_putClef 10 = .ok (.iconst 2, 1) := by decide +kernel
theorem dX4_putClef_11 : decode cX4_putClef 11 = .ok (.iload_n 3, 1) := by decide +kernel
theorem dX4_putClef_12 : decode cX4_putClef 12 = .ok (.iconst 1, 1) := by decide +kernel
theorem dX4_putClef_13 : decode cX4_putClef 13 = .ok (.isub, 1) := by decide +kernel
theorem dX4_putClef_14 : decode cX4_putClef 14 = .ok (.imul, 1) := by decide +kernel
theorem dX4_putClef_15 : decode cX4_putClef 15 = .ok (.isub, 1) := by decide +kernel
theorem dX4_putClef_16 : decode cX4_putClef 16 = .ok (.iastore, 1) := by decide +kernel
theorem dX4_putClef_17 : decode cX4_putClef 17 = .ok (.return_, 1) := by decide +kernel
theorem dX4_addShift_0 : decode cX4_addShift 0 = .ok (.aload_n 0, 1) := by decide +kernel
theorem dX4_addShift_1 : decode cX4_addShift 1 = .ok (.getfield 15, 3) := by decide +kernel
theorem dX4_addShift_4 : decode cX4_addShift 4 = .ok (.aload_n 0, 1) := by decide +kernel
theorem dX4_addShift_5 : decode cX4_addShift 5 = .ok (.getfield 27, 3) := by decide +kernel
theorem dX4_addShift_8 : decode cX4_addShift 8 = .ok (.iload_n 1, 1) := by decide +kernel
theorem dX4_addShift_9 : decode cX4_addShift 9 = .ok (.iastore, 1) := by decide +kernel
theorem dX4_addShift_10 : decode cX4_addShift 10 = .ok (.aload_n 0, 1) := by decide +kernel
theorem dX4_addShift_11 : decode cX4_addShift 11 = .ok (.getfield 18, 3) := by decide +kernel
theorem dX4_addShift_14 : decode cX4_addShift 14 = .ok (.aload_n 0, 1) := by decide +kernel
theorem dX4_addShift_15 : decode cX4_addShift 15 = .ok (.getfield 27, 3) := by decide +kernel
theorem dX4_addShift_18 : decode cX4_addShift 18 = .ok (.iload_n 2, 1) := by decide +kernel
theorem dX4_addShift_19 : decode cX4_addShift 19 = .ok (.iastore, 1) := by decide +kernel
theorem dX4_addShift_20 : decode cX4_addShift 20 = .ok (.aload_n 0, 1) := by decide +kernel
theorem dX4_addShift_21 : decode cX4_addShift 21 = .ok (.getfield 21, 3) := by decide +kernel
theorem dX4_addShift_24 : decode cX4_addShift 24 = .ok (.aload_n 0, 1) := by decide +kernel
theorem dX4_addShift_25 : decode cX4_addShift 25 = .ok (.getfield 27, 3) := by decide +kernel
theorem dX4_addShift_28 : decode cX4_addShift 28 = .ok (.iload_n 3, 1) := by decide +kernel
theorem dX4_addShift_29 : decode cX4_addShift 29 = .ok (.iastore, 1) := by decide +kernel
theorem dX4_addShift_30 : decode cX4_addShift 30 = .ok (.aload_n 0, 1) := by decide +kernel
theorem dX4_addShift_31 : decode cX4_addShift 31 = .ok (.getfield 24, 3) := by decide +kernel
theorem dX4_addShift_34 : decode cX4_addShift 34 = .ok (.aload_n 0, 1) := by decide +kernel
theorem dX4_addShift_35 : decode cX4_addShift 35 = .ok (.getfield 27, 3) := by decide +kernel
theorem dX4_addShift_38 : decode cX4_addShift 38 = .ok (.iload 4, 2) := by decide +kernel
theorem dX4_addShift_40 : decode cX4_addShift 40 = .ok (.iastore, 1) := by decide +kernel
theorem dX4_addShift_41 : decode cX4_addShift 41 = .ok (.aload_n 0, 1) := by decide +kernel
theorem dX4_addShift_42 : decode cX4_addShift 42 = .ok (.dup, 1) := by decide +kernel
theorem dX4_addShift_43 : decode cX4_addShift 43 = .ok (.getfield 27, 3) := by decide +kernel
theorem dX4_addShift_46 : decode cX4_addShift 46 = .ok (.iconst 1, 1) := by decide +kernel
theorem dX4_addShift_47 : decode cX4_addShift 47 = .ok (.iadd, 1) := by decide +kernel
theorem dX4_addShift_48 : decode cX4_addShift 48 = .ok (.putfield 27, 3) := by decide +kernel
theorem dX4_addShift_51 : decode cX4_addShift 51 = .ok (.return_, 1) := by decide +kernel
set_option maxRecDepth 20000 in
theorem ggX4_stepOf_X5_within : GoodIn wsX4_stepOf wsX5_within := goodIn_r _ [9] (by decide +kernel) (by decide +kernel)
set_option maxRecDepth 20000 in
theorem gX4_stepOf_X5_within_n38 : GoodIn wsX4_stepOf (wsX5_within) := ggX4_stepOf_X5_within
theorem dX4_stepOf_0 : decode cX4_stepOf 0 = .ok (.iconst 0, 1) := by decide +kernel
theorem dX4_stepOf_1 : decode cX4_stepOf 1 = .ok (.istore 4, 2) := by decide +kernel
theorem dX4_stepOf_3 : decode cX4_stepOf 3 = .ok (.iconst 0, 1) := by decide +kernel
theorem dX4_stepOf_4 : decode cX4_stepOf 4 = .ok (.istore 5, 2) := by decide +kernel
theorem dX4_stepOf_6 : decode cX4_stepOf 6 = .ok (.iload 5, 2) := by decide +kernel
theorem dX4_stepOf_8 : decode cX4_stepOf 8 = .ok (.aload_n 0, 1) := by decide +kernel
theorem dX4_stepOf_9 : decode cX4_stepOf 9 = .ok (.getfield 27, 3) := by decide +kernel
theorem dX4_stepOf_12 : decode cX4_stepOf 12 = .ok (.if_icmp .ge 53, 3) := by decide +kernel
theorem dX4_stepOf_15 : decode cX4_stepOf 15 = .ok (.aload_n 0, 1) := by decide +kernel
theorem dX4_stepOf_16 : decode cX4_stepOf 16 = .ok (.getfield 15, 3) := by decide +kernel
theorem dX4_stepOf_19 : decode cX4_stepOf 19 = .ok (.iload 5, 2) := by decide +kernel
theorem dX4_stepOf_21 : decode cX4_stepOf 21 = .ok (.iaload, 1) := by decide +kernel
theorem dX4_stepOf_22 : decode cX4_stepOf 22 = .ok (.iload_n 1, 1) := by decide +kernel
theorem dX4_stepOf_23 : decode cX4_stepOf 23 = .ok (.if_icmp .ne 36, 3) := by decide +kernel
theorem dX4_stepOf_26 : decode cX4_stepOf 26 = .ok (.iload_n 2, 1) := by decide +kernel
theorem dX4_stepOf_27 : decode cX4_stepOf 27 = .ok (.aload_n 0, 1) := by decide +kernel
theorem dX4_stepOf_28 : decode cX4_stepOf 28 = .ok (.getfield 18, 3) := by decide +kernel
theorem dX4_stepOf_31 : decode cX4_stepOf 31 = .ok (.iload 5, 2) := by decide +kernel
theorem dX4_stepOf_33 : decode cX4_stepOf 33 = .ok (.iaload, 1) := by decide +kernel
theorem dX4_stepOf_34 : decode cX4_stepOf 34 = .ok (.aload_n 0, 1) := by decide +kernel
theorem dX4_stepOf_35 : decode cX4_stepOf 35 = .ok (.getfield 21, 3) := by decide +kernel
theorem dX4_stepOf_38 : decode cX4_stepOf 38 = .ok (.iload 5, 2) := by decide +kernel
theorem dX4_stepOf_40 : decode cX4_stepOf 40 = .ok (.iaload, 1) := by decide +kernel
theorem dX4_stepOf_41 : decode cX4_stepOf 41 = .ok (.invokestatic 38, 3) := by decide +kernel
theorem dX4_stepOf_44 : decode cX4_stepOf 44 = .ok (.ifCond .eq 15, 3) := by decide +kernel
theorem dX4_stepOf_47 : decode cX4_stepOf 47 = .ok (.iload 4, 2) := by decide +kernel
theorem dX4_stepOf_49 : decode cX4_stepOf 49 = .ok (.aload_n 0, 1) := by decide +kernel
theorem dX4_stepOf_50 : decode cX4_stepOf 50 = .ok (.getfield 24, 3) := by decide +kernel
theorem dX4_stepOf_53 : decode cX4_stepOf 53 = .ok (.iload 5, 2) := by decide +kernel
theorem dX4_stepOf_55 : decode cX4_stepOf 55 = .ok (.iaload, 1) := by decide +kernel
theorem dX4_stepOf_56 : decode cX4_stepOf 56 = .ok (.iadd, 1) := by decide +kernel
theorem dX4_stepOf_57 : decode cX4_stepOf 57 = .ok (.istore 4, 2) := by decide +kernel
theorem dX4_stepOf_59 : decode cX4_stepOf 59 = .ok (.iinc 5 1, 3) := by decide +kernel
theorem dX4_stepOf_62 : decode cX4_stepOf 62 = .ok (.goto (-56), 3) := by decide +kernel
theorem dX4_stepOf_65 : decode cX4_stepOf 65 = .ok (.iload_n 3, 1) := by decide +kernel
theorem dX4_stepOf_66 : decode cX4_stepOf 66 = .ok (.aload_n 0, 1) := by decide +kernel
theorem dX4_stepOf_67 : decode cX4_stepOf 67 = .ok (.getfield 9, 3) := by decide +kernel
theorem dX4_stepOf_70 : decode cX4_stepOf 70 = .ok (.iload_n 1, 1) := by decide +kernel
theorem dX4_stepOf_71 : decode cX4_stepOf 71 = .ok (.iaload, 1) := by decide +kernel
theorem dX4_stepOf_72 : decode cX4_stepOf 72 = .ok (.isub, 1) := by decide +kernel
theorem dX4_stepOf_73 : decode cX4_stepOf 73 = .ok (.bipush 7, 2) := by decide +kernel
theorem dX4_stepOf_75 : decode cX4_stepOf 75 = .ok (.iload 4, 2) := by decide +kernel
theorem dX4_stepOf_77 : decode cX4_stepOf 77 = .ok (.imul, 1) := by decide +kernel
theorem dX4_stepOf_78 : decode cX4_stepOf 78 = .ok (.isub, 1) := by decide +kernel
theorem dX4_stepOf_79 : decode cX4_stepOf 79 = .ok (.ireturn, 1) := by decide +kernel
set_option maxRecDepth 20000 in
theorem ggX5_init_X4_init : GoodIn wsX5_init wsX4_init := goodIn_r _ [23, 24, 2, 3, 25, 26, 27, 28, 29, 30, 31, 32, 33, 34, 6, 35, 83, 84, 85, 86, 87, 88] (by decide +kernel) (by decide +kernel)
set_option maxRecDepth 20000 in
theorem gX5_init_X4_init : GoodIn wsX5_init (wsX4_init) := ggX5_init_X4_init
set_option maxRecDepth 20000 in
theorem ggX5_init_X2_init : GoodIn wsX5_init wsX2_init := goodIn_r _ [37, 38, 2, 3, 25, 39, 40, 41, 42, 43, 44, 45, 96, 97, 98, 99, 100, 101, 102] (by decide +kernel) (by decide +kernel)
set_option maxRecDepth 20000 in
theorem gX5_init_X2_init_n18 : GoodIn wsX5_init (wsX2_init) := ggX5_init_X2_init
set_option maxRecDepth 20000 in
theorem ggX5_init_X1_init : GoodIn wsX5_init wsX1_init := goodIn_r _ [47, 48, 2, 3, 49, 25, 50, 51, 52, 53, 54, 55, 56, 57, 58, 59, 60, 61, 62, 63, 64, 65, 66, 67, 68, 69, 70, 71, 72, 73, 74, 75, 76, 77, 78, 103, 104, 105, 106, 107, 108, 109, 110, 111, 112, 113, 114, 115, 116, 117, 118, 119, 120, 121, 122, 123, 124, 125, 126, 127] (by decide +kernel) (by decide +kernel)
set_option maxRecDepth 20000 in
theorem gX5_init_X1_init_n25 : GoodIn wsX5_init (wsX1_init) := ggX5_init_X1_init
set_option maxRecDepth 20000 in
theorem ggX5_init_X5_within : GoodIn wsX5_init wsX5_within := goodIn_r _ [82] (by decide +kernel) (by decide +kernel)
set_option maxRecDepth 20000 in
theorem gX5_init_X5_within : GoodIn wsX5_init (va_wsS RX5 42 yX5_within wsX5_within) := goodIn_app (goodIn_of _ (by decide +kernel)) ggX5_init_X5_within
theorem dX5_init_0 : decode cX5_init 0 = .ok (.aload_n 0, 1) := by decide +kernel
theorem dX5_init_1 : decode cX5_init 1 = .ok (.invokespecial 1, 3) := by decide +kernel
theorem dX5_init_4 : decode cX5_init 4 = .ok (.aload_n 0, 1) := by decide +kernel
theorem dX5_init_5 : decode cX5_init 5 = .ok (.new 7, 3) := by decide +kernel
theorem dX5_init_8 : decode cX5_init 8 = .ok (.dup, 1) := by decide +kernel
theorem dX5_init_9 : decode cX5_init 9 = .ok (.invokespecial 9, 3) := by decide +kernel
theorem dX5_init_12 : decode cX5_init 12 = .ok (.putfield 10, 3) := by decide +kernel
theorem dX5_init_15 : decode cX5_init 15 = .ok (.aload_n 0, 1) := by decide +kernel
theorem dX5_init_16 : decode cX5_init 16 = .ok (.new 16, 3) := by decide +kernel
theorem dX5_init_19 : decode cX5_init 19 = .ok (.dup, 1) := by decide +kernel
theorem dX5_init_20 : decode cX5_init 20 = .ok (.invokespecial 18, 3) := by decide +kernel
theorem dX5_init_23 : decode cX5_init 23 = .ok (.putfield 19, 3) := by decide +kernel
theorem dX5_init_26 : decode cX5_init 26 = .ok (.aload_n 0, 1) := by decide +kernel
theorem dX5_init_27 : decode cX5_init 27 = .ok (.new 23, 3) := by decide +kernel
theorem dX5_init_30 : decode cX5_init 30 = .ok (.dup, 1) := by decide +kernel
theorem dX5_init_31 : decode cX5_init 31 = .ok (.invokespecial 25, 3) := by decide +kernel
theorem dX5_init_34 : decode cX5_init 34 = .ok (.putfield 26, 3) := by decide +kernel
theorem dX5_init_37 : decode cX5_init 37 = .ok (.aload_n 0, 1) := by decide +kernel
theorem dX5_init_38 : decode cX5_init 38 = .ok (.iconst 2, 1) := by decide +kernel
theorem dX5_init_39 : decode cX5_init 39 = .ok (.putfield 30, 3) := by decide +kernel
theorem dX5_init_42 : decode cX5_init 42 = .ok (.aload_n 0, 1) := by decide +kernel
theorem dX5_init_43 : decode cX5_init 43 = .ok (.bipush 6, 2) := by decide +kernel
theorem dX5_init_45 : decode cX5_init 45 = .ok (.putfield 34, 3) := by decide +kernel
theorem dX5_init_48 : decode cX5_init 48 = .ok (.aload_n 0, 1) := by decide +kernel
theorem dX5_init_49 : decode cX5_init 49 = .ok (.iconst 0, 1) := by decide +kernel
theorem dX5_init_50 : decode cX5_init 50 = .ok (.putfield 37, 3) := by decide +kernel
theorem dX5_init_53 : decode cX5_init 53 = .ok (.aload_n 0, 1) := by decide +kernel
theorem dX5_init_54 : decode cX5_init 54 = .ok (.iload_n 1, 1) := by decide +kernel
theorem dX5_init_55 : decode cX5_init 55 = .ok (.iconst 1, 1) := by decide +kernel
theorem dX5_init_56 : decode cX5_init 56 = .ok (.ldc 41, 2) := by decide +kernel
theorem dX5_init_58 : decode cX5_init 58 = .ok (.invokestatic 42, 3) := by decide +kernel
theorem dX5_init_61 : decode cX5_init 61 = .ok (.ifCond .eq 7, 3) := by decide +kernel
theorem dX5_init_64 : decode cX5_init 64 = .ok (.iload_n 1, 1) := by decide +kernel
theorem dX5_init_65 : decode cX5_init 65 = .ok (.goto 5, 3) := by decide +kernel
theorem dX5_init_68 : decode cX5_init 68 = .ok (.bipush 10, 2) := by decide +kernel
theorem dX5_init_70 : decode cX5_init 70 = .ok (.putfield 46, 3) := by decide +kernel
theorem dX5_init_73 : decode cX5_init 73 = .ok (.return_, 1) := by decide +kernel
set_option maxRecDepth 20000 in
theorem ggX5_clef_X5_isStaff : GoodIn wsX5_clef wsX5_isStaff := goodIn_r _ [8, 9, 10, 7, 11] (by decide +kernel) (by decide +kernel)
set_option maxRecDepth 20000 in
theorem gX5_clef_X5_isStaff : GoodIn wsX5_clef (va_wsS RX5 49 yX5_isStaff wsX5_isStaff) := goodIn_app (goodIn_of _ (by decide +kernel)) ggX5_clef_X5_isStaff
set_option maxRecDepth 20000 in
theorem ggX5_clef_X5_within : GoodIn wsX5_clef wsX5_within := goodIn_r _ [11] (by decide +kernel) (by decide +kernel)
set_option maxRecDepth 20000 in
theorem gX5_clef_X5_within : GoodIn wsX5_clef (va_wsS RX5 42 yX5_within wsX5_within) := goodIn_app (goodIn_of _ (by decide +kernel)) ggX5_clef_X5_within
set_option maxRecDepth 20000 in
theorem ggX5_clef_X4_putClef : GoodIn wsX5_clef wsX4_putClef := goodIn_r _ [16, 17, 40, 41, 42, 43, 44, 45] (by decide +kernel) (by decide +kernel)
set_option maxRecDepth 20000 in
theorem gX5_clef_X4_putClef : GoodIn wsX5_clef (wsV RX5 57 RX4 yX4_putClef wsX4_putClef) := goodIn_app (goodIn_of _ (by decide +kernel)) ggX5_clef_X4_putClef
theorem dX5_clef_0 : decode cX5_clef 0 = .ok (.iload_n 1, 1) := by decide +kernel
theorem dX5_clef_1 : decode cX5_clef 1 = .ok (.invokestatic 49, 3) := by decide +kernel
theorem dX5_clef_4 : decode cX5_clef 4 = .ok (.ifCond .ne 7, 3) := by decide +kernel
theorem dX5_clef_7 : decode cX5_clef 7 = .ok (.sipush (-1001), 3) := by decide +kernel
theorem dX5_clef_10 : decode cX5_clef 10 = .ok (.ireturn, 1) := by decide +kernel
theorem dX5_clef_11 : decode cX5_clef 11 = .ok (.iload_n 2, 1) := by decide +kernel
theorem dX5_clef_12 : decode cX5_clef 12 = .ok (.iconst 0, 1) := by decide +kernel
theorem dX5_clef_13 : decode cX5_clef 13 = .ok (.getstatic 53, 3) := by decide +kernel
theorem dX5_clef_16 : decode cX5_clef 16 = .ok (.arraylength, 1) := by decide +kernel
theorem dX5_clef_17 : decode cX5_clef 17 = .ok (.iconst 1, 1) := by decide +kernel
theorem dX5_clef_18 : decode cX5_clef 18 = .ok (.isub, 1) := by decide +kernel
theorem dX5_clef_19 : decode cX5_clef 19 = .ok (.invokestatic 42, 3) := by decide +kernel
theorem dX5_clef_22 : decode cX5_clef 22 = .ok (.ifCond .eq 12, 3) := by decide +kernel
theorem dX5_clef_25 : decode cX5_clef 25 = .ok (.iload_n 3, 1) := by decide +kernel
theorem dX5_clef_26 : decode cX5_clef 26 = .ok (.iconst 1, 1) := by decide +kernel
theorem dX5_clef_27 : decode cX5_clef 27 = .ok (.iconst 5, 1) := by decide +kernel
theorem dX5_clef_28 : decode cX5_clef 28 = .ok (.invokestatic 42, 3) := by decide +kernel
theorem dX5_clef_31 : decode cX5_clef 31 = .ok (.ifCond .ne 7, 3) := by decide +kernel
theorem dX5_clef_34 : decode cX5_clef 34 = .ok (.sipush (-1002), 3) := by decide +kernel
theorem dX5_clef_37 : decode cX5_clef 37 = .ok (.ireturn, 1) := by decide +kernel
theorem dX5_clef_38 : decode cX5_clef 38 = .ok (.aload_n 0, 1) := by decide +kernel
theorem dX5_clef_39 : decode cX5_clef 39 = .ok (.getfield 10, 3) := by decide +kernel
theorem dX5_clef_42 : decode cX5_clef 42 = .ok (.iload_n 1, 1) := by decide +kernel
theorem dX5_clef_43 : decode cX5_clef 43 = .ok (.iload_n 2, 1) := by decide +kernel
theorem dX5_clef_44 : decode cX5_clef 44 = .ok (.iload_n 3, 1) := by decide +kernel
theorem dX5_clef_45 : decode cX5_clef 45 = .ok (.invokevirtual 57, 3) := by decide +kernel
theorem dX5_clef_48 : decode cX5_clef 48 = .ok (.aload_n 0, 1) := by decide +kernel
theorem dX5_clef_49 : decode cX5_clef 49 = .ok (.getfield 26, 3) := by decide +kernel
theorem dX5_clef_52 : decode cX5_clef 52 = .ok (.iconst 1, 1) := by decide +kernel
theorem dX5_clef_53 : decode cX5_clef 53 = .ok (.putfield 61, 3) := by decide +kernel
theorem dX5_clef_56 : decode cX5_clef 56 = .ok (.iconst 1, 1) := by decide +kernel
theorem dX5_clef_57 : decode cX5_clef 57 = .ok (.ireturn, 1) := by decide +kernel
set_option maxRecDepth 20000 in
theorem ggX5_shift_X5_isStaff : GoodIn wsX5_shift wsX5_isStaff := goodIn_r _ [8, 9, 10, 7, 11] (by decide +kernel) (by decide +kernel)
set_option maxRecDepth 20000 in
theorem gX5_shift_X5_isStaff : GoodIn wsX5_shift (va_wsS RX5 49 yX5_isStaff wsX5_isStaff) := goodIn_app (goodIn_of _ (by decide +kernel)) ggX5_shift_X5_isStaff
set_option maxRecDepth 20000 in
theorem ggX5_shift_X5_isTick : GoodIn wsX5_shift wsX5_isTick := goodIn_r _ [14, 9, 10, 7, 11] (by decide +kernel) (by decide +kernel)
set_option maxRecDepth 20000 in
theorem gX5_shift_X5_isTick : GoodIn wsX5_shift (va_wsS RX5 64 yX5_isTick wsX5_isTick) := goodIn_app (goodIn_of _ (by decide +kernel)) ggX5_shift_X5_isTick
set_option maxRecDepth 20000 in
theorem ggX5_shift_X5_within : GoodIn wsX5_shift wsX5_within := goodIn_r _ [11] (by decide +kernel) (by decide +kernel)
set_option maxRecDepth 20000 in
theorem gX5_shift_X5_within : GoodIn wsX5_shift (va_wsS RX5 42 yX5_within wsX5_within) := goodIn_app (goodIn_of _ (by decide +kernel)) ggX5_shift_X5_within
set_option maxRecDepth 20000 in
theorem ggX5_shift_X4_addShift : GoodIn wsX5_shift wsX4_addShift := goodIn_r _ [19, 20, 21, 22, 23, 24, 32, 33, 34, 35, 36, 37] (by decide +kernel) (by decide +kernel)
set_option maxRecDepth 20000 in
theorem gX5_shift_X4_addShift : GoodIn wsX5_shift (wsV RX5 70 RX4 yX4_addShift wsX4_addShift) := goodIn_app (goodIn_of _ (by decide +kernel)) ggX5_shift_X4_addShift
theorem dX5_shift_0 : decode cX5_shift 0 = .ok (.iload_n 1, 1) := by decide +kernel
theorem dX5_shift_1 : decode cX5_shift 1 = .ok (.invokestatic 49, 3) := by decide +kernel
theorem dX5_shift_4 : decode cX5_shift 4 = .ok (.ifCond .ne 7, 3) := by decide +kernel
theorem dX5_shift_7 : decode cX5_shift 7 = .ok (.sipush (-1001), 3) := by decide +kernel
theorem dX5_shift_10 : decode cX5_shift 10 = .ok (.ireturn, 1) := by decide +kernel
theorem dX5_shift_11 : decode cX5_shift 11 = .ok (.iload_n 2, 1) := by decide +kernel
theorem dX5_shift_12 : decode cX5_shift 12 = .ok (.invokestatic 64, 3) := by decide +kernel
theorem dX5_shift_15 : decode cX5_shift 15 = .ok (.ifCond .eq 26, 3) := by decide +kernel
theorem dX5_shift_18 : decode cX5_shift 18 = .ok (.iload_n 3, 1) := by decide +kernel
theorem dX5_shift_19 : decode cX5_shift 19 = .ok (.invokestatic 64, 3) := by decide +kernel
theorem dX5_shift_22 : decode cX5_shift 22 = .ok (.ifCond .eq 19, 3) := by decide +kernel
theorem dX5_shift_25 : decode cX5_shift 25 = .ok (.iload_n 2, 1) := by decide +kernel
theorem dX5_shift_26 : decode cX5_shift 26 = .ok (.iload_n 3, 1) := by decide +kernel
theorem dX5_shift_27 : decode cX5_shift 27 = .ok (.if_icmp .gt 14, 3) := by decide +kernel
theorem dX5_shift_30 : decode cX5_shift 30 = .ok (.iload 4, 2) := by decide +kernel
theorem dX5_shift_32 : decode cX5_shift 32 = .ok (.bipush (-2), 2) := by decide +kernel
theorem dX5_shift_34 : decode cX5_shift 34 = .ok (.iconst 2, 1) := by decide +kernel
theorem dX5_shift_35 : decode cX5_shift 35 = .ok (.invokestatic 42, 3) := by decide +kernel
theorem dX5_shift_38 : decode cX5_shift 38 = .ok (.ifCond .ne 7, 3) := by decide +kernel
theorem dX5_shift_41 : decode cX5_shift 41 = .ok (.sipush (-1002), 3) := by decide +kernel
theorem dX5_shift_44 : decode cX5_shift 44 = .ok (.ireturn, 1) := by decide +kernel
theorem dX5_shift_45 : decode cX5_shift 45 = .ok (.aload_n 0, 1) := by decide +kernel
theorem dX5_shift_46 : decode cX5_shift 46 = .ok (.getfield 10, 3) := by decide +kernel
theorem dX5_shift_49 : decode cX5_shift 49 = .ok (.getfield 67, 3) := by decide +kernel
theorem dX5_shift_52 : decode cX5_shift 52 = .ok (.bipush 12, 2) := by decide +kernel
theorem dX5_shift_54 : decode cX5_shift 54 = .ok (.if_icmp .lt 7, 3) := by decide +kernel
theorem dX5_shift_57 : decode cX5_shift 57 = .ok (.sipush (-1003), 3) := by decide +kernel
theorem dX5_shift_60 : decode cX5_shift 60 = .ok (.ireturn, 1) := by decide +kernel
theorem dX5_shift_61 : decode cX5_shift 61 = .ok (.aload_n 0, 1) := by decide +kernel
theorem dX5_shift_62 : decode cX5_shift 62 = .ok (.getfield 10, 3) := by decide +kernel
theorem dX5_shift_65 : decode cX5_shift 65 = .ok (.iload_n 1, 1) := by decide +kernel
theorem dX5_shift_66 : decode cX5_shift 66 = .ok (.iload_n 2, 1) := by decide +kernel
theorem dX5_shift_67 : decode cX5_shift 67 = .ok (.iload_n 3, 1) := by decide +kernel
theorem dX5_shift_68 : decode cX5_shift 68 = .ok (.iload 4, 2) := by decide +kernel
theorem dX5_shift_70 : decode cX5_shift 70 = .ok (.invokevirtual 70, 3) := by decide +kernel
theorem dX5_shift_73 : decode cX5_shift 73 = .ok (.aload_n 0, 1) := by decide +kernel
theorem dX5_shift_74 : decode cX5_shift 74 = .ok (.getfield 26, 3) := by decide +kernel
theorem dX5_shift_77 : decode cX5_shift 77 = .ok (.iconst 1, 1) := by decide +kernel
theorem dX5_shift_78 : decode cX5_shift 78 = .ok (.putfield 61, 3) := by decide +kernel
theorem dX5_shift_81 : decode cX5_shift 81 = .ok (.aload_n 0, 1) := by decide +kernel
theorem dX5_shift_82 : decode cX5_shift 82 = .ok (.getfield 10, 3) := by decide +kernel
theorem dX5_shift_85 : decode cX5_shift 85 = .ok (.getfield 67, 3) := by decide +kernel
theorem dX5_shift_88 : decode cX5_shift 88 = .ok (.ireturn, 1) := by decide +kernel
theorem dX5_plain_0 : decode cX5_plain 0 = .ok (.aload_n 0, 1) := by decide +kernel
theorem dX5_plain_1 : decode cX5_plain 1 = .ok (.getfield 10, 3) := by decide +kernel
theorem dX5_plain_4 : decode cX5_plain 4 = .ok (.getfield 67, 3) := by decide +kernel
theorem dX5_plain_7 : decode cX5_plain 7 = .ok (.istore_n 1, 1) := by decide +kernel
theorem dX5_plain_8 : decode cX5_plain 8 = .ok (.aload_n 0, 1) := by decide +kernel
theorem dX5_plain_9 : decode cX5_plain 9 = .ok (.getfield 10, 3) := by decide +kernel
theorem dX5_plain_12 : decode cX5_plain 12 = .ok (.iconst 0, 1) := by decide +kernel
theorem dX5_plain_13 : decode cX5_plain 13 = .ok (.putfield 67, 3) := by decide +kernel
theorem dX5_plain_16 : decode cX5_plain 16 = .ok (.aload_n 0, 1) := by decide +kernel
theorem dX5_plain_17 : decode cX5_plain 17 = .ok (.getfield 26, 3) := by decide +kernel
theorem dX5_plain_20 : decode cX5_plain 20 = .ok (.iconst 1, 1) := by decide +kernel
theorem dX5_plain_21 : decode cX5_plain 21 = .ok (.putfield 61, 3) := by decide +kernel
theorem dX5_plain_24 : decode cX5_plain 24 = .ok (.iload_n 1, 1) := by decide +kernel
theorem dX5_plain_25 : decode cX5_plain 25 = .ok (.ireturn, 1) := by decide +kernel
set_option maxRecDepth 20000 in
theorem ggX5_note_X5_isStaff : GoodIn wsX5_note wsX5_isStaff := goodIn_r _ [8, 9, 10, 7, 11] (by decide +kernel) (by decide +kernel)
set_option maxRecDepth 20000 in
theorem gX5_note_X5_isStaff : GoodIn wsX5_note (va_wsS RX5 49 yX5_isStaff wsX5_isStaff) := goodIn_app (goodIn_of _ (by decide +kernel)) ggX5_note_X5_isStaff
set_option maxRecDepth 20000 in
theorem ggX5_note_X5_within : GoodIn wsX5_note wsX5_within := goodIn_r _ [11] (by decide +kernel) (by decide +kernel)
set_option maxRecDepth 20000 in
theorem gX5_note_X5_within : GoodIn wsX5_note (va_wsS RX5 42 yX5_within wsX5_within) := goodIn_app (goodIn_of _ (by decide +kernel)) ggX5_note_X5_within
set_option maxRecDepth 20000 in
theorem ggX5_note_X5_isTick : GoodIn wsX5_note wsX5_isTick := goodIn_r _ [14, 9, 10, 7, 11] (by decide +kernel) (by decide +kernel)
set_option maxRecDepth 20000 in
theorem gX5_note_X5_isTick : GoodIn wsX5_note (va_wsS RX5 64 yX5_isTick wsX5_isTick) := goodIn_app (goodIn_of _ (by decide +kernel)) ggX5_note_X5_isTick
set_option maxRecDepth 20000 in
theorem ggX5_note_X5_isPitch : GoodIn wsX5_note wsX5_isPitch := goodIn_r _ [17, 9, 10, 7, 11] (by decide +kernel) (by decide +kernel)
set_option maxRecDepth 20000 in
theorem gX5_note_X5_isPitch : GoodIn wsX5_note (va_wsS RX5 74 yX5_isPitch wsX5_isPitch) := goodIn_app (goodIn_of _ (by decide +kernel)) ggX5_note_X5_isPitch
set_option maxRecDepth 20000 in
theorem ggX5_note_X2_add : GoodIn wsX5_note wsX2_add := goodIn_r _ [22, 23, 24, 25, 26, 27, 28, 29, 37, 38, 39, 40, 41, 42, 43] (by decide +kernel) (by decide +kernel)
set_option maxRecDepth 20000 in
theorem gX5_note_X2_add : GoodIn wsX5_note (wsV RX5 81 RX2 yX2_add wsX2_add) := goodIn_app (goodIn_of _ (by decide +kernel)) ggX5_note_X2_add
theorem dX5_note_0 : decode cX5_note 0 = .ok (.iload_n 1, 1) := by decide +kernel
theorem dX5_note_1 : decode cX5_note 1 = .ok (.invokestatic 49, 3) := by decide +kernel
theorem dX5_note_4 : decode cX5_note 4 = .ok (.ifCond .ne 7, 3) := by decide +kernel
theorem dX5_note_7 : decode cX5_note 7 = .ok (.sipush (-1001), 3) := by decide +kernel
theorem dX5_note_10 : decode cX5_note 10 = .ok (.ireturn, 1) := by decide +kernel
theorem dX5_note_11 : decode cX5_note 11 = .ok (.iload_n 2, 1) := by decide +kernel
theorem dX5_note_12 : decode cX5_note 12 = .ok (.iconst 0, 1) := by decide +kernel
theorem dX5_note_13 : decode cX5_note 13 = .ok (.iconst 2, 1) := by decide +kernel
theorem dX5_note_14 : decode cX5_note 14 = .ok (.invokestatic 42, 3) := by decide +kernel
theorem dX5_note_17 : decode cX5_note 17 = .ok (.ifCond .eq 41, 3) := by decide +kernel
theorem dX5_note_20 : decode cX5_note 20 = .ok (.iload_n 3, 1) := by decide +kernel
theorem dX5_note_21 : decode cX5_note 21 = .ok (.invokestatic 64, 3) := by decide +kernel
theorem dX5_note_24 : decode cX5_note 24 = .ok (.ifCond .eq 34, 3) := by decide +kernel
theorem dX5_note_27 : decode cX5_note 27 = .ok (.iload 4, 2) := by decide +kernel
theorem dX5_note_29 : decode cX5_note 29 = .ok (.iload 5, 2) := by decide +kernel
theorem dX5_note_31 : decode cX5_note 31 = .ok (.invokestatic 74, 3) := by decide +kernel
theorem dX5_note_34 : decode cX5_note 34 = .ok (.ifCond .eq 24, 3) := by decide +kernel
theorem dX5_note_37 : decode cX5_note 37 = .ok (.iload 6, 2) := by decide +kernel
theorem dX5_note_39 : decode cX5_note 39 = .ok (.bipush (-2), 2) := by decide +kernel
theorem dX5_note_41 : decode cX5_note 41 = .ok (.iconst 3, 1) := by decide +kernel
theorem dX5_note_42 : decode cX5_note 42 = .ok (.invokestatic 42, 3) := by decide +kernel
theorem dX5_note_45 : decode cX5_note 45 = .ok (.ifCond .eq 13, 3) := by decide +kernel
theorem dX5_note_48 : decode cX5_note 48 = .ok (.iload 7, 2) := by decide +kernel
theorem dX5_note_50 : decode cX5_note 50 = .ok (.iconst 0, 1) := by decide +kernel
theorem dX5_note_51 : decode cX5_note 51 = .ok (.iconst 2, 1) := by decide +kernel
theorem dX5_note_52 : decode cX5_note 52 = .ok (.invokestatic 42, 3) := by decide +kernel
theorem dX5_note_55 : decode cX5_note 55 = .ok (.ifCond .ne 7, 3) := by decide +kernel
theorem dX5_note_58 : decode cX5_note 58 = .ok (.sipush (-1002), 3) := by decide +kernel
theorem dX5_note_61 : decode cX5_note 61 = .ok (.ireturn, 1) := by decide +kernel
theorem dX5_note_62 : decode cX5_note 62 = .ok (.aload_n 0, 1) := by decide +kernel
theorem dX5_note_63 : decode cX5_note 63 = .ok (.getfield 19, 3) := by decide +kernel
theorem dX5_note_66 : decode cX5_note 66 = .ok (.getfield 78, 3) := by decide +kernel
theorem dX5_note_69 : decode cX5_note 69 = .ok (.bipush 60, 2) := by decide +kernel
theorem dX5_note_71 : decode cX5_note 71 = .ok (.if_icmp .lt 7, 3) := by decide +kernel
theorem dX5_note_74 : decode cX5_note 74 = .ok (.sipush (-1003), 3) := by decide +kernel
theorem dX5_note_77 : decode cX5_note 77 = .ok (.ireturn, 1) := by decide +kernel
theorem dX5_note_78 : decode cX5_note 78 = .ok (.aload_n 0, 1) := by decide +kernel
theorem dX5_note_79 : decode cX5_note 79 = .ok (.getfield 19, 3) := by decide +kernel
theorem dX5_note_82 : decode cX5_note 82 = .ok (.iload_n 1, 1) := by decide +kernel
theorem dX5_note_83 : decode cX5_note 83 = .ok (.iload_n 2, 1) := by decide +kernel
theorem dX5_note_84 : decode cX5_note 84 = .ok (.iload_n 3, 1) := by decide +kernel
theorem dX5_note_85 : decode cX5_note 85 = .ok (.bipush 7, 2) := by decide +kernel
theorem dX5_note_87 : decode cX5_note 87 = .ok (.iload 5, 2) := by decide +kernel
theorem dX5_note_89 : decode cX5_note 89 = .ok (.imul, 1) := by decide +kernel
theorem dX5_note_90 : decode cX5_note 90 = .ok (.iload 4, 2) := by decide +kernel
theorem dX5_note_92 : decode cX5_note 92 = .ok (.iadd, 1) := by decide +kernel
theorem dX5_note_93 : decode cX5_note 93 = .ok (.iload 6, 2) := by decide +kernel
theorem dX5_note_95 : decode cX5_note 95 = .ok (.iload 7, 2) := by decide +kernel
theorem dX5_note_97 : decode cX5_note 97 = .ok (.invokevirtual 81, 3) := by decide +kernel
theorem dX5_note_100 : decode cX5_note 100 = .ok (.aload_n 0, 1) := by decide +kernel
theorem dX5_note_101 : decode cX5_note 101 = .ok (.getfield 26, 3) := by decide +kernel
theorem dX5_note_104 : decode cX5_note 104 = .ok (.iconst 1, 1) := by decide +kernel
theorem dX5_note_105 : decode cX5_note 105 = .ok (.putfield 61, 3) := by decide +kernel
theorem dX5_note_108 : decode cX5_note 108 = .ok (.aload_n 0, 1) := by decide +kernel
theorem dX5_note_109 : decode cX5_note 109 = .ok (.getfield 19, 3) := by decide +kernel
theorem dX5_note_112 : decode cX5_note 112 = .ok (.getfield 78, 3) := by decide +kernel
theorem dX5_note_115 : decode cX5_note 115 = .ok (.iconst 1, 1) := by decide +kernel
theorem dX5_note_116 : decode cX5_note 116 = .ok (.isub, 1) := by decide +kernel
theorem dX5_note_117 : decode cX5_note 117 = .ok (.ireturn, 1) := by decide +kernel
set_option maxRecDepth 20000 in
theorem ggX5_drop_X2_has : GoodIn wsX5_drop wsX2_has := goodIn_r _ [9, 10, 11, 12, 13, 46, 47, 48, 49, 50, 51, 52] (by decide +kernel) (by decide +kernel)
set_option maxRecDepth 20000 in
theorem gX5_drop_X2_has : GoodIn wsX5_drop (wsV RX5 85 RX2 yX2_has wsX2_has) := goodIn_app (goodIn_of _ (by decide +kernel)) ggX5_drop_X2_has
set_option maxRecDepth 20000 in
theorem ggX5_drop_X2_remove : GoodIn wsX5_drop wsX2_remove := goodIn_r _ [17, 10, 18, 19, 20, 21, 22, 23, 46, 47, 48, 49, 50, 51, 52] (by decide +kernel) (by decide +kernel)
set_option maxRecDepth 20000 in
theorem gX5_drop_X2_remove : GoodIn wsX5_drop (wsV RX5 88 RX2 yX2_remove wsX2_remove) := goodIn_app (goodIn_of _ (by decide +kernel)) ggX5_drop_X2_remove
theorem dX5_drop_0 : decode cX5_drop 0 = .ok (.aload_n 0, 1) := by decide +kernel
theorem dX5_drop_1 : decode cX5_drop 1 = .ok (.getfield 19, 3) := by decide +kernel
theorem dX5_drop_4 : decode cX5_drop 4 = .ok (.iload_n 1, 1) := by decide +kernel
theorem dX5_drop_5 : decode cX5_drop 5 = .ok (.invokevirtual 85, 3) := by decide +kernel
theorem dX5_drop_8 : decode cX5_drop 8 = .ok (.ifCond .ne 7, 3) := by decide +kernel
theorem dX5_drop_11 : decode cX5_drop 11 = .ok (.sipush (-1001), 3) := by decide +kernel
theorem dX5_drop_14 : decode cX5_drop 14 = .ok (.ireturn, 1) := by decide +kernel
theorem dX5_drop_15 : decode cX5_drop 15 = .ok (.aload_n 0, 1) := by decide +kernel
theorem dX5_drop_16 : decode cX5_drop 16 = .ok (.getfield 19, 3) := by decide +kernel
theorem dX5_drop_19 : decode cX5_drop 19 = .ok (.iload_n 1, 1) := by decide +kernel
theorem dX5_drop_20 : decode cX5_drop 20 = .ok (.invokevirtual 88, 3) := by decide +kernel
theorem dX5_drop_23 : decode cX5_drop 23 = .ok (.aload_n 0, 1) := by decide +kernel
theorem dX5_drop_24 : decode cX5_drop 24 = .ok (.getfield 26, 3) := by decide +kernel
theorem dX5_drop_27 : decode cX5_drop 27 = .ok (.iconst 1, 1) := by decide +kernel
theorem dX5_drop_28 : decode cX5_drop 28 = .ok (.putfield 61, 3) := by decide +kernel
theorem dX5_drop_31 : decode cX5_drop 31 = .ok (.aload_n 0, 1) := by decide +kernel
theorem dX5_drop_32 : decode cX5_drop 32 = .ok (.getfield 19, 3) := by decide +kernel
theorem dX5_drop_35 : decode cX5_drop 35 = .ok (.getfield 78, 3) := by decide +kernel
theorem dX5_drop_38 : decode cX5_drop 38 = .ok (.ireturn, 1) := by decide +kernel
set_option maxRecDepth 20000 in
theorem ggX5_of_X2_has : GoodIn wsX5_of wsX2_has := goodIn_r _ [14, 15, 16, 17, 18, 211, 212, 213, 214, 215, 216, 217] (by decide +kernel) (by decide +kernel)
set_option maxRecDepth 20000 in
theorem gX5_of_X2_has : GoodIn wsX5_of (wsV RX5 85 RX2 yX2_has wsX2_has) := goodIn_app (goodIn_of _ (by decide +kernel)) ggX5_of_X2_has
set_option maxRecDepth 20000 in
theorem ggX5_of_X1_refresh : GoodIn wsX5_of wsX1_refresh := goodIn_r _ [23, 24, 25, 26, 27, 28, 29, 30, 31, 32, 33, 22, 34, 35, 36, 37, 38, 39, 40, 41, 42, 43, 44, 45, 46, 47, 48, 49, 50, 51, 52, 53, 54, 55, 16, 17, 18, 56, 57, 58, 59, 60, 61, 62, 63, 64, 65, 66, 67, 68, 69, 70, 71, 72, 73, 74, 75, 76, 77, 78, 79, 80, 81, 82, 83, 84, 85, 86, 87, 88, 89, 13, 90, 91, 92, 93, 94, 95, 96, 97, 98, 99, 100, 101, 102, 103, 104, 105, 106, 107, 108, 109, 110, 111, 112, 113, 114, 115, 116, 117, 118, 119, 120, 121, 122, 123, 124, 125, 126, 127, 128, 129, 130, 131, 132, 133, 134, 135, 136, 137, 138, 139, 140, 141, 142, 143, 144, 145, 146, 147, 148, 149, 150, 151, 152, 153, 154, 155, 156, 157, 158, 159, 160, 161, 162, 163, 164, 165, 166, 167, 168, 169, 170, 171, 172, 173, 174, 175, 176, 177, 178, 179, 180, 181, 182, 183, 184, 185, 186, 187, 188, 196, 197, 198, 199, 200, 201, 202, 203, 204, 205, 206, 207, 208, 209, 210, 211, 212, 213, 214, 215, 216, 217, 218, 219, 220, 221, 222, 223, 224, 225, 226, 227, 228, 229, 230, 231, 232, 233] (by decide +kernel) (by decide +kernel)
set_option maxRecDepth 20000 in
theorem gX5_of_X1_refresh : GoodIn wsX5_of (wsV RX5 92 RX1 yX1_refresh wsX1_refresh) := goodIn_app (goodIn_of _ (by decide +kernel)) ggX5_of_X1_refresh
theorem dX5_of_0 : decode cX5_of 0 = .ok (.aload_n 0, 1) := by decide +kernel
theorem dX5_of_1 : decode cX5_of 1 = .ok (.getfield 19, 3) := by decide +kernel
theorem dX5_of_4 : decode cX5_of 4 = .ok (.iload_n 1, 1) := by decide +kernel
theorem dX5_of_5 : decode cX5_of 5 = .ok (.invokevirtual 85, 3) := by decide +kernel
theorem dX5_of_8 : decode cX5_of 8 = .ok (.ifCond .ne 7, 3) := by decide +kernel
theorem dX5_of_11 : decode cX5_of 11 = .ok (.sipush (-1001), 3) := by decide +kernel
theorem dX5_of_14 : decode cX5_of 14 = .ok (.ireturn, 1) := by decide +kernel
theorem dX5_of_15 : decode cX5_of 15 = .ok (.aload_n 0, 1) := by decide +kernel
theorem dX5_of_16 : decode cX5_of 16 = .ok (.getfield 26, 3) := by decide +kernel
theorem dX5_of_19 : decode cX5_of 19 = .ok (.aload_n 0, 1) := by decide +kernel
theorem dX5_of_20 : decode cX5_of 20 = .ok (.getfield 19, 3) := by decide +kernel
theorem dX5_of_23 : decode cX5_of 23 = .ok (.aload_n 0, 1) := by decide +kernel
theorem dX5_of_24 : decode cX5_of 24 = .ok (.getfield 10, 3) := by decide +kernel
theorem dX5_of_27 : decode cX5_of 27 = .ok (.invokevirtual 92, 3) := by decide +kernel
theorem dX5_of_30 : decode cX5_of 30 = .ok (.aload_n 0, 1) := by decide +kernel
theorem dX5_of_31 : decode cX5_of 31 = .ok (.getfield 26, 3) := by decide +kernel
theorem dX5_of_34 : decode cX5_of 34 = .ok (.getfield 96, 3) := by decide +kernel
theorem dX5_of_37 : decode cX5_of 37 = .ok (.iload_n 1, 1) := by decide +kernel
theorem dX5_of_38 : decode cX5_of 38 = .ok (.iaload, 1) := by decide +kernel
theorem dX5_of_39 : decode cX5_of 39 = .ok (.istore_n 3, 1) := by decide +kernel
theorem dX5_of_40 : decode cX5_of 40 = .ok (.iload_n 2, 1) := by decide +kernel
theorem dX5_of_41 : decode cX5_of 41 = .ok (.tableswitch 153 0 8 #[51, 53, 66, 83, 93, 103, 123, 133, 143], 51) := by decide +kernel
theorem dX5_of_92 : decode cX5_of 92 = .ok (.iload_n 3, 1) := by decide +kernel
theorem dX5_of_93 : decode cX5_of 93 = .ok (.ireturn, 1) := by decide +kernel
theorem dX5_of_94 : decode cX5_of 94 = .ok (.iload_n 3, 1) := by decide +kernel
theorem dX5_of_95 : decode cX5_of 95 = .ok (.ifCond .ge 10, 3) := by decide +kernel
theorem dX5_of_98 : decode cX5_of 98 = .ok (.iload_n 3, 1) := by decide +kernel
theorem dX5_of_99 : decode cX5_of 99 = .ok (.ineg, 1) := by decide +kernel
theorem dX5_of_100 : decode cX5_of 100 = .ok (.iconst 2, 1) := by decide +kernel
theorem dX5_of_101 : decode cX5_of 101 = .ok (.idiv, 1) := by decide +kernel
theorem dX5_of_102 : decode cX5_of 102 = .ok (.goto 4, 3) := by decide +kernel
theorem dX5_of_105 : decode cX5_of 105 = .ok (.iconst 0, 1) := by decide +kernel
theorem dX5_of_106 : decode cX5_of 106 = .ok (.ireturn, 1) := by decide +kernel
theorem dX5_of_107 : decode cX5_of 107 = .ok (.iload_n 3, 1) := by decide +kernel
theorem dX5_of_108 : decode cX5_of 108 = .ok (.bipush 8, 2) := by decide +kernel
theorem dX5_of_110 : decode cX5_of 110 = .ok (.if_icmp .le 12, 3) := by decide +kernel
theorem dX5_of_113 : decode cX5_of 113 = .ok (.iload_n 3, 1) := by decide +kernel
theorem dX5_of_114 : decode cX5_of 114 = .ok (.bipush 8, 2) := by decide +kernel
theorem dX5_of_116 : decode cX5_of 116 = .ok (.isub, 1) := by decide +kernel
theorem dX5_of_117 : decode cX5_of 117 = .ok (.iconst 2, 1) := by decide +kernel
theorem dX5_of_118 : decode cX5_of 118 = .ok (.idiv, 1) := by decide +kernel
theorem dX5_of_119 : decode cX5_of 119 = .ok (.goto 4, 3) := by decide +kernel
theorem dX5_of_122 : decode cX5_of 122 = .ok (.iconst 0, 1) := by decide +kernel
theorem dX5_of_123 : decode cX5_of 123 = .ok (.ireturn, 1) := by decide +kernel
theorem dX5_of_124 : decode cX5_of 124 = .ok (.aload_n 0, 1) := by decide +kernel
theorem dX5_of_125 : decode cX5_of 125 = .ok (.getfield 26, 3) := by decide +kernel
theorem dX5_of_128 : decode cX5_of 128 = .ok (.getfield 99, 3) := by decide +kernel
theorem dX5_of_131 : decode cX5_of 131 = .ok (.iload_n 1, 1) := by decide +kernel
theorem dX5_of_132 : decode cX5_of 132 = .ok (.iaload, 1) := by decide +kernel
theorem dX5_of_133 : decode cX5_of 133 = .ok (.ireturn, 1) := by decide +kernel
theorem dX5_of_134 : decode cX5_of 134 = .ok (.aload_n 0, 1) := by decide +kernel
theorem dX5_of_135 : decode cX5_of 135 = .ok (.getfield 26, 3) := by decide +kernel
theorem dX5_of_138 : decode cX5_of 138 = .ok (.getfield 102, 3) := by decide +kernel
theorem dX5_of_141 : decode cX5_of 141 = .ok (.iload_n 1, 1) := by decide +kernel
theorem dX5_of_142 : decode cX5_of 142 = .ok (.iaload, 1) := by decide +kernel
theorem dX5_of_143 : decode cX5_of 143 = .ok (.ireturn, 1) := by decide +kernel
theorem dX5_of_144 : decode cX5_of 144 = .ok (.aload_n 0, 1) := by decide +kernel
theorem dX5_of_145 : decode cX5_of 145 = .ok (.getfield 26, 3) := by decide +kernel
theorem dX5_of_148 : decode cX5_of 148 = .ok (.getfield 105, 3) := by decide +kernel
theorem dX5_of_151 : decode cX5_of 151 = .ok (.iload_n 1, 1) := by decide +kernel
theorem dX5_of_152 : decode cX5_of 152 = .ok (.iaload, 1) := by decide +kernel
theorem dX5_of_153 : decode cX5_of 153 = .ok (.aload_n 0, 1) := by decide +kernel
theorem dX5_of_154 : decode cX5_of 154 = .ok (.getfield 26, 3) := by decide +kernel
theorem dX5_of_157 : decode cX5_of 157 = .ok (.getfield 102, 3) := by decide +kernel
theorem dX5_of_160 : decode cX5_of 160 = .ok (.iload_n 1, 1) := by decide +kernel
theorem dX5_of_161 : decode cX5_of 161 = .ok (.iaload, 1) := by decide +kernel
theorem dX5_of_162 : decode cX5_of 162 = .ok (.iadd, 1) := by decide +kernel
theorem dX5_of_163 : decode cX5_of 163 = .ok (.ireturn, 1) := by decide +kernel
theorem dX5_of_164 : decode cX5_of 164 = .ok (.aload_n 0, 1) := by decide +kernel
theorem dX5_of_165 : decode cX5_of 165 = .ok (.getfield 26, 3) := by decide +kernel
theorem dX5_of_168 : decode cX5_of 168 = .ok (.getfield 108, 3) := by decide +kernel
theorem dX5_of_171 : decode cX5_of 171 = .ok (.iload_n 1, 1) := by decide +kernel
theorem dX5_of_172 : decode cX5_of 172 = .ok (.iaload, 1) := by decide +kernel
theorem dX5_of_173 : decode cX5_of 173 = .ok (.ireturn, 1) := by decide +kernel
theorem dX5_of_174 : decode cX5_of 174 = .ok (.aload_n 0, 1) := by decide +kernel
theorem dX5_of_175 : decode cX5_of 175 = .ok (.getfield 26, 3) := by decide +kernel
theorem dX5_of_178 : decode cX5_of 178 = .ok (.getfield 105, 3) := by decide +kernel
theorem dX5_of_181 : decode cX5_of 181 = .ok (.iload_n 1, 1) := by decide +kernel
theorem dX5_of_182 : decode cX5_of 182 = .ok (.iaload, 1) := by decide +kernel
theorem dX5_of_183 : decode cX5_of 183 = .ok (.ireturn, 1) := by decide +kernel
theorem dX5_of_184 : decode cX5_of 184 = .ok (.aload_n 0, 1) := by decide +kernel
theorem dX5_of_185 : decode cX5_of 185 = .ok (.getfield 26, 3) := by decide +kernel
theorem dX5_of_188 : decode cX5_of 188 = .ok (.getfield 111, 3) := by decide +kernel
theorem dX5_of_191 : decode cX5_of 191 = .ok (.iload_n 1, 1) := by decide +kernel
theorem dX5_of_192 : decode cX5_of 192 = .ok (.iaload, 1) := by decide +kernel
theorem dX5_of_193 : decode cX5_of 193 = .ok (.ireturn, 1) := by decide +kernel
theorem dX5_of_194 : decode cX5_of 194 = .ok (.sipush (-1002), 3) := by decide +kernel
theorem dX5_of_197 : decode cX5_of 197 = .ok (.ireturn, 1) := by decide +kernel
set_option maxRecDepth 20000 in
theorem ggX5_height_X2_has : GoodIn wsX5_height wsX2_has := goodIn_r _ [12, 13, 14, 15, 16, 236, 237, 238, 239, 240, 241, 242] (by decide +kernel) (by decide +kernel)
set_option maxRecDepth 20000 in
theorem gX5_height_X2_has : GoodIn wsX5_height (wsV RX5 85 RX2 yX2_has wsX2_has) := goodIn_app (goodIn_of _ (by decide +kernel)) ggX5_height_X2_has
set_option maxRecDepth 20000 in
theorem ggX5_height_X1_refresh : GoodIn wsX5_height wsX1_refresh := goodIn_r _ [21, 22, 23, 24, 25, 26, 27, 28, 29, 30, 31, 20, 32, 33, 34, 35, 36, 37, 38, 39, 40, 41, 42, 43, 44, 45, 46, 47, 48, 49, 50, 51, 52, 53, 14, 15, 16, 54, 55, 56, 57, 58, 59, 60, 61, 62, 63, 64, 65, 66, 67, 68, 69, 70, 71, 72, 73, 74, 75, 76, 77, 78, 79, 80, 81, 82, 83, 84, 85, 86, 87, 11, 88, 89, 90, 91, 92, 93, 94, 95, 96, 97, 98, 99, 100, 101, 102, 103, 104, 105, 106, 107, 108, 109, 110, 111, 112, 113, 114, 115, 116, 117, 118, 119, 120, 121, 122, 123, 124, 125, 126, 127, 128, 129, 130, 131, 132, 133, 134, 135, 136, 137, 138, 139, 140, 141, 142, 143, 144, 145, 146, 147, 148, 149, 150, 151, 152, 153, 154, 155, 156, 157, 158, 159, 160, 161, 162, 163, 164, 165, 166, 167, 168, 169, 170, 171, 172, 173, 174, 175, 176, 177, 178, 179, 180, 181, 182, 183, 184, 185, 186, 221, 222, 223, 224, 225, 226, 227, 228, 229, 230, 231, 232, 233, 234, 235, 236, 237, 238, 239, 240, 241, 242, 243, 244, 245, 246, 247, 248, 249, 250, 251, 252, 253, 254, 255, 256, 257, 258] (by decide +kernel) (by decide +kernel)
set_option maxRecDepth 20000 in
theorem gX5_height_X1_refresh : GoodIn wsX5_height (wsV RX5 92 RX1 yX1_refresh wsX1_refresh) := goodIn_app (goodIn_of _ (by decide +kernel)) ggX5_height_X1_refresh
set_option maxRecDepth 20000 in
theorem ggX5_height_X5_stepsDownTo : GoodIn wsX5_height wsX5_stepsDownTo := goodIn_r _ [190, 191, 192, 193, 15, 194, 195, 1, 196, 197, 198, 11, 199, 13, 89, 200, 201, 202, 203, 204, 205, 206, 207, 208, 3, 209, 210, 211, 212, 102, 98, 103, 213, 54, 55, 214, 215, 216, 217, 218, 219, 220, 236, 237, 238, 239, 240, 241, 242, 221, 222, 223, 224, 225, 226, 227, 228, 229, 230, 231, 232, 233, 234, 235] (by decide +kernel) (by decide +kernel)
set_option maxRecDepth 20000 in
theorem gX5_height_X5_stepsDownTo : GoodIn wsX5_height (wsV RX5 119 RX5 yX5_stepsDownTo wsX5_stepsDownTo) := goodIn_app (goodIn_of _ (by decide +kernel)) ggX5_height_X5_stepsDownTo
theorem dX5_height_0 : decode cX5_height 0 = .ok (.aload_n 0, 1) := by decide +kernel
theorem dX5_height_1 : decode cX5_height 1 = .ok (.getfield 19, 3) := by decide +kernel
theorem dX5_height_4 : decode cX5_height 4 = .ok (.iload_n 1, 1) := by decide +kernel
theorem dX5_height_5 : decode cX5_height 5 = .ok (.invokevirtual 85, 3) := by decide +kernel
theorem dX5_height_8 : decode cX5_height 8 = .ok (.ifCond .ne 7, 3) := by decide +kernel
theorem dX5_height_11 : decode cX5_height 11 = .ok (.ldc2_w 114, 3) := by decide +kernel
theorem dX5_height_14 : decode cX5_height 14 = .ok (.lreturn, 1) := by decide +kernel
theorem dX5_height_15 : decode cX5_height 15 = .ok (.aload_n 0, 1) := by decide +kernel
theorem dX5_height_16 : decode cX5_height 16 = .ok (.getfield 26, 3) := by decide +kernel
theorem dX5_height_19 : decode cX5_height 19 = .ok (.aload_n 0, 1) := by decide +kernel
theorem dX5_height_20 : decode cX5_height 20 = .ok (.getfield 19, 3) := by decide +kernel
theorem dX5_height_23 : decode cX5_height 23 = .ok (.aload_n 0, 1) := by decide +kernel
theorem dX5_height_24 : decode cX5_height 24 = .ok (.getfield 10, 3) := by decide +kernel
theorem dX5_height_27 : decode cX5_height 27 = .ok (.invokevirtual 92, 3) := by decide +kernel
theorem dX5_height_30 : decode cX5_height 30 = .ok (.aload_n 0, 1) := by decide +kernel
theorem dX5_height_31 : decode cX5_height 31 = .ok (.getfield 46, 3) := by decide +kernel
theorem dX5_height_34 : decode cX5_height 34 = .ok (.i2l, 1) := by decide +kernel
theorem dX5_height_35 : decode cX5_height 35 = .ok (.aload_n 0, 1) := by decide +kernel
theorem dX5_height_36 : decode cX5_height 36 = .ok (.getfield 26, 3) := by decide +kernel
theorem dX5_height_39 : decode cX5_height 39 = .ok (.getfield 96, 3) := by decide +kernel
theorem dX5_height_42 : decode cX5_height 42 = .ok (.iload_n 1, 1) := by decide +kernel
theorem dX5_height_43 : decode cX5_height 43 = .ok (.iaload, 1) := by decide +kernel
theorem dX5_height_44 : decode cX5_height 44 = .ok (.aload_n 0, 1) := by decide +kernel
theorem dX5_height_45 : decode cX5_height 45 = .ok (.aload_n 0, 1) := by decide +kernel
theorem dX5_height_46 : decode cX5_height 46 = .ok (.getfield 19, 3) := by decide +kernel
theorem dX5_height_49 : decode cX5_height 49 = .ok (.getfield 116, 3) := by decide +kernel
theorem dX5_height_52 : decode cX5_height 52 = .ok (.iload_n 1, 1) := by decide +kernel
theorem dX5_height_53 : decode cX5_height 53 = .ok (.iaload, 1) := by decide +kernel
theorem dX5_height_54 : decode cX5_height 54 = .ok (.invokevirtual 119, 3) := by decide +kernel
theorem dX5_height_57 : decode cX5_height 57 = .ok (.isub, 1) := by decide +kernel
theorem dX5_height_58 : decode cX5_height 58 = .ok (.i2l, 1) := by decide +kernel
theorem dX5_height_59 : decode cX5_height 59 = .ok (.lmul, 1) := by decide +kernel
theorem dX5_height_60 : decode cX5_height 60 = .ok (.lreturn, 1) := by decide +kernel
set_option maxRecDepth 20000 in
theorem ggX5_at_X5_isStaff : GoodIn wsX5_at wsX5_isStaff := goodIn_r _ [12, 13, 14, 11, 15] (by decide +kernel) (by decide +kernel)
set_option maxRecDepth 20000 in
theorem gX5_at_X5_isStaff : GoodIn wsX5_at (va_wsS RX5 49 yX5_isStaff wsX5_isStaff) := goodIn_app (goodIn_of _ (by decide +kernel)) ggX5_at_X5_isStaff
set_option maxRecDepth 20000 in
theorem ggX5_at_X5_isTick : GoodIn wsX5_at wsX5_isTick := goodIn_r _ [18, 13, 14, 11, 15] (by decide +kernel) (by decide +kernel)
set_option maxRecDepth 20000 in
theorem gX5_at_X5_isTick : GoodIn wsX5_at (va_wsS RX5 64 yX5_isTick wsX5_isTick) := goodIn_app (goodIn_of _ (by decide +kernel)) ggX5_at_X5_isTick
set_option maxRecDepth 20000 in
theorem ggX5_at_X1_refresh : GoodIn wsX5_at wsX1_refresh := goodIn_r _ [23, 24, 25, 26, 27, 28, 29, 30, 31, 32, 33, 22, 34, 35, 36, 37, 38, 39, 40, 41, 42, 43, 44, 45, 46, 47, 48, 49, 50, 51, 52, 53, 54, 55, 14, 11, 15, 56, 57, 58, 59, 60, 61, 62, 63, 64, 65, 66, 67, 68, 69, 70, 71, 72, 73, 74, 75, 76, 77, 78, 79, 80, 81, 82, 83, 84, 85, 86, 87, 88, 89, 90, 91, 92, 93, 94, 95, 96, 97, 98, 99, 100, 101, 102, 103, 104, 105, 106, 107, 108, 109, 110, 111, 112, 113, 114, 115, 116, 117, 118, 119, 120, 121, 122, 123, 124, 125, 126, 127, 128, 129, 130, 131, 132, 133, 134, 135, 136, 137, 138, 139, 140, 141, 142, 143, 144, 145, 146, 147, 148, 149, 150, 151, 152, 153, 154, 155, 156, 157, 158, 159, 160, 161, 162, 163, 164, 165, 166, 167, 168, 169, 170, 171, 172, 173, 174, 175, 176, 177, 178, 179, 180, 181, 182, 183, 184, 185, 186, 187, 188, 189, 198, 199, 200, 201, 202, 203, 204, 205, 206, 207, 208, 209, 210, 211, 212, 213, 214, 215, 216, 217, 218, 219, 220, 221, 222, 223, 224, 225, 226, 227, 228, 229, 230, 231, 232, 233, 234, 235] (by decide +kernel) (by decide +kernel)
set_option maxRecDepth 20000 in
theorem gX5_at_X1_refresh : GoodIn wsX5_at (wsV RX5 92 RX1 yX1_refresh wsX1_refresh) := goodIn_app (goodIn_of _ (by decide +kernel)) ggX5_at_X1_refresh
set_option maxRecDepth 20000 in
theorem ggX5_at_X5_cellOf : GoodIn wsX5_at wsX5_cellOf := goodIn_r _ [57] (by decide +kernel) (by decide +kernel)
set_option maxRecDepth 20000 in
theorem gX5_at_X5_cellOf : GoodIn wsX5_at (va_wsS RX5 123 yX5_cellOf wsX5_cellOf) := goodIn_app (goodIn_of _ (by decide +kernel)) ggX5_at_X5_cellOf
theorem dX5_at_0 : decode cX5_at 0 = .ok (.iload_n 1, 1) := by decide +kernel
theorem dX5_at_1 : decode cX5_at 1 = .ok (.invokestatic 49, 3) := by decide +kernel
theorem dX5_at_4 : decode cX5_at 4 = .ok (.ifCond .ne 7, 3) := by decide +kernel
theorem dX5_at_7 : decode cX5_at 7 = .ok (.sipush (-1001), 3) := by decide +kernel
theorem dX5_at_10 : decode cX5_at 10 = .ok (.ireturn, 1) := by decide +kernel
theorem dX5_at_11 : decode cX5_at 11 = .ok (.iload_n 2, 1) := by decide +kernel
theorem dX5_at_12 : decode cX5_at 12 = .ok (.invokestatic 64, 3) := by decide +kernel
theorem dX5_at_15 : decode cX5_at 15 = .ok (.ifCond .ne 7, 3) := by decide +kernel
theorem dX5_at_18 : decode cX5_at 18 = .ok (.sipush (-1002), 3) := by decide +kernel
theorem dX5_at_21 : decode cX5_at 21 = .ok (.ireturn, 1) := by decide +kernel
theorem dX5_at_22 : decode cX5_at 22 = .ok (.aload_n 0, 1) := by decide +kernel
theorem dX5_at_23 : decode cX5_at 23 = .ok (.getfield 26, 3) := by decide +kernel
theorem dX5_at_26 : decode cX5_at 26 = .ok (.aload_n 0, 1) := by decide +kernel
theorem dX5_at_27 : decode cX5_at 27 = .ok (.getfield 19, 3) := by decide +kernel
theorem dX5_at_30 : decode cX5_at 30 = .ok (.aload_n 0, 1) := by decide +kernel
theorem dX5_at_31 : decode cX5_at 31 = .ok (.getfield 10, 3) := by decide +kernel
theorem dX5_at_34 : decode cX5_at 34 = .ok (.invokevirtual 92, 3) := by decide +kernel
theorem dX5_at_37 : decode cX5_at 37 = .ok (.iload_n 1, 1) := by decide +kernel
theorem dX5_at_38 : decode cX5_at 38 = .ok (.iload_n 2, 1) := by decide +kernel
theorem dX5_at_39 : decode cX5_at 39 = .ok (.invokestatic 123, 3) := by decide +kernel
theorem dX5_at_42 : decode cX5_at 42 = .ok (.istore 4, 2) := by decide +kernel
theorem dX5_at_44 : decode cX5_at 44 = .ok (.iload_n 3, 1) := by decide +kernel
theorem dX5_at_45 : decode cX5_at 45 = .ok (.tableswitch 90 0 4 #[35, 46, 57, 68, 79], 35) := by decide +kernel
theorem dX5_at_80 : decode cX5_at 80 = .ok (.aload_n 0, 1) := by decide +kernel
theorem dX5_at_81 : decode cX5_at 81 = .ok (.getfield 26, 3) := by decide +kernel
theorem dX5_at_84 : decode cX5_at 84 = .ok (.getfield 127, 3) := by decide +kernel
theorem dX5_at_87 : decode cX5_at 87 = .ok (.iload 4, 2) := by decide +kernel
theorem dX5_at_89 : decode cX5_at 89 = .ok (.iaload, 1) := by decide +kernel
theorem dX5_at_90 : decode cX5_at 90 = .ok (.ireturn, 1) := by decide +kernel
theorem dX5_at_91 : decode cX5_at 91 = .ok (.aload_n 0, 1) := by decide +kernel
theorem dX5_at_92 : decode cX5_at 92 = .ok (.getfield 26, 3) := by decide +kernel
theorem dX5_at_95 : decode cX5_at 95 = .ok (.getfield 130, 3) := by decide +kernel
theorem dX5_at_98 : decode cX5_at 98 = .ok (.iload 4, 2) := by decide +kernel
theorem dX5_at_100 : decode cX5_at 100 = .ok (.iaload, 1) := by decide +kernel
theorem dX5_at_101 : decode cX5_at 101 = .ok (.ireturn, 1) := by decide +kernel
theorem dX5_at_102 : decode cX5_at 102 = .ok (.aload_n 0, 1) := by decide +kernel
theorem dX5_at_103 : decode cX5_at 103 = .ok (.getfield 26, 3) := by decide +kernel
theorem dX5_at_106 : decode cX5_at 106 = .ok (.getfield 133, 3) := by decide +kernel
theorem dX5_at_109 : decode cX5_at 109 = .ok (.iload 4, 2) := by decide +kernel
theorem dX5_at_111 : decode cX5_at 111 = .ok (.iaload, 1) := by decide +kernel
theorem dX5_at_112 : decode cX5_at 112 = .ok (.ireturn, 1) := by decide +kernel
theorem dX5_at_113 : decode cX5_at 113 = .ok (.aload_n 0, 1) := by decide +kernel
theorem dX5_at_114 : decode cX5_at 114 = .ok (.getfield 26, 3) := by decide +kernel
theorem dX5_at_117 : decode cX5_at 117 = .ok (.getfield 136, 3) := by decide +kernel
theorem dX5_at_120 : decode cX5_at 120 = .ok (.iload 4, 2) := by decide +kernel
theorem dX5_at_122 : decode cX5_at 122 = .ok (.iaload, 1) := by decide +kernel
theorem dX5_at_123 : decode cX5_at 123 = .ok (.ireturn, 1) := by decide +kernel
theorem dX5_at_124 : decode cX5_at 124 = .ok (.aload_n 0, 1) := by decide +kernel
theorem dX5_at_125 : decode cX5_at 125 = .ok (.getfield 26, 3) := by decide +kernel
theorem dX5_at_128 : decode cX5_at 128 = .ok (.getfield 139, 3) := by decide +kernel
theorem dX5_at_131 : decode cX5_at 131 = .ok (.iload 4, 2) := by decide +kernel
theorem dX5_at_133 : decode cX5_at 133 = .ok (.iaload, 1) := by decide +kernel
theorem dX5_at_134 : decode cX5_at 134 = .ok (.ireturn, 1) := by decide +kernel
theorem dX5_at_135 : decode cX5_at 135 = .ok (.sipush (-1002), 3) := by decide +kernel
theorem dX5_at_138 : decode cX5_at 138 = .ok (.ireturn, 1) := by decide +kernel
set_option maxRecDepth 20000 in
theorem ggX5_shared_X2_has : GoodIn wsX5_shared wsX2_has := goodIn_r _ [8, 9, 10, 11, 12, 192, 193, 194, 195, 196, 197, 198] (by decide +kernel) (by decide +kernel)
set_option maxRecDepth 20000 in
theorem gX5_shared_X2_has : GoodIn wsX5_shared (wsV RX5 85 RX2 yX2_has wsX2_has) := goodIn_app (goodIn_of _ (by decide +kernel)) ggX5_shared_X2_has
set_option maxRecDepth 20000 in
theorem ggX5_shared_X1_refresh : GoodIn wsX5_shared wsX1_refresh := goodIn_r _ [17, 18, 19, 20, 21, 22, 23, 24, 25, 26, 27, 16, 28, 29, 30, 31, 32, 33, 34, 35, 36, 37, 38, 39, 40, 41, 42, 43, 44, 45, 46, 47, 48, 49, 10, 11, 12, 50, 51, 52, 53, 54, 55, 56, 57, 58, 59, 60, 61, 62, 63, 64, 65, 66, 67, 68, 69, 70, 71, 72, 73, 74, 75, 76, 77, 78, 79, 80, 81, 82, 83, 7, 84, 85, 86, 87, 88, 89, 90, 91, 92, 93, 94, 95, 96, 97, 98, 99, 100, 101, 102, 103, 104, 105, 106, 107, 108, 109, 110, 111, 112, 113, 114, 115, 116, 117, 118, 119, 120, 121, 122, 123, 124, 125, 126, 127, 128, 129, 130, 131, 132, 133, 134, 135, 136, 137, 138, 139, 140, 141, 142, 143, 144, 145, 146, 147, 148, 149, 150, 151, 152, 153, 154, 155, 156, 157, 158, 159, 160, 161, 162, 163, 164, 165, 166, 167, 168, 169, 170, 171, 172, 173, 174, 175, 176, 177, 178, 179, 180, 181, 182, 199, 200, 201, 202, 203, 204, 205, 206, 207, 208, 209, 210, 211, 212, 213, 192, 193, 194, 195, 196, 197, 198, 214, 215, 216, 217, 218, 219, 220, 221, 222, 223, 224, 225, 226, 227, 228, 229] (by decide +kernel) (by decide +kernel)
set_option maxRecDepth 20000 in
theorem gX5_shared_X1_refresh : GoodIn wsX5_shared (wsV RX5 92 RX1 yX1_refresh wsX1_refresh) := goodIn_app (goodIn_of _ (by decide +kernel)) ggX5_shared_X1_refresh
set_option maxRecDepth 20000 in
theorem ggX5_shared_X2_together : GoodIn wsX5_shared wsX2_together := goodIn_r _ [84, 85, 86, 192, 193, 194, 195, 196, 197, 198] (by decide +kernel) (by decide +kernel)
set_option maxRecDepth 20000 in
theorem gX5_shared_X2_together : GoodIn wsX5_shared (wsV RX5 142 RX2 yX2_together wsX2_together) := goodIn_app (goodIn_of _ (by decide +kernel)) ggX5_shared_X2_together
set_option maxRecDepth 20000 in
theorem ggX5_shared_X1_areShared : GoodIn wsX5_shared wsX1_areShared := goodIn_r _ [150, 20, 66, 60, 111, 199, 200, 201, 202, 203, 204, 205, 206, 207, 208, 209, 210, 211, 212, 213, 192, 193, 194, 195, 196, 197, 198] (by decide +kernel) (by decide +kernel)
set_option maxRecDepth 20000 in
theorem gX5_shared_X1_areShared : GoodIn wsX5_shared (wsV RX5 145 RX1 yX1_areShared wsX1_areShared) := goodIn_app (goodIn_of _ (by decide +kernel)) ggX5_shared_X1_areShared
theorem dX5_shared_0 : decode cX5_shared 0 = .ok (.aload_n 0, 1) := by decide +kernel
theorem dX5_shared_1 : decode cX5_shared 1 = .ok (.getfield 19, 3) := by decide +kernel
theorem dX5_shared_4 : decode cX5_shared 4 = .ok (.iload_n 1, 1) := by decide +kernel
theorem dX5_shared_5 : decode cX5_shared 5 = .ok (.invokevirtual 85, 3) := by decide +kernel
theorem dX5_shared_8 : decode cX5_shared 8 = .ok (.ifCond .eq 14, 3) := by decide +kernel
theorem dX5_shared_11 : decode cX5_shared 11 = .ok (.aload_n 0, 1) := by decide +kernel
theorem dX5_shared_12 : decode cX5_shared 12 = .ok (.getfield 19, 3) := by decide +kernel
theorem dX5_shared_15 : decode cX5_shared 15 = .ok (.iload_n 2, 1) := by decide +kernel
theorem dX5_shared_16 : decode cX5_shared 16 = .ok (.invokevirtual 85, 3) := by decide +kernel
theorem dX5_shared_19 : decode cX5_shared 19 = .ok (.ifCond .ne 7, 3) := by decide +kernel
theorem dX5_shared_22 : decode cX5_shared 22 = .ok (.sipush (-1001), 3) := by decide +kernel
theorem dX5_shared_25 : decode cX5_shared 25 = .ok (.ireturn, 1) := by decide +kernel
theorem dX5_shared_26 : decode cX5_shared 26 = .ok (.aload_n 0, 1) := by decide +kernel
theorem dX5_shared_27 : decode cX5_shared 27 = .ok (.getfield 26, 3) := by decide +kernel
theorem dX5_shared_30 : decode cX5_shared 30 = .ok (.aload_n 0, 1) := by decide +kernel
theorem dX5_shared_31 : decode cX5_shared 31 = .ok (.getfield 19, 3) := by decide +kernel
theorem dX5_shared_34 : decode cX5_shared 34 = .ok (.aload_n 0, 1) := by decide +kernel
theorem dX5_shared_35 : decode cX5_shared 35 = .ok (.getfield 10, 3) := by decide +kernel
theorem dX5_shared_38 : decode cX5_shared 38 = .ok (.invokevirtual 92, 3) := by decide +kernel
theorem dX5_shared_41 : decode cX5_shared 41 = .ok (.aload_n 0, 1) := by decide +kernel
theorem dX5_shared_42 : decode cX5_shared 42 = .ok (.getfield 19, 3) := by decide +kernel
theorem dX5_shared_45 : decode cX5_shared 45 = .ok (.iload_n 1, 1) := by decide +kernel
theorem dX5_shared_46 : decode cX5_shared 46 = .ok (.iload_n 2, 1) := by decide +kernel
theorem dX5_shared_47 : decode cX5_shared 47 = .ok (.invokevirtual 142, 3) := by decide +kernel
theorem dX5_shared_50 : decode cX5_shared 50 = .ok (.ifCond .eq 23, 3) := by decide +kernel
theorem dX5_shared_53 : decode cX5_shared 53 = .ok (.aload_n 0, 1) := by decide +kernel
theorem dX5_shared_54 : decode cX5_shared 54 = .ok (.getfield 26, 3) := by decide +kernel
theorem dX5_shared_57 : decode cX5_shared 57 = .ok (.aload_n 0, 1) := by decide +kernel
theorem dX5_shared_58 : decode cX5_shared 58 = .ok (.getfield 19, 3) := by decide +kernel
theorem dX5_shared_61 : decode cX5_shared 61 = .ok (.iload_n 1, 1) := by decide +kernel
theorem dX5_shared_62 : decode cX5_shared 62 = .ok (.iload_n 2, 1) := by decide +kernel
theorem dX5_shared_63 : decode cX5_shared 63 = .ok (.invokevirtual 145, 3) := by decide +kernel
theorem dX5_shared_66 : decode cX5_shared 66 = .ok (.ifCond .eq 7, 3) := by decide +kernel
theorem dX5_shared_69 : decode cX5_shared 69 = .ok (.iconst 1, 1) := by decide +kernel
theorem dX5_shared_70 : decode cX5_shared 70 = .ok (.goto 4, 3) := by decide +kernel
theorem dX5_shared_73 : decode cX5_shared 73 = .ok (.iconst 0, 1) := by decide +kernel
theorem dX5_shared_74 : decode cX5_shared 74 = .ok (.ireturn, 1) := by decide +kernel
set_option maxRecDepth 20000 in
theorem ggX5_setting_X5_within : GoodIn wsX5_setting wsX5_within := goodIn_r _ [6] (by decide +kernel) (by decide +kernel)
set_option maxRecDepth 20000 in
theorem gX5_setting_X5_within : GoodIn wsX5_setting (va_wsS RX5 42 yX5_within wsX5_within) := goodIn_app (goodIn_of _ (by decide +kernel)) ggX5_setting_X5_within
theorem dX5_setting_0 : decode cX5_setting 0 = .ok (.iload_n 1, 1) := by decide +kernel
theorem dX5_setting_1 : decode cX5_setting 1 = .ok (.iconst 0, 1) := by decide +kernel
theorem dX5_setting_2 : decode cX5_setting 2 = .ok (.iconst 1, 1) := by decide +kernel
theorem dX5_setting_3 : decode cX5_setting 3 = .ok (.invokestatic 42, 3) := by decide +kernel
theorem dX5_setting_6 : decode cX5_setting 6 = .ok (.ifCond .eq 13, 3) := by decide +kernel
theorem dX5_setting_9 : decode cX5_setting 9 = .ok (.iload_n 2, 1) := by decide +kernel
theorem dX5_setting_10 : decode cX5_setting 10 = .ok (.iconst 0, 1) := by decide +kernel
theorem dX5_setting_11 : decode cX5_setting 11 = .ok (.bipush 100, 2) := by decide +kernel
theorem dX5_setting_13 : decode cX5_setting 13 = .ok (.invokestatic 42, 3) := by decide +kernel
theorem dX5_setting_16 : decode cX5_setting 16 = .ok (.ifCond .ne 7, 3) := by decide +kernel
theorem dX5_setting_19 : decode cX5_setting 19 = .ok (.sipush (-1002), 3) := by decide +kernel
theorem dX5_setting_22 : decode cX5_setting 22 = .ok (.ireturn, 1) := by decide +kernel
theorem dX5_setting_23 : decode cX5_setting 23 = .ok (.iload_n 1, 1) := by decide +kernel
theorem dX5_setting_24 : decode cX5_setting 24 = .ok (.ifCond .ne 10, 3) := by decide +kernel
theorem dX5_setting_27 : decode cX5_setting 27 = .ok (.aload_n 0, 1) := by decide +kernel
theorem dX5_setting_28 : decode cX5_setting 28 = .ok (.getfield 30, 3) := by decide +kernel
theorem dX5_setting_31 : decode cX5_setting 31 = .ok (.goto 7, 3) := by decide +kernel
theorem dX5_setting_34 : decode cX5_setting 34 = .ok (.aload_n 0, 1) := by decide +kernel
theorem dX5_setting_35 : decode cX5_setting 35 = .ok (.getfield 34, 3) := by decide +kernel
theorem dX5_setting_38 : decode cX5_setting 38 = .ok (.istore_n 3, 1) := by decide +kernel
theorem dX5_setting_39 : decode cX5_setting 39 = .ok (.iload_n 1, 1) := by decide +kernel
theorem dX5_setting_40 : decode cX5_setting 40 = .ok (.ifCond .ne 11, 3) := by decide +kernel
theorem dX5_setting_43 : decode cX5_setting 43 = .ok (.aload_n 0, 1) := by decide +kernel
theorem dX5_setting_44 : decode cX5_setting 44 = .ok (.iload_n 2, 1) := by decide +kernel
theorem dX5_setting_45 : decode cX5_setting 45 = .ok (.putfield 30, 3) := by decide +kernel
theorem dX5_setting_48 : decode cX5_setting 48 = .ok (.goto 8, 3) := by decide +kernel
theorem dX5_setting_51 : decode cX5_setting 51 = .ok (.aload_n 0, 1) := by decide +kernel
theorem dX5_setting_52 : decode cX5_setting 52 = .ok (.iload_n 2, 1) := by decide +kernel
theorem dX5_setting_53 : decode cX5_setting 53 = .ok (.putfield 34, 3) := by decide +kernel
theorem dX5_setting_56 : decode cX5_setting 56 = .ok (.iload_n 3, 1) := by decide +kernel
theorem dX5_setting_57 : decode cX5_setting 57 = .ok (.ireturn, 1) := by decide +kernel
theorem dX5_hides_0 : decode cX5_hides 0 = .ok (.aload_n 0, 1) := by decide +kernel
theorem dX5_hides_1 : decode cX5_hides 1 = .ok (.getfield 37, 3) := by decide +kernel
theorem dX5_hides_4 : decode cX5_hides 4 = .ok (.ifCond .eq 7, 3) := by decide +kernel
theorem dX5_hides_7 : decode cX5_hides 7 = .ok (.iconst 1, 1) := by decide +kernel
theorem dX5_hides_8 : decode cX5_hides 8 = .ok (.goto 4, 3) := by decide +kernel
theorem dX5_hides_11 : decode cX5_hides 11 = .ok (.iconst 0, 1) := by decide +kernel
theorem dX5_hides_12 : decode cX5_hides 12 = .ok (.istore_n 2, 1) := by decide +kernel
theorem dX5_hides_13 : decode cX5_hides 13 = .ok (.aload_n 0, 1) := by decide +kernel
theorem dX5_hides_14 : decode cX5_hides 14 = .ok (.iload_n 1, 1) := by decide +kernel
theorem dX5_hides_15 : decode cX5_hides 15 = .ok (.putfield 37, 3) := by decide +kernel
theorem dX5_hides_18 : decode cX5_hides 18 = .ok (.iload_n 2, 1) := by decide +kernel
theorem dX5_hides_19 : decode cX5_hides 19 = .ok (.ireturn, 1) := by decide +kernel
set_option maxRecDepth 20000 in
theorem ggX5_gap_X5_isStaff : GoodIn wsX5_gap wsX5_isStaff := goodIn_r _ [7, 8, 9, 6, 10] (by decide +kernel) (by decide +kernel)
set_option maxRecDepth 20000 in
theorem gX5_gap_X5_isStaff : GoodIn wsX5_gap (va_wsS RX5 49 yX5_isStaff wsX5_isStaff) := goodIn_app (goodIn_of _ (by decide +kernel)) ggX5_gap_X5_isStaff
set_option maxRecDepth 20000 in
theorem ggX5_gap_X5_isHidden : GoodIn wsX5_gap wsX5_isHidden := goodIn_r _ [14, 15, 2, 16, 17, 18, 19, 20, 21, 22, 206, 207, 208, 209, 210, 211, 212, 213, 214, 215, 216, 217, 218, 219] (by decide +kernel) (by decide +kernel)
set_option maxRecDepth 20000 in
theorem gX5_gap_X5_isHidden : GoodIn wsX5_gap (wsV RX5 149 RX5 yX5_isHidden wsX5_isHidden) := goodIn_app (goodIn_of _ (by decide +kernel)) ggX5_gap_X5_isHidden
set_option maxRecDepth 20000 in
theorem ggX5_gap_X1_refresh : GoodIn wsX5_gap wsX1_refresh := goodIn_r _ [27, 28, 29, 30, 31, 32, 33, 34, 35, 36, 37, 26, 38, 39, 40, 41, 42, 43, 44, 45, 46, 47, 48, 49, 50, 51, 52, 53, 54, 55, 56, 57, 58, 59, 9, 6, 10, 60, 61, 62, 63, 64, 65, 66, 67, 68, 69, 70, 71, 72, 73, 74, 75, 76, 77, 78, 79, 80, 81, 82, 83, 84, 85, 86, 87, 88, 89, 90, 91, 92, 93, 19, 94, 22, 95, 96, 97, 98, 99, 100, 101, 102, 103, 104, 105, 106, 107, 108, 109, 110, 111, 112, 113, 114, 115, 116, 117, 118, 119, 120, 121, 122, 123, 124, 125, 126, 127, 128, 129, 130, 131, 132, 133, 134, 135, 136, 137, 138, 139, 140, 141, 142, 143, 144, 145, 146, 147, 148, 149, 150, 151, 152, 153, 154, 155, 156, 157, 158, 159, 160, 161, 162, 163, 164, 165, 166, 167, 168, 169, 170, 171, 172, 173, 174, 175, 176, 177, 178, 179, 180, 181, 182, 183, 184, 185, 186, 187, 188, 189, 190, 191, 220, 221, 222, 223, 224, 225, 226, 227, 228, 229, 230, 231, 232, 233, 234, 213, 214, 215, 216, 217, 218, 219, 235, 236, 237, 238, 239, 240, 241, 242, 243, 244, 245, 246, 247, 248, 249, 250] (by decide +kernel) (by decide +kernel)
set_option maxRecDepth 20000 in
theorem gX5_gap_X1_refresh : GoodIn wsX5_gap (wsV RX5 92 RX1 yX1_refresh wsX1_refresh) := goodIn_app (goodIn_of _ (by decide +kernel)) ggX5_gap_X1_refresh
set_option maxRecDepth 20000 in
theorem ggX5_gap_X5_shownAbove : GoodIn wsX5_gap wsX5_shownAbove := goodIn_r _ [195, 11, 12, 13, 6, 14, 15, 2, 16, 17, 18, 19, 20, 21, 22, 206, 207, 208, 209, 210, 211, 212, 213, 214, 215, 216, 217, 218, 219] (by decide +kernel) (by decide +kernel)
set_option maxRecDepth 20000 in
theorem gX5_gap_X5_shownAbove : GoodIn wsX5_gap (wsV RX5 152 RX5 yX5_shownAbove wsX5_shownAbove) := goodIn_app (goodIn_of _ (by decide +kernel)) ggX5_gap_X5_shownAbove
set_option maxRecDepth 20000 in
theorem ggX5_gap_X5_gapBetween : GoodIn wsX5_gap wsX5_gapBetween := goodIn_r _ [199, 200, 1, 201, 202, 203, 204, 107, 103, 108, 205, 60, 6, 61, 206, 207, 208, 209, 210, 211, 212, 220, 221, 222, 223, 224, 225, 226, 227, 228, 229, 230, 231, 232, 233, 234] (by decide +kernel) (by decide +kernel)
set_option maxRecDepth 20000 in
theorem gX5_gap_X5_gapBetween : GoodIn wsX5_gap (wsV RX5 155 RX5 yX5_gapBetween wsX5_gapBetween) := goodIn_app (goodIn_of _ (by decide +kernel)) ggX5_gap_X5_gapBetween
theorem dX5_gap_0 : decode cX5_gap 0 = .ok (.iload_n 1, 1) := by decide +kernel
theorem dX5_gap_1 : decode cX5_gap 1 = .ok (.invokestatic 49, 3) := by decide +kernel
theorem dX5_gap_4 : decode cX5_gap 4 = .ok (.ifCond .ne 7, 3) := by decide +kernel
theorem dX5_gap_7 : decode cX5_gap 7 = .ok (.sipush (-1001), 3) := by decide +kernel
theorem dX5_gap_10 : decode cX5_gap 10 = .ok (.ireturn, 1) := by decide +kernel
theorem dX5_gap_11 : decode cX5_gap 11 = .ok (.iload_n 1, 1) := by decide +kernel
theorem dX5_gap_12 : decode cX5_gap 12 = .ok (.ifCond .eq 11, 3) := by decide +kernel
theorem dX5_gap_15 : decode cX5_gap 15 = .ok (.aload_n 0, 1) := by decide +kernel
theorem dX5_gap_16 : decode cX5_gap 16 = .ok (.iload_n 1, 1) := by decide +kernel
theorem dX5_gap_17 : decode cX5_gap 17 = .ok (.invokevirtual 149, 3) := by decide +kernel
theorem dX5_gap_20 : decode cX5_gap 20 = .ok (.ifCond .eq 7, 3) := by decide +kernel
theorem dX5_gap_23 : decode cX5_gap 23 = .ok (.sipush (-1000), 3) := by decide +kernel
theorem dX5_gap_26 : decode cX5_gap 26 = .ok (.ireturn, 1) := by decide +kernel
theorem dX5_gap_27 : decode cX5_gap 27 = .ok (.aload_n 0, 1) := by decide +kernel
theorem dX5_gap_28 : decode cX5_gap 28 = .ok (.getfield 26, 3) := by decide +kernel
theorem dX5_gap_31 : decode cX5_gap 31 = .ok (.aload_n 0, 1) := by decide +kernel
theorem dX5_gap_32 : decode cX5_gap 32 = .ok (.getfield 19, 3) := by decide +kernel
theorem dX5_gap_35 : decode cX5_gap 35 = .ok (.aload_n 0, 1) := by decide +kernel
theorem dX5_gap_36 : decode cX5_gap 36 = .ok (.getfield 10, 3) := by decide +kernel
theorem dX5_gap_39 : decode cX5_gap 39 = .ok (.invokevirtual 92, 3) := by decide +kernel
theorem dX5_gap_42 : decode cX5_gap 42 = .ok (.aload_n 0, 1) := by decide +kernel
theorem dX5_gap_43 : decode cX5_gap 43 = .ok (.aload_n 0, 1) := by decide +kernel
theorem dX5_gap_44 : decode cX5_gap 44 = .ok (.iload_n 1, 1) := by decide +kernel
theorem dX5_gap_45 : decode cX5_gap 45 = .ok (.invokevirtual 152, 3) := by decide +kernel
theorem dX5_gap_48 : decode cX5_gap 48 = .ok (.iload_n 1, 1) := by decide +kernel
theorem dX5_gap_49 : decode cX5_gap 49 = .ok (.invokevirtual 155, 3) := by decide +kernel
theorem dX5_gap_52 : decode cX5_gap 52 = .ok (.ireturn, 1) := by decide +kernel
set_option maxRecDepth 20000 in
theorem ggX5_place_X5_isStaff : GoodIn wsX5_place wsX5_isStaff := goodIn_r _ [10, 11, 12, 9, 13] (by decide +kernel) (by decide +kernel)
set_option maxRecDepth 20000 in
theorem gX5_place_X5_isStaff : GoodIn wsX5_place (va_wsS RX5 49 yX5_isStaff wsX5_isStaff) := goodIn_app (goodIn_of _ (by decide +kernel)) ggX5_place_X5_isStaff
set_option maxRecDepth 20000 in
theorem ggX5_place_X5_isHidden : GoodIn wsX5_place wsX5_isHidden := goodIn_r _ [17, 18, 4, 19, 20, 21, 22, 23, 24, 25, 213, 214, 215, 216, 217, 218, 219, 220, 221, 222, 223, 224, 225, 226] (by decide +kernel) (by decide +kernel)
set_option maxRecDepth 20000 in
theorem gX5_place_X5_isHidden : GoodIn wsX5_place (wsV RX5 149 RX5 yX5_isHidden wsX5_isHidden) := goodIn_app (goodIn_of _ (by decide +kernel)) ggX5_place_X5_isHidden
set_option maxRecDepth 20000 in
theorem ggX5_place_X1_refresh : GoodIn wsX5_place wsX1_refresh := goodIn_r _ [30, 31, 32, 33, 34, 35, 36, 37, 38, 39, 40, 29, 41, 42, 43, 44, 45, 46, 47, 48, 49, 50, 51, 52, 53, 54, 55, 56, 57, 58, 59, 60, 61, 62, 12, 9, 13, 63, 64, 65, 66, 67, 68, 69, 70, 71, 72, 73, 74, 75, 76, 77, 78, 79, 80, 81, 82, 83, 84, 85, 86, 87, 88, 89, 90, 91, 92, 93, 94, 95, 96, 22, 97, 25, 98, 99, 100, 101, 102, 103, 104, 105, 106, 107, 108, 109, 110, 111, 112, 113, 114, 115, 116, 117, 118, 119, 120, 121, 122, 123, 124, 125, 126, 127, 128, 129, 130, 131, 132, 133, 134, 135, 136, 137, 138, 139, 140, 141, 142, 143, 144, 145, 146, 147, 148, 149, 150, 151, 152, 153, 154, 155, 156, 157, 158, 159, 160, 161, 162, 163, 164, 165, 166, 167, 168, 169, 170, 171, 172, 173, 174, 175, 176, 177, 178, 179, 180, 181, 182, 183, 184, 185, 186, 187, 188, 189, 190, 191, 192, 193, 194, 227, 228, 229, 230, 231, 232, 233, 234, 235, 236, 237, 238, 239, 240, 241, 220, 221, 222, 223, 224, 225, 226, 242, 243, 244, 245, 246, 247, 248, 249, 250, 251, 252, 253, 254, 255, 256, 257] (by decide +kernel) (by decide +kernel)
set_option maxRecDepth 20000 in
theorem gX5_place_X1_refresh : GoodIn wsX5_place (wsV RX5 92 RX1 yX1_refresh wsX1_refresh) := goodIn_app (goodIn_of _ (by decide +kernel)) ggX5_place_X1_refresh
set_option maxRecDepth 20000 in
theorem ggX5_place_X5_stepsDownTo : GoodIn wsX5_place wsX5_stepsDownTo := goodIn_r _ [198, 14, 15, 16, 9, 17, 18, 4, 19, 20, 21, 22, 23, 24, 25, 199, 200, 201, 202, 203, 204, 205, 206, 207, 3, 208, 209, 210, 211, 110, 106, 111, 212, 63, 64, 213, 214, 215, 216, 217, 218, 219, 220, 221, 222, 223, 224, 225, 226, 227, 228, 229, 230, 231, 232, 233, 234, 235, 236, 237, 238, 239, 240, 241] (by decide +kernel) (by decide +kernel)
set_option maxRecDepth 20000 in
theorem gX5_place_X5_stepsDownTo : GoodIn wsX5_place (wsV RX5 119 RX5 yX5_stepsDownTo wsX5_stepsDownTo) := goodIn_app (goodIn_of _ (by decide +kernel)) ggX5_place_X5_stepsDownTo
theorem dX5_place_0 : decode cX5_place 0 = .ok (.iload_n 1, 1) := by decide +kernel
theorem dX5_place_1 : decode cX5_place 1 = .ok (.invokestatic 49, 3) := by decide +kernel
theorem dX5_place_4 : decode cX5_place 4 = .ok (.ifCond .ne 7, 3) := by decide +kernel
theorem dX5_place_7 : decode cX5_place 7 = .ok (.ldc2_w 114, 3) := by decide +kernel
theorem dX5_place_10 : decode cX5_place 10 = .ok (.lreturn, 1) := by decide +kernel
theorem dX5_place_11 : decode cX5_place 11 = .ok (.aload_n 0, 1) := by decide +kernel
theorem dX5_place_12 : decode cX5_place 12 = .ok (.iload_n 1, 1) := by decide +kernel
theorem dX5_place_13 : decode cX5_place 13 = .ok (.invokevirtual 149, 3) := by decide +kernel
theorem dX5_place_16 : decode cX5_place 16 = .ok (.ifCond .eq 7, 3) := by decide +kernel
theorem dX5_place_19 : decode cX5_place 19 = .ok (.ldc2_w 158, 3) := by decide +kernel
theorem dX5_place_22 : decode cX5_place 22 = .ok (.lreturn, 1) := by decide +kernel
theorem dX5_place_23 : decode cX5_place 23 = .ok (.aload_n 0, 1) := by decide +kernel
theorem dX5_place_24 : decode cX5_place 24 = .ok (.getfield 26, 3) := by decide +kernel
theorem dX5_place_27 : decode cX5_place 27 = .ok (.aload_n 0, 1) := by decide +kernel
theorem dX5_place_28 : decode cX5_place 28 = .ok (.getfield 19, 3) := by decide +kernel
theorem dX5_place_31 : decode cX5_place 31 = .ok (.aload_n 0, 1) := by decide +kernel
theorem dX5_place_32 : decode cX5_place 32 = .ok (.getfield 10, 3) := by decide +kernel
theorem dX5_place_35 : decode cX5_place 35 = .ok (.invokevirtual 92, 3) := by decide +kernel
theorem dX5_place_38 : decode cX5_place 38 = .ok (.aload_n 0, 1) := by decide +kernel
theorem dX5_place_39 : decode cX5_place 39 = .ok (.getfield 46, 3) := by decide +kernel
theorem dX5_place_42 : decode cX5_place 42 = .ok (.i2l, 1) := by decide +kernel
theorem dX5_place_43 : decode cX5_place 43 = .ok (.aload_n 0, 1) := by decide +kernel
theorem dX5_place_44 : decode cX5_place 44 = .ok (.iload_n 1, 1) := by decide +kernel
theorem dX5_place_45 : decode cX5_place 45 = .ok (.invokevirtual 119, 3) := by decide +kernel
theorem dX5_place_48 : decode cX5_place 48 = .ok (.i2l, 1) := by decide +kernel
theorem dX5_place_49 : decode cX5_place 49 = .ok (.lmul, 1) := by decide +kernel
theorem dX5_place_50 : decode cX5_place 50 = .ok (.lreturn, 1) := by decide +kernel
set_option maxRecDepth 20000 in
theorem ggX5_crowded_X5_isStaff : GoodIn wsX5_crowded wsX5_isStaff := goodIn_r _ [11, 12, 13, 10, 14] (by decide +kernel) (by decide +kernel)
set_option maxRecDepth 20000 in
theorem gX5_crowded_X5_isStaff : GoodIn wsX5_crowded (va_wsS RX5 49 yX5_isStaff wsX5_isStaff) := goodIn_app (goodIn_of _ (by decide +kernel)) ggX5_crowded_X5_isStaff
set_option maxRecDepth 20000 in
theorem ggX5_crowded_X1_refresh : GoodIn wsX5_crowded wsX1_refresh := goodIn_r _ [19, 20, 21, 22, 23, 24, 25, 26, 27, 28, 29, 18, 30, 31, 32, 33, 34, 35, 36, 37, 38, 39, 40, 41, 42, 43, 44, 45, 46, 47, 48, 49, 50, 51, 13, 10, 14, 52, 53, 54, 55, 56, 57, 58, 59, 60, 61, 62, 63, 64, 65, 66, 67, 68, 69, 70, 71, 72, 73, 74, 75, 76, 77, 78, 79, 80, 81, 82, 83, 84, 85, 86, 87, 88, 89, 90, 91, 92, 93, 94, 95, 96, 97, 98, 99, 100, 101, 102, 103, 104, 105, 106, 107, 108, 109, 110, 111, 112, 113, 114, 115, 116, 117, 118, 119, 120, 121, 122, 123, 124, 125, 126, 127, 128, 129, 130, 131, 132, 133, 134, 135, 136, 137, 138, 139, 140, 141, 142, 143, 144, 145, 146, 147, 148, 149, 150, 151, 152, 153, 154, 155, 156, 157, 158, 159, 160, 161, 162, 163, 164, 165, 166, 167, 168, 169, 170, 171, 172, 173, 174, 175, 176, 177, 178, 179, 180, 181, 182, 183, 184, 185, 194, 195, 196, 197, 198, 199, 200, 201, 202, 203, 204, 205, 206, 207, 208, 209, 210, 211, 212, 213, 214, 215, 216, 217, 218, 219, 220, 221, 222, 223, 224, 225, 226, 227, 228, 229, 230, 231] (by decide +kernel) (by decide +kernel)
set_option maxRecDepth 20000 in
theorem gX5_crowded_X1_refresh : GoodIn wsX5_crowded (wsV RX5 92 RX1 yX1_refresh wsX1_refresh) := goodIn_app (goodIn_of _ (by decide +kernel)) ggX5_crowded_X1_refresh
set_option maxRecDepth 20000 in
theorem ggX5_crowded_X5_cellOf : GoodIn wsX5_crowded wsX5_cellOf := goodIn_r _ [53] (by decide +kernel) (by decide +kernel)
set_option maxRecDepth 20000 in
theorem gX5_crowded_X5_cellOf : GoodIn wsX5_crowded (va_wsS RX5 123 yX5_cellOf wsX5_cellOf) := goodIn_app (goodIn_of _ (by decide +kernel)) ggX5_crowded_X5_cellOf
theorem dX5_crowded_0 : decode cX5_crowded 0 = .ok (.iload_n 1, 1) := by decide +kernel
theorem dX5_crowded_1 : decode cX5_crowded 1 = .ok (.invokestatic 49, 3) := by decide +kernel
theorem dX5_crowded_4 : decode cX5_crowded 4 = .ok (.ifCond .ne 7, 3) := by decide +kernel
theorem dX5_crowded_7 : decode cX5_crowded 7 = .ok (.sipush (-1001), 3) := by decide +kernel
theorem dX5_crowded_10 : decode cX5_crowded 10 = .ok (.ireturn, 1) := by decide +kernel
theorem dX5_crowded_11 : decode cX5_crowded 11 = .ok (.aload_n 0, 1) := by decide +kernel
theorem dX5_crowded_12 : decode cX5_crowded 12 = .ok (.getfield 26, 3) := by decide +kernel
theorem dX5_crowded_15 : decode cX5_crowded 15 = .ok (.aload_n 0, 1) := by decide +kernel
theorem dX5_crowded_16 : decode cX5_crowded 16 = .ok (.getfield 19, 3) := by decide +kernel
theorem dX5_crowded_19 : decode cX5_crowded 19 = .ok (.aload_n 0, 1) := by decide +kernel
theorem dX5_crowded_20 : decode cX5_crowded 20 = .ok (.getfield 10, 3) := by decide +kernel
theorem dX5_crowded_23 : decode cX5_crowded 23 = .ok (.invokevirtual 92, 3) := by decide +kernel
theorem dX5_crowded_26 : decode cX5_crowded 26 = .ok (.iconst 0, 1) := by decide +kernel
theorem dX5_crowded_27 : decode cX5_crowded 27 = .ok (.istore_n 2, 1) := by decide +kernel
theorem dX5_crowded_28 : decode cX5_crowded 28 = .ok (.iconst 0, 1) := by decide +kernel
theorem dX5_crowded_29 : decode cX5_crowded 29 = .ok (.istore_n 3, 1) := by decide +kernel
theorem dX5_crowded_30 : decode cX5_crowded 30 = .ok (.iconst 0, 1) := by decide +kernel
theorem dX5_crowded_31 : decode cX5_crowded 31 = .ok (.istore 4, 2) := by decide +kernel
theorem dX5_crowded_33 : decode cX5_crowded 33 = .ok (.iload 4, 2) := by decide +kernel
theorem dX5_crowded_35 : decode cX5_crowded 35 = .ok (.bipush 100, 2) := by decide +kernel
theorem dX5_crowded_37 : decode cX5_crowded 37 = .ok (.if_icmp .ge 59, 3) := by decide +kernel
theorem dX5_crowded_40 : decode cX5_crowded 40 = .ok (.iload_n 1, 1) := by decide +kernel
theorem dX5_crowded_41 : decode cX5_crowded 41 = .ok (.iload 4, 2) := by decide +kernel
theorem dX5_crowded_43 : decode cX5_crowded 43 = .ok (.invokestatic 123, 3) := by decide +kernel
theorem dX5_crowded_46 : decode cX5_crowded 46 = .ok (.istore 5, 2) := by decide +kernel
theorem dX5_crowded_48 : decode cX5_crowded 48 = .ok (.iload_n 2, 1) := by decide +kernel
theorem dX5_crowded_49 : decode cX5_crowded 49 = .ok (.aload_n 0, 1) := by decide +kernel
theorem dX5_crowded_50 : decode cX5_crowded 50 = .ok (.getfield 26, 3) := by decide +kernel
theorem dX5_crowded_53 : decode cX5_crowded 53 = .ok (.getfield 133, 3) := by decide +kernel
theorem dX5_crowded_56 : decode cX5_crowded 56 = .ok (.iload 5, 2) := by decide +kernel
theorem dX5_crowded_58 : decode cX5_crowded 58 = .ok (.iaload, 1) := by decide +kernel
theorem dX5_crowded_59 : decode cX5_crowded 59 = .ok (.ifCond .le 7, 3) := by decide +kernel
theorem dX5_crowded_62 : decode cX5_crowded 62 = .ok (.iconst 1, 1) := by decide +kernel
theorem dX5_crowded_63 : decode cX5_crowded 63 = .ok (.goto 4, 3) := by decide +kernel
theorem dX5_crowded_66 : decode cX5_crowded 66 = .ok (.iconst 0, 1) := by decide +kernel
theorem dX5_crowded_67 : decode cX5_crowded 67 = .ok (.iadd, 1) := by decide +kernel
theorem dX5_crowded_68 : decode cX5_crowded 68 = .ok (.istore_n 2, 1) := by decide +kernel
theorem dX5_crowded_69 : decode cX5_crowded 69 = .ok (.iload_n 3, 1) := by decide +kernel
theorem dX5_crowded_70 : decode cX5_crowded 70 = .ok (.aload_n 0, 1) := by decide +kernel
theorem dX5_crowded_71 : decode cX5_crowded 71 = .ok (.getfield 26, 3) := by decide +kernel
theorem dX5_crowded_74 : decode cX5_crowded 74 = .ok (.getfield 160, 3) := by decide +kernel
theorem dX5_crowded_77 : decode cX5_crowded 77 = .ok (.iload 5, 2) := by decide +kernel
theorem dX5_crowded_79 : decode cX5_crowded 79 = .ok (.iaload, 1) := by decide +kernel
theorem dX5_crowded_80 : decode cX5_crowded 80 = .ok (.ifCond .le 7, 3) := by decide +kernel
theorem dX5_crowded_83 : decode cX5_crowded 83 = .ok (.iconst 1, 1) := by decide +kernel
theorem dX5_crowded_84 : decode cX5_crowded 84 = .ok (.goto 4, 3) := by decide +kernel
theorem dX5_crowded_87 : decode cX5_crowded 87 = .ok (.iconst 0, 1) := by decide +kernel
theorem dX5_crowded_88 : decode cX5_crowded 88 = .ok (.iadd, 1) := by decide +kernel
theorem dX5_crowded_89 : decode cX5_crowded 89 = .ok (.istore_n 3, 1) := by decide +kernel
theorem dX5_crowded_90 : decode cX5_crowded 90 = .ok (.iinc 4 1, 3) := by decide +kernel
theorem dX5_crowded_93 : decode cX5_crowded 93 = .ok (.goto (-60), 3) := by decide +kernel
theorem dX5_crowded_96 : decode cX5_crowded 96 = .ok (.iload_n 2, 1) := by decide +kernel
theorem dX5_crowded_97 : decode cX5_crowded 97 = .ok (.ifCond .ne 13, 3) := by decide +kernel
theorem dX5_crowded_100 : decode cX5_crowded 100 = .ok (.new 163, 3) := by decide +kernel
theorem dX5_crowded_103 : decode cX5_crowded 103 = .ok (.dup, 1) := by decide +kernel
theorem dX5_crowded_104 : decode cX5_crowded 104 = .ok (.ldc 165, 2) := by decide +kernel
theorem dX5_crowded_106 : decode cX5_crowded 106 = .ok (.invokespecial 167, 3) := by decide +kernel
theorem dX5_crowded_109 : decode cX5_crowded 109 = .ok (.athrow, 1) := by decide +kernel
theorem dX5_crowded_110 : decode cX5_crowded 110 = .ok (.sipush 1000, 3) := by decide +kernel
theorem dX5_crowded_113 : decode cX5_crowded 113 = .ok (.iload_n 3, 1) := by decide +kernel
theorem dX5_crowded_114 : decode cX5_crowded 114 = .ok (.imul, 1) := by decide +kernel
theorem dX5_crowded_115 : decode cX5_crowded 115 = .ok (.iload_n 2, 1) := by decide +kernel
theorem dX5_crowded_116 : decode cX5_crowded 116 = .ok (.idiv, 1) := by decide +kernel
theorem dX5_crowded_117 : decode cX5_crowded 117 = .ok (.ireturn, 1) := by decide +kernel
set_option maxRecDepth 20000 in
theorem ggX5_about_X5_shownStaves : GoodIn wsX5_about wsX5_shownStaves := goodIn_r _ [9, 10, 11, 12, 8, 13, 14, 1, 15, 16, 17, 18, 19, 20, 21, 22, 23, 24, 25, 26, 27, 28, 29, 30, 31, 32, 33, 34, 35] (by decide +kernel) (by decide +kernel)
set_option maxRecDepth 20000 in
theorem gX5_about_X5_shownStaves : GoodIn wsX5_about (wsV RX5 170 RX5 yX5_shownStaves wsX5_shownStaves) := goodIn_app (goodIn_of _ (by decide +kernel)) ggX5_about_X5_shownStaves
theorem dX5_about_0 : decode cX5_about 0 = .ok (.iload_n 1, 1) := by decide +kernel
theorem dX5_about_1 : decode cX5_about 1 = .ok (.tableswitch 48 0 2 #[27, 35, 43], 27) := by decide +kernel
theorem dX5_about_28 : decode cX5_about 28 = .ok (.aload_n 0, 1) := by decide +kernel
theorem dX5_about_29 : decode cX5_about 29 = .ok (.getfield 19, 3) := by decide +kernel
theorem dX5_about_32 : decode cX5_about 32 = .ok (.getfield 78, 3) := by decide +kernel
theorem dX5_about_35 : decode cX5_about 35 = .ok (.ireturn, 1) := by decide +kernel
theorem dX5_about_36 : decode cX5_about 36 = .ok (.aload_n 0, 1) := by decide +kernel
theorem dX5_about_37 : decode cX5_about 37 = .ok (.getfield 10, 3) := by decide +kernel
theorem dX5_about_40 : decode cX5_about 40 = .ok (.getfield 67, 3) := by decide +kernel
theorem dX5_about_43 : decode cX5_about 43 = .ok (.ireturn, 1) := by decide +kernel
theorem dX5_about_44 : decode cX5_about 44 = .ok (.aload_n 0, 1) := by decide +kernel
theorem dX5_about_45 : decode cX5_about 45 = .ok (.invokevirtual 170, 3) := by decide +kernel
theorem dX5_about_48 : decode cX5_about 48 = .ok (.ireturn, 1) := by decide +kernel
theorem dX5_about_49 : decode cX5_about 49 = .ok (.sipush (-1002), 3) := by decide +kernel
theorem dX5_about_52 : decode cX5_about 52 = .ok (.ireturn, 1) := by decide +kernel
theorem dX5_within_0 : decode cX5_within 0 = .ok (.iload_n 0, 1) := by decide +kernel
theorem dX5_within_1 : decode cX5_within 1 = .ok (.iload_n 1, 1) := by decide +kernel
theorem dX5_within_2 : decode cX5_within 2 = .ok (.if_icmp .lt 12, 3) := by decide +kernel
theorem dX5_within_5 : decode cX5_within 5 = .ok (.iload_n 0, 1) := by decide +kernel
theorem dX5_within_6 : decode cX5_within 6 = .ok (.iload_n 2, 1) := by decide +kernel
theorem dX5_within_7 : decode cX5_within 7 = .ok (.if_icmp .gt 7, 3) := by decide +kernel
theorem dX5_within_10 : decode cX5_within 10 = .ok (.iconst 1, 1) := by decide +kernel
theorem dX5_within_11 : decode cX5_within 11 = .ok (.goto 4, 3) := by decide +kernel
theorem dX5_within_14 : decode cX5_within 14 = .ok (.iconst 0, 1) := by decide +kernel
theorem dX5_within_15 : decode cX5_within 15 = .ok (.ireturn, 1) := by decide +kernel
set_option maxRecDepth 20000 in
theorem ggX5_isStaff_X5_within : GoodIn wsX5_isStaff wsX5_within := goodIn_r _ [4] (by decide +kernel) (by decide +kernel)
set_option maxRecDepth 20000 in
theorem gX5_isStaff_X5_within : GoodIn wsX5_isStaff (va_wsS RX5 42 yX5_within wsX5_within) := goodIn_app (goodIn_of _ (by decide +kernel)) ggX5_isStaff_X5_within
theorem dX5_isStaff_0 : decode cX5_isStaff 0 = .ok (.iload_n 0, 1) := by decide +kernel
theorem dX5_isStaff_1 : decode cX5_isStaff 1 = .ok (.iconst 0, 1) := by decide +kernel
theorem dX5_isStaff_2 : decode cX5_isStaff 2 = .ok (.iconst 3, 1) := by decide +kernel
theorem dX5_isStaff_3 : decode cX5_isStaff 3 = .ok (.invokestatic 42, 3) := by decide +kernel
theorem dX5_isStaff_6 : decode cX5_isStaff 6 = .ok (.ireturn, 1) := by decide +kernel
set_option maxRecDepth 20000 in
theorem ggX5_isTick_X5_within : GoodIn wsX5_isTick wsX5_within := goodIn_r _ [4] (by decide +kernel) (by decide +kernel)
set_option maxRecDepth 20000 in
theorem gX5_isTick_X5_within : GoodIn wsX5_isTick (va_wsS RX5 42 yX5_within wsX5_within) := goodIn_app (goodIn_of _ (by decide +kernel)) ggX5_isTick_X5_within
theorem dX5_isTick_0 : decode cX5_isTick 0 = .ok (.iload_n 0, 1) := by decide +kernel
theorem dX5_isTick_1 : decode cX5_isTick 1 = .ok (.iconst 0, 1) := by decide +kernel
theorem dX5_isTick_2 : decode cX5_isTick 2 = .ok (.bipush 99, 2) := by decide +kernel
theorem dX5_isTick_4 : decode cX5_isTick 4 = .ok (.invokestatic 42, 3) := by decide +kernel
theorem dX5_isTick_7 : decode cX5_isTick 7 = .ok (.ireturn, 1) := by decide +kernel
set_option maxRecDepth 20000 in
theorem ggX5_isPitch_X5_within : GoodIn wsX5_isPitch wsX5_within := goodIn_r _ [4] (by decide +kernel) (by decide +kernel)
set_option maxRecDepth 20000 in
theorem gX5_isPitch_X5_within : GoodIn wsX5_isPitch (va_wsS RX5 42 yX5_within wsX5_within) := goodIn_app (goodIn_of _ (by decide +kernel)) ggX5_isPitch_X5_within
theorem dX5_isPitch_0 : decode cX5_isPitch 0 = .ok (.iload_n 0, 1) := by decide +kernel
theorem dX5_isPitch_1 : decode cX5_isPitch 1 = .ok (.iconst 0, 1) := by decide +kernel
theorem dX5_isPitch_2 : decode cX5_isPitch 2 = .ok (.bipush 6, 2) := by decide +kernel
theorem dX5_isPitch_4 : decode cX5_isPitch 4 = .ok (.invokestatic 42, 3) := by decide +kernel
theorem dX5_isPitch_7 : decode cX5_isPitch 7 = .ok (.ifCond .eq 17, 3) := by decide +kernel
theorem dX5_isPitch_10 : decode cX5_isPitch 10 = .ok (.iload_n 1, 1) := by decide +kernel
theorem dX5_isPitch_11 : decode cX5_isPitch 11 = .ok (.iconst 0, 1) := by decide +kernel
theorem dX5_isPitch_12 : decode cX5_isPitch 12 = .ok (.bipush 9, 2) := by decide +kernel
theorem dX5_isPitch_14 : decode cX5_isPitch 14 = .ok (.invokestatic 42, 3) := by decide +kernel
theorem dX5_isPitch_17 : decode cX5_isPitch 17 = .ok (.ifCond .eq 7, 3) := by decide +kernel
theorem dX5_isPitch_20 : decode cX5_isPitch 20 = .ok (.iconst 1, 1) := by decide +kernel
theorem dX5_isPitch_21 : decode cX5_isPitch 21 = .ok (.goto 4, 3) := by decide +kernel
theorem dX5_isPitch_24 : decode cX5_isPitch 24 = .ok (.iconst 0, 1) := by decide +kernel
theorem dX5_isPitch_25 : decode cX5_isPitch 25 = .ok (.ireturn, 1) := by decide +kernel
theorem dX5_cellOf_0 : decode cX5_cellOf 0 = .ok (.iload_n 0, 1) := by decide +kernel
theorem dX5_cellOf_1 : decode cX5_cellOf 1 = .ok (.bipush 100, 2) := by decide +kernel
theorem dX5_cellOf_3 : decode cX5_cellOf 3 = .ok (.imul, 1) := by decide +kernel
theorem dX5_cellOf_4 : decode cX5_cellOf 4 = .ok (.iload_n 1, 1) := by decide +kernel
theorem dX5_cellOf_5 : decode cX5_cellOf 5 = .ok (.iadd, 1) := by decide +kernel
theorem dX5_cellOf_6 : decode cX5_cellOf 6 = .ok (.ireturn, 1) := by decide +kernel
set_option maxRecDepth 20000 in
theorem ggX5_isHidden_X2_anyOn : GoodIn wsX5_isHidden wsX2_anyOn := goodIn_r _ [7, 8, 9, 17, 18, 19, 20, 21, 22, 23] (by decide +kernel) (by decide +kernel)
set_option maxRecDepth 20000 in
theorem gX5_isHidden_X2_anyOn : GoodIn wsX5_isHidden (wsV RX5 174 RX2 yX2_anyOn wsX2_anyOn) := goodIn_app (goodIn_of _ (by decide +kernel)) ggX5_isHidden_X2_anyOn
theorem dX5_isHidden_0 : decode cX5_isHidden 0 = .ok (.aload_n 0, 1) := by decide +kernel
theorem dX5_isHidden_1 : decode cX5_isHidden 1 = .ok (.getfield 37, 3) := by decide +kernel
theorem dX5_isHidden_4 : decode cX5_isHidden 4 = .ok (.ifCond .eq 22, 3) := by decide +kernel
theorem dX5_isHidden_7 : decode cX5_isHidden 7 = .ok (.iload_n 1, 1) := by decide +kernel
theorem dX5_isHidden_8 : decode cX5_isHidden 8 = .ok (.ifCond .eq 18, 3) := by decide +kernel
theorem dX5_isHidden_11 : decode cX5_isHidden 11 = .ok (.aload_n 0, 1) := by decide +kernel
theorem dX5_isHidden_12 : decode cX5_isHidden 12 = .ok (.getfield 19, 3) := by decide +kernel
theorem dX5_isHidden_15 : decode cX5_isHidden 15 = .ok (.iload_n 1, 1) := by decide +kernel
theorem dX5_isHidden_16 : decode cX5_isHidden 16 = .ok (.invokevirtual 174, 3) := by decide +kernel
theorem dX5_isHidden_19 : decode cX5_isHidden 19 = .ok (.ifCond .ne 7, 3) := by decide +kernel
theorem dX5_isHidden_22 : decode cX5_isHidden 22 = .ok (.iconst 1, 1) := by decide +kernel
theorem dX5_isHidden_23 : decode cX5_isHidden 23 = .ok (.goto 4, 3) := by decide +kernel
theorem dX5_isHidden_26 : decode cX5_isHidden 26 = .ok (.iconst 0, 1) := by decide +kernel
theorem dX5_isHidden_27 : decode cX5_isHidden 27 = .ok (.ireturn, 1) := by decide +kernel
set_option maxRecDepth 20000 in
theorem ggX5_shownStaves_X5_isHidden : GoodIn wsX5_shownStaves wsX5_isHidden := goodIn_r _ [5, 6, 7, 8, 9, 10, 11, 12, 13, 14, 15, 16, 17, 18, 19, 20, 21, 22, 23, 24, 25, 26, 27, 28] (by decide +kernel) (by decide +kernel)
set_option maxRecDepth 20000 in
theorem gX5_shownStaves_X5_isHidden : GoodIn wsX5_shownStaves (wsV RX5 149 RX5 yX5_isHidden wsX5_isHidden) := goodIn_app (goodIn_of _ (by decide +kernel)) ggX5_shownStaves_X5_isHidden
theorem dX5_shownStaves_0 : decode cX5_shownStaves 0 = .ok (.iconst 0, 1) := by decide +kernel
theorem dX5_shownStaves_1 : decode cX5_shownStaves 1 = .ok (.istore_n 1, 1) := by decide +kernel
theorem dX5_shownStaves_2 : decode cX5_shownStaves 2 = .ok (.iconst 0, 1) := by decide +kernel
theorem dX5_shownStaves_3 : decode cX5_shownStaves 3 = .ok (.istore_n 2, 1) := by decide +kernel
theorem dX5_shownStaves_4 : decode cX5_shownStaves 4 = .ok (.iload_n 2, 1) := by decide +kernel
theorem dX5_shownStaves_5 : decode cX5_shownStaves 5 = .ok (.iconst 4, 1) := by decide +kernel
theorem dX5_shownStaves_6 : decode cX5_shownStaves 6 = .ok (.if_icmp .ge 25, 3) := by decide +kernel
theorem dX5_shownStaves_9 : decode cX5_shownStaves 9 = .ok (.iload_n 1, 1) := by decide +kernel
theorem dX5_shownStaves_10 : decode cX5_shownStaves 10 = .ok (.aload_n 0, 1) := by decide +kernel
theorem dX5_shownStaves_11 : decode cX5_shownStaves 11 = .ok (.iload_n 2, 1) := by decide +kernel
theorem dX5_shownStaves_12 : decode cX5_shownStaves 12 = .ok (.invokevirtual 149, 3) := by decide +kernel
theorem dX5_shownStaves_15 : decode cX5_shownStaves 15 = .ok (.ifCond .eq 7, 3) := by decide +kernel
theorem dX5_shownStaves_18 : decode cX5_shownStaves 18 = .ok (.iconst 0, 1) := by decide +kernel
theorem dX5_shownStaves_19 : decode cX5_shownStaves 19 = .ok (.goto 4, 3) := by decide +kernel
theorem dX5_shownStaves_22 : decode cX5_shownStaves 22 = .ok (.iconst 1, 1) := by decide +kernel
theorem dX5_shownStaves_23 : decode cX5_shownStaves 23 = .ok (.iadd, 1) := by decide +kernel
theorem dX5_shownStaves_24 : decode cX5_shownStaves 24 = .ok (.istore_n 1, 1) := by decide +kernel
theorem dX5_shownStaves_25 : decode cX5_shownStaves 25 = .ok (.iinc 2 1, 3) := by decide +kernel
theorem dX5_shownStaves_28 : decode cX5_shownStaves 28 = .ok (.goto (-24), 3) := by decide +kernel
theorem dX5_shownStaves_31 : decode cX5_shownStaves 31 = .ok (.iload_n 1, 1) := by decide +kernel
theorem dX5_shownStaves_32 : decode cX5_shownStaves 32 = .ok (.ireturn, 1) := by decide +kernel
set_option maxRecDepth 20000 in
theorem ggX5_shownAbove_X5_isHidden : GoodIn wsX5_shownAbove wsX5_isHidden := goodIn_r _ [5, 6, 7, 8, 9, 10, 11, 12, 13, 14, 15, 16, 17, 18, 19, 20, 21, 22, 23, 24, 25, 26, 27, 28] (by decide +kernel) (by decide +kernel)
set_option maxRecDepth 20000 in
theorem gX5_shownAbove_X5_isHidden : GoodIn wsX5_shownAbove (wsV RX5 149 RX5 yX5_isHidden wsX5_isHidden) := goodIn_app (goodIn_of _ (by decide +kernel)) ggX5_shownAbove_X5_isHidden
theorem dX5_shownAbove_0 : decode cX5_shownAbove 0 = .ok (.iload_n 1, 1) := by decide +kernel
theorem dX5_shownAbove_1 : decode cX5_shownAbove 1 = .ok (.iconst 1, 1) := by decide +kernel
theorem dX5_shownAbove_2 : decode cX5_shownAbove 2 = .ok (.isub, 1) := by decide +kernel
theorem dX5_shownAbove_3 : decode cX5_shownAbove 3 = .ok (.istore_n 2, 1) := by decide +kernel
theorem dX5_shownAbove_4 : decode cX5_shownAbove 4 = .ok (.iload_n 2, 1) := by decide +kernel
theorem dX5_shownAbove_5 : decode cX5_shownAbove 5 = .ok (.ifCond .le 17, 3) := by decide +kernel
theorem dX5_shownAbove_8 : decode cX5_shownAbove 8 = .ok (.aload_n 0, 1) := by decide +kernel
theorem dX5_shownAbove_9 : decode cX5_shownAbove 9 = .ok (.iload_n 2, 1) := by decide +kernel
theorem dX5_shownAbove_10 : decode cX5_shownAbove 10 = .ok (.invokevirtual 149, 3) := by decide +kernel
theorem dX5_shownAbove_13 : decode cX5_shownAbove 13 = .ok (.ifCond .eq 9, 3) := by decide +kernel
theorem dX5_shownAbove_16 : decode cX5_shownAbove 16 = .ok (.iinc 2 (-1), 3) := by decide +kernel
theorem dX5_shownAbove_19 : decode cX5_shownAbove 19 = .ok (.goto (-15), 3) := by decide +kernel
theorem dX5_shownAbove_22 : decode cX5_shownAbove 22 = .ok (.iload_n 2, 1) := by decide +kernel
theorem dX5_shownAbove_23 : decode cX5_shownAbove 23 = .ok (.ireturn, 1) := by decide +kernel
set_option maxRecDepth 20000 in
theorem ggX5_gapBetween_X5_cellOf : GoodIn wsX5_gapBetween wsX5_cellOf := goodIn_r _ [13] (by decide +kernel) (by decide +kernel)
set_option maxRecDepth 20000 in
theorem gX5_gapBetween_X5_cellOf : GoodIn wsX5_gapBetween (va_wsS RX5 123 yX5_cellOf wsX5_cellOf) := goodIn_app (goodIn_of _ (by decide +kernel)) ggX5_gapBetween_X5_cellOf
theorem dX5_gapBetween_0 : decode cX5_gapBetween 0 = .ok (.aload_n 0, 1) := by decide +kernel
theorem dX5_gapBetween_1 : decode cX5_gapBetween 1 = .ok (.getfield 34, 3) := by decide +kernel
theorem dX5_gapBetween_4 : decode cX5_gapBetween 4 = .ok (.istore_n 3, 1) := by decide +kernel
theorem dX5_gapBetween_5 : decode cX5_gapBetween 5 = .ok (.iconst 0, 1) := by decide +kernel
theorem dX5_gapBetween_6 : decode cX5_gapBetween 6 = .ok (.istore 4, 2) := by decide +kernel
theorem dX5_gapBetween_8 : decode cX5_gapBetween 8 = .ok (.iload 4, 2) := by decide +kernel
theorem dX5_gapBetween_10 : decode cX5_gapBetween 10 = .ok (.bipush 100, 2) := by decide +kernel
theorem dX5_gapBetween_12 : decode cX5_gapBetween 12 = .ok (.if_icmp .ge 60, 3) := by decide +kernel
theorem dX5_gapBetween_15 : decode cX5_gapBetween 15 = .ok (.aload_n 0, 1) := by decide +kernel
theorem dX5_gapBetween_16 : decode cX5_gapBetween 16 = .ok (.getfield 26, 3) := by decide +kernel
theorem dX5_gapBetween_19 : decode cX5_gapBetween 19 = .ok (.getfield 130, 3) := by decide +kernel
theorem dX5_gapBetween_22 : decode cX5_gapBetween 22 = .ok (.iload_n 1, 1) := by decide +kernel
theorem dX5_gapBetween_23 : decode cX5_gapBetween 23 = .ok (.iload 4, 2) := by decide +kernel
theorem dX5_gapBetween_25 : decode cX5_gapBetween 25 = .ok (.invokestatic 123, 3) := by decide +kernel
theorem dX5_gapBetween_28 : decode cX5_gapBetween 28 = .ok (.iaload, 1) := by decide +kernel
theorem dX5_gapBetween_29 : decode cX5_gapBetween 29 = .ok (.ineg, 1) := by decide +kernel
theorem dX5_gapBetween_30 : decode cX5_gapBetween 30 = .ok (.istore 5, 2) := by decide +kernel
theorem dX5_gapBetween_32 : decode cX5_gapBetween 32 = .ok (.aload_n 0, 1) := by decide +kernel
theorem dX5_gapBetween_33 : decode cX5_gapBetween 33 = .ok (.getfield 26, 3) := by decide +kernel
theorem dX5_gapBetween_36 : decode cX5_gapBetween 36 = .ok (.getfield 127, 3) := by decide +kernel
theorem dX5_gapBetween_39 : decode cX5_gapBetween 39 = .ok (.iload_n 2, 1) := by decide +kernel
theorem dX5_gapBetween_40 : decode cX5_gapBetween 40 = .ok (.iload 4, 2) := by decide +kernel
theorem dX5_gapBetween_42 : decode cX5_gapBetween 42 = .ok (.invokestatic 123, 3) := by decide +kernel
theorem dX5_gapBetween_45 : decode cX5_gapBetween 45 = .ok (.iaload, 1) := by decide +kernel
theorem dX5_gapBetween_46 : decode cX5_gapBetween 46 = .ok (.bipush 8, 2) := by decide +kernel
theorem dX5_gapBetween_48 : decode cX5_gapBetween 48 = .ok (.isub, 1) := by decide +kernel
theorem dX5_gapBetween_49 : decode cX5_gapBetween 49 = .ok (.istore 6, 2) := by decide +kernel
theorem dX5_gapBetween_51 : decode cX5_gapBetween 51 = .ok (.iload_n 3, 1) := by decide +kernel
theorem dX5_gapBetween_52 : decode cX5_gapBetween 52 = .ok (.iload 5, 2) := by decide +kernel
theorem dX5_gapBetween_54 : decode cX5_gapBetween 54 = .ok (.iload 6, 2) := by decide +kernel
theorem dX5_gapBetween_56 : decode cX5_gapBetween 56 = .ok (.iadd, 1) := by decide +kernel
theorem dX5_gapBetween_57 : decode cX5_gapBetween 57 = .ok (.aload_n 0, 1) := by decide +kernel
theorem dX5_gapBetween_58 : decode cX5_gapBetween 58 = .ok (.getfield 30, 3) := by decide +kernel
theorem dX5_gapBetween_61 : decode cX5_gapBetween 61 = .ok (.iadd, 1) := by decide +kernel
theorem dX5_gapBetween_62 : decode cX5_gapBetween 62 = .ok (.invokestatic 177, 3) := by decide +kernel
theorem dX5_gapBetween_65 : decode cX5_gapBetween 65 = .ok (.istore_n 3, 1) := by decide +kernel
theorem dX5_gapBetween_66 : decode cX5_gapBetween 66 = .ok (.iinc 4 1, 3) := by decide +kernel
theorem dX5_gapBetween_69 : decode cX5_gapBetween 69 = .ok (.goto (-61), 3) := by decide +kernel
theorem dX5_gapBetween_72 : decode cX5_gapBetween 72 = .ok (.iload_n 3, 1) := by decide +kernel
theorem dX5_gapBetween_73 : decode cX5_gapBetween 73 = .ok (.ireturn, 1) := by decide +kernel
set_option maxRecDepth 20000 in
theorem ggX5_stepsDownTo_X5_isHidden : GoodIn wsX5_stepsDownTo wsX5_isHidden := goodIn_r _ [5, 6, 7, 8, 9, 10, 11, 12, 13, 14, 35, 36, 37, 38, 39, 40, 41, 42, 43, 44, 45, 46, 47, 48] (by decide +kernel) (by decide +kernel)
set_option maxRecDepth 20000 in
theorem gX5_stepsDownTo_X5_isHidden : GoodIn wsX5_stepsDownTo (wsV RX5 149 RX5 yX5_isHidden wsX5_isHidden) := goodIn_app (goodIn_of _ (by decide +kernel)) ggX5_stepsDownTo_X5_isHidden
set_option maxRecDepth 20000 in
theorem ggX5_stepsDownTo_X5_shownAbove : GoodIn wsX5_stepsDownTo wsX5_shownAbove := goodIn_r _ [18, 1, 2, 3, 4, 5, 6, 7, 8, 9, 10, 11, 12, 13, 14, 35, 36, 37, 38, 39, 40, 41, 42, 43, 44, 45, 46, 47, 48] (by decide +kernel) (by decide +kernel)
set_option maxRecDepth 20000 in
theorem gX5_stepsDownTo_X5_shownAbove : GoodIn wsX5_stepsDownTo (wsV RX5 152 RX5 yX5_shownAbove wsX5_shownAbove) := goodIn_app (goodIn_of _ (by decide +kernel)) ggX5_stepsDownTo_X5_shownAbove
set_option maxRecDepth 20000 in
theorem ggX5_stepsDownTo_X5_gapBetween : GoodIn wsX5_stepsDownTo wsX5_gapBetween := goodIn_r _ [22, 23, 24, 25, 26, 27, 28, 29, 30, 31, 32, 33, 4, 34, 35, 36, 37, 38, 39, 40, 41, 49, 50, 51, 52, 53, 54, 55, 56, 57, 58, 59, 60, 61, 62, 63] (by decide +kernel) (by decide +kernel)
set_option maxRecDepth 20000 in
theorem gX5_stepsDownTo_X5_gapBetween : GoodIn wsX5_stepsDownTo (wsV RX5 155 RX5 yX5_gapBetween wsX5_gapBetween) := goodIn_app (goodIn_of _ (by decide +kernel)) ggX5_stepsDownTo_X5_gapBetween
theorem dX5_stepsDownTo_0 : decode cX5_stepsDownTo 0 = .ok (.iconst 0, 1) := by decide +kernel
theorem dX5_stepsDownTo_1 : decode cX5_stepsDownTo 1 = .ok (.istore_n 2, 1) := by decide +kernel
theorem dX5_stepsDownTo_2 : decode cX5_stepsDownTo 2 = .ok (.iconst 1, 1) := by decide +kernel
theorem dX5_stepsDownTo_3 : decode cX5_stepsDownTo 3 = .ok (.istore_n 3, 1) := by decide +kernel
theorem dX5_stepsDownTo_4 : decode cX5_stepsDownTo 4 = .ok (.iload_n 3, 1) := by decide +kernel
theorem dX5_stepsDownTo_5 : decode cX5_stepsDownTo 5 = .ok (.iload_n 1, 1) := by decide +kernel
theorem dX5_stepsDownTo_6 : decode cX5_stepsDownTo 6 = .ok (.if_icmp .gt 33, 3) := by decide +kernel
theorem dX5_stepsDownTo_9 : decode cX5_stepsDownTo 9 = .ok (.aload_n 0, 1) := by decide +kernel
theorem dX5_stepsDownTo_10 : decode cX5_stepsDownTo 10 = .ok (.iload_n 3, 1) := by decide +kernel
theorem dX5_stepsDownTo_11 : decode cX5_stepsDownTo 11 = .ok (.invokevirtual 149, 3) := by decide +kernel
theorem dX5_stepsDownTo_14 : decode cX5_stepsDownTo 14 = .ok (.ifCond .ne 19, 3) := by decide +kernel
theorem dX5_stepsDownTo_17 : decode cX5_stepsDownTo 17 = .ok (.iload_n 2, 1) := by decide +kernel
theorem dX5_stepsDownTo_18 : decode cX5_stepsDownTo 18 = .ok (.aload_n 0, 1) := by decide +kernel
theorem dX5_stepsDownTo_19 : decode cX5_stepsDownTo 19 = .ok (.aload_n 0, 1) := by decide +kernel
theorem dX5_stepsDownTo_20 : decode cX5_stepsDownTo 20 = .ok (.iload_n 3, 1) := by decide +kernel
theorem dX5_stepsDownTo_21 : decode cX5_stepsDownTo 21 = .ok (.invokevirtual 152, 3) := by decide +kernel
theorem dX5_stepsDownTo_24 : decode cX5_stepsDownTo 24 = .ok (.iload_n 3, 1) := by decide +kernel
theorem dX5_stepsDownTo_25 : decode cX5_stepsDownTo 25 = .ok (.invokevirtual 155, 3) := by decide +kernel
theorem dX5_stepsDownTo_28 : decode cX5_stepsDownTo 28 = .ok (.bipush 8, 2) := by decide +kernel
theorem dX5_stepsDownTo_30 : decode cX5_stepsDownTo 30 = .ok (.iadd, 1) := by decide +kernel
theorem dX5_stepsDownTo_31 : decode cX5_stepsDownTo 31 = .ok (.iadd, 1) := by decide +kernel
theorem dX5_stepsDownTo_32 : decode cX5_stepsDownTo 32 = .ok (.istore_n 2, 1) := by decide +kernel
theorem dX5_stepsDownTo_33 : decode cX5_stepsDownTo 33 = .ok (.iinc 3 1, 3) := by decide +kernel
theorem dX5_stepsDownTo_36 : decode cX5_stepsDownTo 36 = .ok (.goto (-32), 3) := by decide +kernel
theorem dX5_stepsDownTo_39 : decode cX5_stepsDownTo 39 = .ok (.iload_n 2, 1) := by decide +kernel
theorem dX5_stepsDownTo_40 : decode cX5_stepsDownTo 40 = .ok (.ireturn, 1) := by decide +kernel
theorem dX6_init_0 : decode cX6_init 0 = .ok (.aload_n 0, 1) := by decide +kernel
theorem dX6_init_1 : decode cX6_init 1 = .ok (.invokespecial 1, 3) := by decide +kernel
theorem dX6_init_4 : decode cX6_init 4 = .ok (.aload_n 0, 1) := by decide +kernel
theorem dX6_init_5 : decode cX6_init 5 = .ok (.iconst 4, 1) := by decide +kernel
theorem dX6_init_6 : decode cX6_init 6 = .ok (.newarray .int, 2) := by decide +kernel
theorem dX6_init_8 : decode cX6_init 8 = .ok (.putfield 7, 3) := by decide +kernel
theorem dX6_init_11 : decode cX6_init 11 = .ok (.aload_n 0, 1) := by decide +kernel
theorem dX6_init_12 : decode cX6_init 12 = .ok (.iconst 4, 1) := by decide +kernel
theorem dX6_init_13 : decode cX6_init 13 = .ok (.newarray .int, 2) := by decide +kernel
theorem dX6_init_15 : decode cX6_init 15 = .ok (.putfield 13, 3) := by decide +kernel
theorem dX6_init_18 : decode cX6_init 18 = .ok (.aload_n 0, 1) := by decide +kernel
theorem dX6_init_19 : decode cX6_init 19 = .ok (.bipush 12, 2) := by decide +kernel
theorem dX6_init_21 : decode cX6_init 21 = .ok (.newarray .int, 2) := by decide +kernel
theorem dX6_init_23 : decode cX6_init 23 = .ok (.putfield 16, 3) := by decide +kernel
theorem dX6_init_26 : decode cX6_init 26 = .ok (.aload_n 0, 1) := by decide +kernel
theorem dX6_init_27 : decode cX6_init 27 = .ok (.bipush 12, 2) := by decide +kernel
theorem dX6_init_29 : decode cX6_init 29 = .ok (.newarray .int, 2) := by decide +kernel
theorem dX6_init_31 : decode cX6_init 31 = .ok (.putfield 19, 3) := by decide +kernel
theorem dX6_init_34 : decode cX6_init 34 = .ok (.aload_n 0, 1) := by decide +kernel
theorem dX6_init_35 : decode cX6_init 35 = .ok (.bipush 12, 2) := by decide +kernel
theorem dX6_init_37 : decode cX6_init 37 = .ok (.newarray .int, 2) := by decide +kernel
theorem dX6_init_39 : decode cX6_init 39 = .ok (.putfield 22, 3) := by decide +kernel
theorem dX6_init_42 : decode cX6_init 42 = .ok (.aload_n 0, 1) := by decide +kernel
theorem dX6_init_43 : decode cX6_init 43 = .ok (.bipush 12, 2) := by decide +kernel
theorem dX6_init_45 : decode cX6_init 45 = .ok (.newarray .int, 2) := by decide +kernel
end
section
theorem dX6_init_47 : decode cX6_init 47 = .ok (.putfield 25, 3) := by decide +kernel
theorem dX6_init_50 : decode cX6_init 50 = .ok (.aload_n 0, 1) := by decide +kernel
theorem dX6_init_51 : decode cX6_init 51 = .ok (.bipush 60, 2) := by decide +kernel
theorem dX6_init_53 : decode cX6_init 53 = .ok (.newarray .int, 2) := by decide +kernel
theorem dX6_init_55 : decode cX6_init 55 = .ok (.putfield 28, 3) := by decide +kernel
theorem dX6_init_58 : decode cX6_init 58 = .ok (.aload_n 0, 1) := by decide +kernel
theorem dX6_init_59 : decode cX6_init 59 = .ok (.bipush 60, 2) := by decide +kernel
theorem dX6_init_61 : decode cX6_init 61 = .ok (.newarray .int, 2) := by decide +kernel
theorem dX6_init_63 : decode cX6_init 63 = .ok (.putfield 31, 3) := by decide +kernel
theorem dX6_init_66 : decode cX6_init 66 = .ok (.aload_n 0, 1) := by decide +kernel
theorem dX6_init_67 : decode cX6_init 67 = .ok (.bipush 60, 2) := by decide +kernel
theorem dX6_init_69 : decode cX6_init 69 = .ok (.newarray .int, 2) := by decide +kernel
theorem dX6_init_71 : decode cX6_init 71 = .ok (.putfield 34, 3) := by decide +kernel
theorem dX6_init_74 : decode cX6_init 74 = .ok (.aload_n 0, 1) := by decide +kernel
theorem dX6_init_75 : decode cX6_init 75 = .ok (.bipush 60, 2) := by decide +kernel
theorem dX6_init_77 : decode cX6_init 77 = .ok (.newarray .int, 2) := by decide +kernel
theorem dX6_init_79 : decode cX6_init 79 = .ok (.putfield 37, 3) := by decide +kernel
theorem dX6_init_82 : decode cX6_init 82 = .ok (.aload_n 0, 1) := by decide +kernel
theorem dX6_init_83 : decode cX6_init 83 = .ok (.bipush 60, 2) := by decide +kernel
theorem dX6_init_85 : decode cX6_init 85 = .ok (.newarray .int, 2) := by decide +kernel
theorem dX6_init_87 : decode cX6_init 87 = .ok (.putfield 40, 3) := by decide +kernel
theorem dX6_init_90 : decode cX6_init 90 = .ok (.aload_n 0, 1) := by decide +kernel
theorem dX6_init_91 : decode cX6_init 91 = .ok (.bipush 60, 2) := by decide +kernel
theorem dX6_init_93 : decode cX6_init 93 = .ok (.newarray .int, 2) := by decide +kernel
theorem dX6_init_95 : decode cX6_init 95 = .ok (.putfield 43, 3) := by decide +kernel
theorem dX6_init_98 : decode cX6_init 98 = .ok (.aload_n 0, 1) := by decide +kernel
theorem dX6_init_99 : decode cX6_init 99 = .ok (.iconst 2, 1) := by decide +kernel
theorem dX6_init_100 : decode cX6_init 100 = .ok (.putfield 46, 3) := by decide +kernel
theorem dX6_init_103 : decode cX6_init 103 = .ok (.aload_n 0, 1) := by decide +kernel
theorem dX6_init_104 : decode cX6_init 104 = .ok (.bipush 6, 2) := by decide +kernel
theorem dX6_init_106 : decode cX6_init 106 = .ok (.putfield 50, 3) := by decide +kernel
theorem dX6_init_109 : decode cX6_init 109 = .ok (.aload_n 0, 1) := by decide +kernel
theorem dX6_init_110 : decode cX6_init 110 = .ok (.bipush 60, 2) := by decide +kernel
theorem dX6_init_112 : decode cX6_init 112 = .ok (.newarray .int, 2) := by decide +kernel
theorem dX6_init_114 : decode cX6_init 114 = .ok (.putfield 53, 3) := by decide +kernel
theorem dX6_init_117 : decode cX6_init 117 = .ok (.aload_n 0, 1) := by decide +kernel
theorem dX6_init_118 : decode cX6_init 118 = .ok (.iconst 3, 1) := by decide +kernel
theorem dX6_init_119 : decode cX6_init 119 = .ok (.newarray .int, 2) := by decide +kernel
theorem dX6_init_121 : decode cX6_init 121 = .ok (.putfield 56, 3) := by decide +kernel
theorem dX6_init_124 : decode cX6_init 124 = .ok (.aload_n 0, 1) := by decide +kernel
theorem dX6_init_125 : decode cX6_init 125 = .ok (.bipush 60, 2) := by decide +kernel
theorem dX6_init_127 : decode cX6_init 127 = .ok (.newarray .int, 2) := by decide +kernel
theorem dX6_init_129 : decode cX6_init 129 = .ok (.putfield 59, 3) := by decide +kernel
theorem dX6_init_132 : decode cX6_init 132 = .ok (.aload_n 0, 1) := by decide +kernel
theorem dX6_init_133 : decode cX6_init 133 = .ok (.bipush 60, 2) := by decide +kernel
theorem dX6_init_135 : decode cX6_init 135 = .ok (.newarray .int, 2) := by decide +kernel
theorem dX6_init_137 : decode cX6_init 137 = .ok (.putfield 62, 3) := by decide +kernel
theorem dX6_init_140 : decode cX6_init 140 = .ok (.aload_n 0, 1) := by decide +kernel
theorem dX6_init_141 : decode cX6_init 141 = .ok (.iload_n 1, 1) := by decide +kernel
theorem dX6_init_142 : decode cX6_init 142 = .ok (.iconst 1, 1) := by decide +kernel
theorem dX6_init_143 : decode cX6_init 143 = .ok (.if_icmp .lt 13, 3) := by decide +kernel
theorem dX6_init_146 : decode cX6_init 146 = .ok (.iload_n 1, 1) := by decide +kernel
theorem dX6_init_147 : decode cX6_init 147 = .ok (.ldc 65, 2) := by decide +kernel
theorem dX6_init_149 : decode cX6_init 149 = .ok (.if_icmp .gt 7, 3) := by decide +kernel
theorem dX6_init_152 : decode cX6_init 152 = .ok (.iload_n 1, 1) := by decide +kernel
theorem dX6_init_153 : decode cX6_init 153 = .ok (.goto 5, 3) := by decide +kernel
theorem dX6_init_156 : decode cX6_init 156 = .ok (.bipush 10, 2) := by decide +kernel
theorem dX6_init_158 : decode cX6_init 158 = .ok (.putfield 66, 3) := by decide +kernel
theorem dX6_init_161 : decode cX6_init 161 = .ok (.iconst 0, 1) := by decide +kernel
theorem dX6_init_162 : decode cX6_init 162 = .ok (.istore_n 2, 1) := by decide +kernel
theorem dX6_init_163 : decode cX6_init 163 = .ok (.iload_n 2, 1) := by decide +kernel
theorem dX6_init_164 : decode cX6_init 164 = .ok (.iconst 4, 1) := by decide +kernel
theorem dX6_init_165 : decode cX6_init 165 = .ok (.if_icmp .ge 16, 3) := by decide +kernel
theorem dX6_init_168 : decode cX6_init 168 = .ok (.aload_n 0, 1) := by decide +kernel
theorem dX6_init_169 : decode cX6_init 169 = .ok (.getfield 13, 3) := by decide +kernel
theorem dX6_init_172 : decode cX6_init 172 = .ok (.iload_n 2, 1) := by decide +kernel
theorem dX6_init_173 : decode cX6_init 173 = .ok (.iconst 2, 1) := by decide +kernel
theorem dX6_init_174 : decode cX6_init 174 = .ok (.iastore, 1) := by decide +kernel
theorem dX6_init_175 : decode cX6_init 175 = .ok (.iinc 2 1, 3) := by decide +kernel
theorem dX6_init_178 : decode cX6_init 178 = .ok (.goto (-15), 3) := by decide +kernel
theorem dX6_init_181 : decode cX6_init 181 = .ok (.return_, 1) := by decide +kernel
theorem dX6_thrown_0 : decode cX6_thrown 0 = .ok (.aload_n 0, 1) := by decide +kernel
theorem dX6_thrown_1 : decode cX6_thrown 1 = .ok (.getfield 69, 3) := by decide +kernel
theorem dX6_thrown_4 : decode cX6_thrown 4 = .ok (.ireturn, 1) := by decide +kernel
theorem dX6_in_0 : decode cX6_in 0 = .ok (.iload_n 0, 1) := by decide +kernel
theorem dX6_in_1 : decode cX6_in 1 = .ok (.iload_n 1, 1) := by decide +kernel
theorem dX6_in_2 : decode cX6_in 2 = .ok (.if_icmp .lt 12, 3) := by decide +kernel
theorem dX6_in_5 : decode cX6_in 5 = .ok (.iload_n 0, 1) := by decide +kernel
theorem dX6_in_6 : decode cX6_in 6 = .ok (.iload_n 2, 1) := by decide +kernel
theorem dX6_in_7 : decode cX6_in 7 = .ok (.if_icmp .gt 7, 3) := by decide +kernel
theorem dX6_in_10 : decode cX6_in 10 = .ok (.iconst 1, 1) := by decide +kernel
theorem dX6_in_11 : decode cX6_in 11 = .ok (.goto 4, 3) := by decide +kernel
theorem dX6_in_14 : decode cX6_in 14 = .ok (.iconst 0, 1) := by decide +kernel
theorem dX6_in_15 : decode cX6_in 15 = .ok (.ireturn, 1) := by decide +kernel
set_option maxRecDepth 20000 in
theorem ggX6_isStaff_X6_in : GoodIn wsX6_isStaff wsX6_in := goodIn_r _ [4] (by decide +kernel) (by decide +kernel)
set_option maxRecDepth 20000 in
theorem gX6_isStaff_X6_in : GoodIn wsX6_isStaff (va_wsS RX6 72 yX6_in wsX6_in) := goodIn_app (goodIn_of _ (by decide +kernel)) ggX6_isStaff_X6_in
theorem dX6_isStaff_0 : decode cX6_isStaff 0 = .ok (.iload_n 0, 1) := by decide +kernel
theorem dX6_isStaff_1 : decode cX6_isStaff 1 = .ok (.iconst 0, 1) := by decide +kernel
theorem dX6_isStaff_2 : decode cX6_isStaff 2 = .ok (.iconst 3, 1) := by decide +kernel
theorem dX6_isStaff_3 : decode cX6_isStaff 3 = .ok (.invokestatic 72, 3) := by decide +kernel
theorem dX6_isStaff_6 : decode cX6_isStaff 6 = .ok (.ireturn, 1) := by decide +kernel
set_option maxRecDepth 20000 in
theorem ggX6_isNote_X6_in : GoodIn wsX6_isNote wsX6_in := goodIn_r _ [5] (by decide +kernel) (by decide +kernel)
set_option maxRecDepth 20000 in
theorem gX6_isNote_X6_in : GoodIn wsX6_isNote (va_wsS RX6 72 yX6_in wsX6_in) := goodIn_app (goodIn_of _ (by decide +kernel)) ggX6_isNote_X6_in
theorem dX6_isNote_0 : decode cX6_isNote 0 = .ok (.iload_n 1, 1) := by decide +kernel
theorem dX6_isNote_1 : decode cX6_isNote 1 = .ok (.iconst 0, 1) := by decide +kernel
theorem dX6_isNote_2 : decode cX6_isNote 2 = .ok (.aload_n 0, 1) := by decide +kernel
theorem dX6_isNote_3 : decode cX6_isNote 3 = .ok (.getfield 76, 3) := by decide +kernel
theorem dX6_isNote_6 : decode cX6_isNote 6 = .ok (.iconst 1, 1) := by decide +kernel
theorem dX6_isNote_7 : decode cX6_isNote 7 = .ok (.isub, 1) := by decide +kernel
theorem dX6_isNote_8 : decode cX6_isNote 8 = .ok (.invokestatic 72, 3) := by decide +kernel
theorem dX6_isNote_11 : decode cX6_isNote 11 = .ok (.ireturn, 1) := by decide +kernel
set_option maxRecDepth 20000 in
theorem ggX6_clef_X6_isStaff : GoodIn wsX6_clef wsX6_isStaff := goodIn_r _ [7, 8, 9, 6, 10] (by decide +kernel) (by decide +kernel)
set_option maxRecDepth 20000 in
theorem gX6_clef_X6_isStaff : GoodIn wsX6_clef (va_wsS RX6 79 yX6_isStaff wsX6_isStaff) := goodIn_app (goodIn_of _ (by decide +kernel)) ggX6_clef_X6_isStaff
set_option maxRecDepth 20000 in
theorem ggX6_clef_X6_in : GoodIn wsX6_clef wsX6_in := goodIn_r _ [10] (by decide +kernel) (by decide +kernel)
set_option maxRecDepth 20000 in
theorem gX6_clef_X6_in : GoodIn wsX6_clef (va_wsS RX6 72 yX6_in wsX6_in) := goodIn_app (goodIn_of _ (by decide +kernel)) ggX6_clef_X6_in
theorem dX6_clef_0 : decode cX6_clef 0 = .ok (.aload_n 0, 1) := by decide +kernel
theorem dX6_clef_1 : decode cX6_clef 1 = .ok (.iconst 0, 1) := by decide +kernel
theorem dX6_clef_2 : decode cX6_clef 2 = .ok (.putfield 69, 3) := by decide +kernel
theorem dX6_clef_5 : decode cX6_clef 5 = .ok (.iload_n 1, 1) := by decide +kernel
theorem dX6_clef_6 : decode cX6_clef 6 = .ok (.invokestatic 79, 3) := by decide +kernel
theorem dX6_clef_9 : decode cX6_clef 9 = .ok (.ifCond .ne 7, 3) := by decide +kernel
theorem dX6_clef_12 : decode cX6_clef 12 = .ok (.sipush (-1001), 3) := by decide +kernel
theorem dX6_clef_15 : decode cX6_clef 15 = .ok (.ireturn, 1) := by decide +kernel
theorem dX6_clef_16 : decode cX6_clef 16 = .ok (.iload_n 2, 1) := by decide +kernel
theorem dX6_clef_17 : decode cX6_clef 17 = .ok (.iconst 0, 1) := by decide +kernel
theorem dX6_clef_18 : decode cX6_clef 18 = .ok (.iconst 2, 1) := by decide +kernel
theorem dX6_clef_19 : decode cX6_clef 19 = .ok (.invokestatic 72, 3) := by decide +kernel
theorem dX6_clef_22 : decode cX6_clef 22 = .ok (.ifCond .eq 12, 3) := by decide +kernel
theorem dX6_clef_25 : decode cX6_clef 25 = .ok (.iload_n 3, 1) := by decide +kernel
theorem dX6_clef_26 : decode cX6_clef 26 = .ok (.iconst 1, 1) := by decide +kernel
theorem dX6_clef_27 : decode cX6_clef 27 = .ok (.iconst 5, 1) := by decide +kernel
theorem dX6_clef_28 : decode cX6_clef 28 = .ok (.invokestatic 72, 3) := by decide +kernel
theorem dX6_clef_31 : decode cX6_clef 31 = .ok (.ifCond .ne 7, 3) := by decide +kernel
theorem dX6_clef_34 : decode cX6_clef 34 = .ok (.sipush (-1002), 3) := by decide +kernel
theorem dX6_clef_37 : decode cX6_clef 37 = .ok (.ireturn, 1) := by decide +kernel
theorem dX6_clef_38 : decode cX6_clef 38 = .ok (.aload_n 0, 1) := by decide +kernel
theorem dX6_clef_39 : decode cX6_clef 39 = .ok (.getfield 7, 3) := by decide +kernel
theorem dX6_clef_42 : decode cX6_clef 42 = .ok (.iload_n 1, 1) := by decide +kernel
theorem dX6_clef_43 : decode cX6_clef 43 = .ok (.iload_n 2, 1) := by decide +kernel
theorem dX6_clef_44 : decode cX6_clef 44 = .ok (.iastore, 1) := by decide +kernel
theorem dX6_clef_45 : decode cX6_clef 45 = .ok (.aload_n 0, 1) := by decide +kernel
theorem dX6_clef_46 : decode cX6_clef 46 = .ok (.getfield 13, 3) := by decide +kernel
theorem dX6_clef_49 : decode cX6_clef 49 = .ok (.iload_n 1, 1) := by decide +kernel
theorem dX6_clef_50 : decode cX6_clef 50 = .ok (.iload_n 3, 1) := by decide +kernel
theorem dX6_clef_51 : decode cX6_clef 51 = .ok (.iastore, 1) := by decide +kernel
theorem dX6_clef_52 : decode cX6_clef 52 = .ok (.iconst 1, 1) := by decide +kernel
theorem dX6_clef_53 : decode cX6_clef 53 = .ok (.ireturn, 1) := by decide +kernel
set_option maxRecDepth 20000 in
theorem ggX6_shift_X6_isStaff : GoodIn wsX6_shift wsX6_isStaff := goodIn_r _ [10, 11, 12, 9, 13] (by decide +kernel) (by decide +kernel)
set_option maxRecDepth 20000 in
theorem gX6_shift_X6_isStaff : GoodIn wsX6_shift (va_wsS RX6 79 yX6_isStaff wsX6_isStaff) := goodIn_app (goodIn_of _ (by decide +kernel)) ggX6_shift_X6_isStaff
set_option maxRecDepth 20000 in
theorem ggX6_shift_X6_in : GoodIn wsX6_shift wsX6_in := goodIn_r _ [13] (by decide +kernel) (by decide +kernel)
set_option maxRecDepth 20000 in
theorem gX6_shift_X6_in : GoodIn wsX6_shift (va_wsS RX6 72 yX6_in wsX6_in) := goodIn_app (goodIn_of _ (by decide +kernel)) ggX6_shift_X6_in
theorem dX6_shift_0 : decode cX6_shift 0 = .ok (.aload_n 0, 1) := by decide +kernel
theorem dX6_shift_1 : decode cX6_shift 1 = .ok (.iconst 0, 1) := by decide +kernel
theorem dX6_shift_2 : decode cX6_shift 2 = .ok (.putfield 69, 3) := by decide +kernel
theorem dX6_shift_5 : decode cX6_shift 5 = .ok (.iload_n 1, 1) := by decide +kernel
theorem dX6_shift_6 : decode cX6_shift 6 = .ok (.invokestatic 79, 3) := by decide +kernel
theorem dX6_shift_9 : decode cX6_shift 9 = .ok (.ifCond .ne 7, 3) := by decide +kernel
theorem dX6_shift_12 : decode cX6_shift 12 = .ok (.sipush (-1001), 3) := by decide +kernel
theorem dX6_shift_15 : decode cX6_shift 15 = .ok (.ireturn, 1) := by decide +kernel
theorem dX6_shift_16 : decode cX6_shift 16 = .ok (.iload_n 2, 1) := by decide +kernel
theorem dX6_shift_17 : decode cX6_shift 17 = .ok (.iconst 0, 1) := by decide +kernel
theorem dX6_shift_18 : decode cX6_shift 18 = .ok (.bipush 99, 2) := by decide +kernel
theorem dX6_shift_20 : decode cX6_shift 20 = .ok (.invokestatic 72, 3) := by decide +kernel
theorem dX6_shift_23 : decode cX6_shift 23 = .ok (.ifCond .eq 24, 3) := by decide +kernel
theorem dX6_shift_26 : decode cX6_shift 26 = .ok (.iload_n 3, 1) := by decide +kernel
theorem dX6_shift_27 : decode cX6_shift 27 = .ok (.iload_n 2, 1) := by decide +kernel
theorem dX6_shift_28 : decode cX6_shift 28 = .ok (.bipush 99, 2) := by decide +kernel
theorem dX6_shift_30 : decode cX6_shift 30 = .ok (.invokestatic 72, 3) := by decide +kernel
theorem dX6_shift_33 : decode cX6_shift 33 = .ok (.ifCond .eq 14, 3) := by decide +kernel
theorem dX6_shift_36 : decode cX6_shift 36 = .ok (.iload 4, 2) := by decide +kernel
theorem dX6_shift_38 : decode cX6_shift 38 = .ok (.bipush (-2), 2) := by decide +kernel
theorem dX6_shift_40 : decode cX6_shift 40 = .ok (.iconst 2, 1) := by decide +kernel
theorem dX6_shift_41 : decode cX6_shift 41 = .ok (.invokestatic 72, 3) := by decide +kernel
theorem dX6_shift_44 : decode cX6_shift 44 = .ok (.ifCond .ne 7, 3) := by decide +kernel
theorem dX6_shift_47 : decode cX6_shift 47 = .ok (.sipush (-1002), 3) := by decide +kernel
theorem dX6_shift_50 : decode cX6_shift 50 = .ok (.ireturn, 1) := by decide +kernel
theorem dX6_shift_51 : decode cX6_shift 51 = .ok (.aload_n 0, 1) := by decide +kernel
theorem dX6_shift_52 : decode cX6_shift 52 = .ok (.getfield 83, 3) := by decide +kernel
theorem dX6_shift_55 : decode cX6_shift 55 = .ok (.bipush 12, 2) := by decide +kernel
theorem dX6_shift_57 : decode cX6_shift 57 = .ok (.if_icmp .ne 7, 3) := by decide +kernel
theorem dX6_shift_60 : decode cX6_shift 60 = .ok (.sipush (-1003), 3) := by decide +kernel
theorem dX6_shift_63 : decode cX6_shift 63 = .ok (.ireturn, 1) := by decide +kernel
theorem dX6_shift_64 : decode cX6_shift 64 = .ok (.aload_n 0, 1) := by decide +kernel
theorem dX6_shift_65 : decode cX6_shift 65 = .ok (.getfield 16, 3) := by decide +kernel
theorem dX6_shift_68 : decode cX6_shift 68 = .ok (.aload_n 0, 1) := by decide +kernel
theorem dX6_shift_69 : decode cX6_shift 69 = .ok (.getfield 83, 3) := by decide +kernel
theorem dX6_shift_72 : decode cX6_shift 72 = .ok (.iload_n 1, 1) := by decide +kernel
theorem dX6_shift_73 : decode cX6_shift 73 = .ok (.iastore, 1) := by decide +kernel
theorem dX6_shift_74 : decode cX6_shift 74 = .ok (.aload_n 0, 1) := by decide +kernel
theorem dX6_shift_75 : decode cX6_shift 75 = .ok (.getfield 19, 3) := by decide +kernel
theorem dX6_shift_78 : decode cX6_shift 78 = .ok (.aload_n 0, 1) := by decide +kernel
theorem dX6_shift_79 : decode cX6_shift 79 = .ok (.getfield 83, 3) := by decide +kernel
theorem dX6_shift_82 : decode cX6_shift 82 = .ok (.iload_n 2, 1) := by decide +kernel
theorem dX6_shift_83 : decode cX6_shift 83 = .ok (.iastore, 1) := by decide +kernel
theorem dX6_shift_84 : decode cX6_shift 84 = .ok (.aload_n 0, 1) := by decide +kernel
theorem dX6_shift_85 : decode cX6_shift 85 = .ok (.getfield 22, 3) := by decide +kernel
theorem dX6_shift_88 : decode cX6_shift 88 = .ok (.aload_n 0, 1) := by decide +kernel
theorem dX6_shift_89 : decode cX6_shift 89 = .ok (.getfield 83, 3) := by decide +kernel
theorem dX6_shift_92 : decode cX6_shift 92 = .ok (.iload_n 3, 1) := by decide +kernel
theorem dX6_shift_93 : decode cX6_shift 93 = .ok (.iastore, 1) := by decide +kernel
theorem dX6_shift_94 : decode cX6_shift 94 = .ok (.aload_n 0, 1) := by decide +kernel
theorem dX6_shift_95 : decode cX6_shift 95 = .ok (.getfield 25, 3) := by decide +kernel
theorem dX6_shift_98 : decode cX6_shift 98 = .ok (.aload_n 0, 1) := by decide +kernel
theorem dX6_shift_99 : decode cX6_shift 99 = .ok (.getfield 83, 3) := by decide +kernel
theorem dX6_shift_102 : decode cX6_shift 102 = .ok (.iload 4, 2) := by decide +kernel
theorem dX6_shift_104 : decode cX6_shift 104 = .ok (.iastore, 1) := by decide +kernel
theorem dX6_shift_105 : decode cX6_shift 105 = .ok (.aload_n 0, 1) := by decide +kernel
theorem dX6_shift_106 : decode cX6_shift 106 = .ok (.dup, 1) := by decide +kernel
theorem dX6_shift_107 : decode cX6_shift 107 = .ok (.getfield 83, 3) := by decide +kernel
theorem dX6_shift_110 : decode cX6_shift 110 = .ok (.iconst 1, 1) := by decide +kernel
theorem dX6_shift_111 : decode cX6_shift 111 = .ok (.iadd, 1) := by decide +kernel
theorem dX6_shift_112 : decode cX6_shift 112 = .ok (.putfield 83, 3) := by decide +kernel
theorem dX6_shift_115 : decode cX6_shift 115 = .ok (.aload_n 0, 1) := by decide +kernel
theorem dX6_shift_116 : decode cX6_shift 116 = .ok (.getfield 83, 3) := by decide +kernel
theorem dX6_shift_119 : decode cX6_shift 119 = .ok (.ireturn, 1) := by decide +kernel
theorem dX6_plain_0 : decode cX6_plain 0 = .ok (.aload_n 0, 1) := by decide +kernel
theorem dX6_plain_1 : decode cX6_plain 1 = .ok (.iconst 0, 1) := by decide +kernel
theorem dX6_plain_2 : decode cX6_plain 2 = .ok (.putfield 69, 3) := by decide +kernel
theorem dX6_plain_5 : decode cX6_plain 5 = .ok (.aload_n 0, 1) := by decide +kernel
theorem dX6_plain_6 : decode cX6_plain 6 = .ok (.getfield 83, 3) := by decide +kernel
theorem dX6_plain_9 : decode cX6_plain 9 = .ok (.istore_n 1, 1) := by decide +kernel
theorem dX6_plain_10 : decode cX6_plain 10 = .ok (.aload_n 0, 1) := by decide +kernel
theorem dX6_plain_11 : decode cX6_plain 11 = .ok (.iconst 0, 1) := by decide +kernel
theorem dX6_plain_12 : decode cX6_plain 12 = .ok (.putfield 83, 3) := by decide +kernel
theorem dX6_plain_15 : decode cX6_plain 15 = .ok (.iload_n 1, 1) := by decide +kernel
theorem dX6_plain_16 : decode cX6_plain 16 = .ok (.ireturn, 1) := by decide +kernel
set_option maxRecDepth 20000 in
theorem ggX6_note_X6_isStaff : GoodIn wsX6_note wsX6_isStaff := goodIn_r _ [12, 13, 14, 11, 15] (by decide +kernel) (by decide +kernel)
set_option maxRecDepth 20000 in
theorem gX6_note_X6_isStaff : GoodIn wsX6_note (va_wsS RX6 79 yX6_isStaff wsX6_isStaff) := goodIn_app (goodIn_of _ (by decide +kernel)) ggX6_note_X6_isStaff
set_option maxRecDepth 20000 in
theorem ggX6_note_X6_in : GoodIn wsX6_note wsX6_in := goodIn_r _ [15] (by decide +kernel) (by decide +kernel)
set_option maxRecDepth 20000 in
theorem gX6_note_X6_in : GoodIn wsX6_note (va_wsS RX6 72 yX6_in wsX6_in) := goodIn_app (goodIn_of _ (by decide +kernel)) ggX6_note_X6_in
theorem dX6_note_0 : decode cX6_note 0 = .ok (.aload_n 0, 1) := by decide +kernel
theorem dX6_note_1 : decode cX6_note 1 = .ok (.iconst 0, 1) := by decide +kernel
theorem dX6_note_2 : decode cX6_note 2 = .ok (.putfield 69, 3) := by decide +kernel
theorem dX6_note_5 : decode cX6_note 5 = .ok (.iload_n 1, 1) := by decide +kernel
theorem dX6_note_6 : decode cX6_note 6 = .ok (.invokestatic 79, 3) := by decide +kernel
theorem dX6_note_9 : decode cX6_note 9 = .ok (.ifCond .ne 7, 3) := by decide +kernel
theorem dX6_note_12 : decode cX6_note 12 = .ok (.sipush (-1001), 3) := by decide +kernel
theorem dX6_note_15 : decode cX6_note 15 = .ok (.ireturn, 1) := by decide +kernel
theorem dX6_note_16 : decode cX6_note 16 = .ok (.iload_n 2, 1) := by decide +kernel
theorem dX6_note_17 : decode cX6_note 17 = .ok (.iconst 0, 1) := by decide +kernel
theorem dX6_note_18 : decode cX6_note 18 = .ok (.iconst 2, 1) := by decide +kernel
theorem dX6_note_19 : decode cX6_note 19 = .ok (.invokestatic 72, 3) := by decide +kernel
theorem dX6_note_22 : decode cX6_note 22 = .ok (.ifCond .eq 56, 3) := by decide +kernel
theorem dX6_note_25 : decode cX6_note 25 = .ok (.iload_n 3, 1) := by decide +kernel
theorem dX6_note_26 : decode cX6_note 26 = .ok (.iconst 0, 1) := by decide +kernel
theorem dX6_note_27 : decode cX6_note 27 = .ok (.bipush 99, 2) := by decide +kernel
theorem dX6_note_29 : decode cX6_note 29 = .ok (.invokestatic 72, 3) := by decide +kernel
theorem dX6_note_32 : decode cX6_note 32 = .ok (.ifCond .eq 46, 3) := by decide +kernel
theorem dX6_note_35 : decode cX6_note 35 = .ok (.iload 4, 2) := by decide +kernel
theorem dX6_note_37 : decode cX6_note 37 = .ok (.iconst 0, 1) := by decide +kernel
theorem dX6_note_38 : decode cX6_note 38 = .ok (.bipush 6, 2) := by decide +kernel
theorem dX6_note_40 : decode cX6_note 40 = .ok (.invokestatic 72, 3) := by decide +kernel
theorem dX6_note_43 : decode cX6_note 43 = .ok (.ifCond .eq 35, 3) := by decide +kernel
theorem dX6_note_46 : decode cX6_note 46 = .ok (.iload 5, 2) := by decide +kernel
theorem dX6_note_48 : decode cX6_note 48 = .ok (.iconst 0, 1) := by decide +kernel
theorem dX6_note_49 : decode cX6_note 49 = .ok (.bipush 9, 2) := by decide +kernel
theorem dX6_note_51 : decode cX6_note 51 = .ok (.invokestatic 72, 3) := by decide +kernel
theorem dX6_note_54 : decode cX6_note 54 = .ok (.ifCond .eq 24, 3) := by decide +kernel
theorem dX6_note_57 : decode cX6_note 57 = .ok (.iload 6, 2) := by decide +kernel
theorem dX6_note_59 : decode cX6_note 59 = .ok (.bipush (-2), 2) := by decide +kernel
theorem dX6_note_61 : decode cX6_note 61 = .ok (.iconst 3, 1) := by decide +kernel
theorem dX6_note_62 : decode cX6_note 62 = .ok (.invokestatic 72, 3) := by decide +kernel
theorem dX6_note_65 : decode cX6_note 65 = .ok (.ifCond .eq 13, 3) := by decide +kernel
theorem dX6_note_68 : decode cX6_note 68 = .ok (.iload 7, 2) := by decide +kernel
theorem dX6_note_70 : decode cX6_note 70 = .ok (.iconst 0, 1) := by decide +kernel
theorem dX6_note_71 : decode cX6_note 71 = .ok (.iconst 2, 1) := by decide +kernel
theorem dX6_note_72 : decode cX6_note 72 = .ok (.invokestatic 72, 3) := by decide +kernel
theorem dX6_note_75 : decode cX6_note 75 = .ok (.ifCond .ne 7, 3) := by decide +kernel
theorem dX6_note_78 : decode cX6_note 78 = .ok (.sipush (-1002), 3) := by decide +kernel
theorem dX6_note_81 : decode cX6_note 81 = .ok (.ireturn, 1) := by decide +kernel
theorem dX6_note_82 : decode cX6_note 82 = .ok (.aload_n 0, 1) := by decide +kernel
theorem dX6_note_83 : decode cX6_note 83 = .ok (.getfield 76, 3) := by decide +kernel
theorem dX6_note_86 : decode cX6_note 86 = .ok (.bipush 60, 2) := by decide +kernel
theorem dX6_note_88 : decode cX6_note 88 = .ok (.if_icmp .ne 7, 3) := by decide +kernel
theorem dX6_note_91 : decode cX6_note 91 = .ok (.sipush (-1003), 3) := by decide +kernel
theorem dX6_note_94 : decode cX6_note 94 = .ok (.ireturn, 1) := by decide +kernel
theorem dX6_note_95 : decode cX6_note 95 = .ok (.aload_n 0, 1) := by decide +kernel
theorem dX6_note_96 : decode cX6_note 96 = .ok (.getfield 28, 3) := by decide +kernel
theorem dX6_note_99 : decode cX6_note 99 = .ok (.aload_n 0, 1) := by decide +kernel
theorem dX6_note_100 : decode cX6_note 100 = .ok (.getfield 76, 3) := by decide +kernel
theorem dX6_note_103 : decode cX6_note 103 = .ok (.iload_n 1, 1) := by decide +kernel
theorem dX6_note_104 : decode cX6_note 104 = .ok (.iastore, 1) := by decide +kernel
theorem dX6_note_105 : decode cX6_note 105 = .ok (.aload_n 0, 1) := by decide +kernel
theorem dX6_note_106 : decode cX6_note 106 = .ok (.getfield 31, 3) := by decide +kernel
theorem dX6_note_109 : decode cX6_note 109 = .ok (.aload_n 0, 1) := by decide +kernel
theorem dX6_note_110 : decode cX6_note 110 = .ok (.getfield 76, 3) := by decide +kernel
theorem dX6_note_113 : decode cX6_note 113 = .ok (.iload_n 2, 1) := by decide +kernel
theorem dX6_note_114 : decode cX6_note 114 = .ok (.iastore, 1) := by decide +kernel
theorem dX6_note_115 : decode cX6_note 115 = .ok (.aload_n 0, 1) := by decide +kernel
theorem dX6_note_116 : decode cX6_note 116 = .ok (.getfield 34, 3) := by decide +kernel
theorem dX6_note_119 : decode cX6_note 119 = .ok (.aload_n 0, 1) := by decide +kernel
theorem dX6_note_120 : decode cX6_note 120 = .ok (.getfield 76, 3) := by decide +kernel
theorem dX6_note_123 : decode cX6_note 123 = .ok (.iload_n 3, 1) := by decide +kernel
theorem dX6_note_124 : decode cX6_note 124 = .ok (.iastore, 1) := by decide +kernel
theorem dX6_note_125 : decode cX6_note 125 = .ok (.aload_n 0, 1) := by decide +kernel
theorem dX6_note_126 : decode cX6_note 126 = .ok (.getfield 37, 3) := by decide +kernel
theorem dX6_note_129 : decode cX6_note 129 = .ok (.aload_n 0, 1) := by decide +kernel
theorem dX6_note_130 : decode cX6_note 130 = .ok (.getfield 76, 3) := by decide +kernel
theorem dX6_note_133 : decode cX6_note 133 = .ok (.bipush 7, 2) := by decide +kernel
theorem dX6_note_135 : decode cX6_note 135 = .ok (.iload 5, 2) := by decide +kernel
theorem dX6_note_137 : decode cX6_note 137 = .ok (.imul, 1) := by decide +kernel
theorem dX6_note_138 : decode cX6_note 138 = .ok (.iload 4, 2) := by decide +kernel
theorem dX6_note_140 : decode cX6_note 140 = .ok (.iadd, 1) := by decide +kernel
theorem dX6_note_141 : decode cX6_note 141 = .ok (.iastore, 1) := by decide +kernel
theorem dX6_note_142 : decode cX6_note 142 = .ok (.aload_n 0, 1) := by decide +kernel
theorem dX6_note_143 : decode cX6_note 143 = .ok (.getfield 40, 3) := by decide +kernel
theorem dX6_note_146 : decode cX6_note 146 = .ok (.aload_n 0, 1) := by decide +kernel
theorem dX6_note_147 : decode cX6_note 147 = .ok (.getfield 76, 3) := by decide +kernel
theorem dX6_note_150 : decode cX6_note 150 = .ok (.iload 6, 2) := by decide +kernel
theorem dX6_note_152 : decode cX6_note 152 = .ok (.iastore, 1) := by decide +kernel
theorem dX6_note_153 : decode cX6_note 153 = .ok (.aload_n 0, 1) := by decide +kernel
theorem dX6_note_154 : decode cX6_note 154 = .ok (.getfield 43, 3) := by decide +kernel
theorem dX6_note_157 : decode cX6_note 157 = .ok (.aload_n 0, 1) := by decide +kernel
theorem dX6_note_158 : decode cX6_note 158 = .ok (.getfield 76, 3) := by decide +kernel
theorem dX6_note_161 : decode cX6_note 161 = .ok (.iload 7, 2) := by decide +kernel
theorem dX6_note_163 : decode cX6_note 163 = .ok (.iastore, 1) := by decide +kernel
theorem dX6_note_164 : decode cX6_note 164 = .ok (.aload_n 0, 1) := by decide +kernel
theorem dX6_note_165 : decode cX6_note 165 = .ok (.dup, 1) := by decide +kernel
theorem dX6_note_166 : decode cX6_note 166 = .ok (.getfield 76, 3) := by decide +kernel
theorem dX6_note_169 : decode cX6_note 169 = .ok (.iconst 1, 1) := by decide +kernel
theorem dX6_note_170 : decode cX6_note 170 = .ok (.iadd, 1) := by decide +kernel
theorem dX6_note_171 : decode cX6_note 171 = .ok (.putfield 76, 3) := by decide +kernel
theorem dX6_note_174 : decode cX6_note 174 = .ok (.aload_n 0, 1) := by decide +kernel
theorem dX6_note_175 : decode cX6_note 175 = .ok (.getfield 76, 3) := by decide +kernel
theorem dX6_note_178 : decode cX6_note 178 = .ok (.iconst 1, 1) := by decide +kernel
theorem dX6_note_179 : decode cX6_note 179 = .ok (.isub, 1) := by decide +kernel
theorem dX6_note_180 : decode cX6_note 180 = .ok (.ireturn, 1) := by decide +kernel
set_option maxRecDepth 20000 in
theorem ggX6_drop_X6_isNote : GoodIn wsX6_drop wsX6_isNote := goodIn_r _ [13, 2, 14, 15, 12, 16, 17, 18, 19, 20, 21, 22, 23, 24, 25, 26, 27, 28, 29, 30, 31, 32, 33, 34, 35, 36, 37, 38, 39] (by decide +kernel) (by decide +kernel)
set_option maxRecDepth 20000 in
theorem gX6_drop_X6_isNote : GoodIn wsX6_drop (wsV RX6 86 RX6 yX6_isNote wsX6_isNote) := goodIn_app (goodIn_of _ (by decide +kernel)) ggX6_drop_X6_isNote
theorem dX6_drop_0 : decode cX6_drop 0 = .ok (.aload_n 0, 1) := by decide +kernel
theorem dX6_drop_1 : decode cX6_drop 1 = .ok (.iconst 0, 1) := by decide +kernel
theorem dX6_drop_2 : decode cX6_drop 2 = .ok (.putfield 69, 3) := by decide +kernel
theorem dX6_drop_5 : decode cX6_drop 5 = .ok (.aload_n 0, 1) := by decide +kernel
theorem dX6_drop_6 : decode cX6_drop 6 = .ok (.iload_n 1, 1) := by decide +kernel
theorem dX6_drop_7 : decode cX6_drop 7 = .ok (.invokevirtual 86, 3) := by decide +kernel
theorem dX6_drop_10 : decode cX6_drop 10 = .ok (.ifCond .ne 7, 3) := by decide +kernel
theorem dX6_drop_13 : decode cX6_drop 13 = .ok (.sipush (-1001), 3) := by decide +kernel
theorem dX6_drop_16 : decode cX6_drop 16 = .ok (.ireturn, 1) := by decide +kernel
theorem dX6_drop_17 : decode cX6_drop 17 = .ok (.aload_n 0, 1) := by decide +kernel
theorem dX6_drop_18 : decode cX6_drop 18 = .ok (.dup, 1) := by decide +kernel
theorem dX6_drop_19 : decode cX6_drop 19 = .ok (.getfield 76, 3) := by decide +kernel
theorem dX6_drop_22 : decode cX6_drop 22 = .ok (.iconst 1, 1) := by decide +kernel
theorem dX6_drop_23 : decode cX6_drop 23 = .ok (.isub, 1) := by decide +kernel
theorem dX6_drop_24 : decode cX6_drop 24 = .ok (.putfield 76, 3) := by decide +kernel
theorem dX6_drop_27 : decode cX6_drop 27 = .ok (.iload_n 1, 1) := by decide +kernel
theorem dX6_drop_28 : decode cX6_drop 28 = .ok (.istore_n 2, 1) := by decide +kernel
theorem dX6_drop_29 : decode cX6_drop 29 = .ok (.iload_n 2, 1) := by decide +kernel
theorem dX6_drop_30 : decode cX6_drop 30 = .ok (.aload_n 0, 1) := by decide +kernel
theorem dX6_drop_31 : decode cX6_drop 31 = .ok (.getfield 76, 3) := by decide +kernel
theorem dX6_drop_34 : decode cX6_drop 34 = .ok (.if_icmp .ge 93, 3) := by decide +kernel
theorem dX6_drop_37 : decode cX6_drop 37 = .ok (.aload_n 0, 1) := by decide +kernel
theorem dX6_drop_38 : decode cX6_drop 38 = .ok (.getfield 28, 3) := by decide +kernel
theorem dX6_drop_41 : decode cX6_drop 41 = .ok (.iload_n 2, 1) := by decide +kernel
theorem dX6_drop_42 : decode cX6_drop 42 = .ok (.aload_n 0, 1) := by decide +kernel
theorem dX6_drop_43 : decode cX6_drop 43 = .ok (.getfield 28, 3) := by decide +kernel
theorem dX6_drop_46 : decode cX6_drop 46 = .ok (.iload_n 2, 1) := by decide +kernel
theorem dX6_drop_47 : decode cX6_drop 47 = .ok (.iconst 1, 1) := by decide +kernel
theorem dX6_drop_48 : decode cX6_drop 48 = .ok (.iadd, 1) := by decide +kernel
theorem dX6_drop_49 : decode cX6_drop 49 = .ok (.iaload, 1) := by decide +kernel
theorem dX6_drop_50 : decode cX6_drop 50 = .ok (.iastore, 1) := by decide +kernel
theorem dX6_drop_51 : decode cX6_drop 51 = .ok (.aload_n 0, 1) := by decide +kernel
theorem dX6_drop_52 : decode cX6_drop 52 = .ok (.getfield 31, 3) := by decide +kernel
theorem dX6_drop_55 : decode cX6_drop 55 = .ok (.iload_n 2, 1) := by decide +kernel
theorem dX6_drop_56 : decode cX6_drop 56 = .ok (.aload_n 0, 1) := by decide +kernel
theorem dX6_drop_57 : decode cX6_drop 57 = .ok (.getfield 31, 3) := by decide +kernel
theorem dX6_drop_60 : decode cX6_drop 60 = .ok (.iload_n 2, 1) := by decide +kernel
theorem dX6_drop_61 : decode cX6_drop 61 = .ok (.iconst 1, 1) := by decide +kernel
theorem dX6_drop_62 : decode cX6_drop 62 = .ok (.iadd, 1) := by decide +kernel
theorem dX6_drop_63 : decode cX6_drop 63 = .ok (.iaload, 1) := by decide +kernel
theorem dX6_drop_64 : decode cX6_drop 64 = .ok (.iastore, 1) := by decide +kernel
theorem dX6_drop_65 : decode cX6_drop 65 = .ok (.aload_n 0, 1) := by decide +kernel
theorem dX6_drop_66 : decode cX6_drop 66 = .ok (.getfield 34, 3) := by decide +kernel
theorem dX6_drop_69 : decode cX6_drop 69 = .ok (.iload_n 2, 1) := by decide +kernel
theorem dX6_drop_70 : decode cX6_drop 70 = .ok (.aload_n 0, 1) := by decide +kernel
theorem dX6_drop_71 : decode cX6_drop 71 = .ok (.getfield 34, 3) := by decide +kernel
theorem dX6_drop_74 : decode cX6_drop 74 = .ok (.iload_n 2, 1) := by decide +kernel
theorem dX6_drop_75 : decode cX6_drop 75 = .ok (.iconst 1, 1) := by decide +kernel
theorem dX6_drop_76 : decode cX6_drop 76 = .ok (.iadd, 1) := by decide +kernel
theorem dX6_drop_77 : decode cX6_drop 77 = .ok (.iaload, 1) := by decide +kernel
theorem dX6_drop_78 : decode cX6_drop 78 = .ok (.iastore, 1) := by decide +kernel
theorem dX6_drop_79 : decode cX6_drop 79 = .ok (.aload_n 0, 1) := by decide +kernel
theorem dX6_drop_80 : decode cX6_drop 80 = .ok (.getfield 37, 3) := by decide +kernel
theorem dX6_drop_83 : decode cX6_drop 83 = .ok (.iload_n 2, 1) := by decide +kernel
theorem dX6_drop_84 : decode cX6_drop 84 = .ok (.aload_n 0, 1) := by decide +kernel
theorem dX6_drop_85 : decode cX6_drop 85 = .ok (.getfield 37, 3) := by decide +kernel
theorem dX6_drop_88 : decode cX6_drop 88 = .ok (.iload_n 2, 1) := by decide +kernel
theorem dX6_drop_89 : decode cX6_drop 89 = .ok (.iconst 1, 1) := by decide +kernel
theorem dX6_drop_90 : decode cX6_drop 90 = .ok (.iadd, 1) := by decide +kernel
theorem dX6_drop_91 : decode cX6_drop 91 = .ok (.iaload, 1) := by decide +kernel
theorem dX6_drop_92 : decode cX6_drop 92 = .ok (.iastore, 1) := by decide +kernel
theorem dX6_drop_93 : decode cX6_drop 93 = .ok (.aload_n 0, 1) := by decide +kernel
theorem dX6_drop_94 : decode cX6_drop 94 = .ok (.getfield 40, 3) := by decide +kernel
theorem dX6_drop_97 : decode cX6_drop 97 = .ok (.iload_n 2, 1) := by decide +kernel
theorem dX6_drop_98 : decode cX6_drop 98 = .ok (.aload_n 0, 1) := by decide +kernel
theorem dX6_drop_99 : decode cX6_drop 99 = .ok (.getfield 40, 3) := by decide +kernel
theorem dX6_drop_102 : decode cX6_drop 102 = .ok (.iload_n 2, 1) := by decide +kernel
theorem dX6_drop_103 : decode cX6_drop 103 = .ok (.iconst 1, 1) := by decide +kernel
theorem dX6_drop_104 : decode cX6_drop 104 = .ok (.iadd, 1) := by decide +kernel
theorem dX6_drop_105 : decode cX6_drop 105 = .ok (.iaload, 1) := by decide +kernel
theorem dX6_drop_106 : decode cX6_drop 106 = .ok (.iastore, 1) := by decide +kernel
theorem dX6_drop_107 : decode cX6_drop 107 = .ok (.aload_n 0, 1) := by decide +kernel
theorem dX6_drop_108 : decode cX6_drop 108 = .ok (.getfield 43, 3) := by decide +kernel
theorem dX6_drop_111 : decode cX6_drop 111 = .ok (.iload_n 2, 1) := by decide +kernel
theorem dX6_drop_112 : decode cX6_drop 112 = .ok (.aload_n 0, 1) := by decide +kernel
theorem dX6_drop_113 : decode cX6_drop 113 = .ok (.getfield 43, 3) := by decide +kernel
theorem dX6_drop_116 : decode cX6_drop 116 = .ok (.iload_n 2, 1) := by decide +kernel
theorem dX6_drop_117 : decode cX6_drop 117 = .ok (.iconst 1, 1) := by decide +kernel
theorem dX6_drop_118 : decode cX6_drop 118 = .ok (.iadd, 1) := by decide +kernel
theorem dX6_drop_119 : decode cX6_drop 119 = .ok (.iaload, 1) := by decide +kernel
theorem dX6_drop_120 : decode cX6_drop 120 = .ok (.iastore, 1) := by decide +kernel
theorem dX6_drop_121 : decode cX6_drop 121 = .ok (.iinc 2 1, 3) := by decide +kernel
theorem dX6_drop_124 : decode cX6_drop 124 = .ok (.goto (-95), 3) := by decide +kernel
theorem dX6_drop_127 : decode cX6_drop 127 = .ok (.aload_n 0, 1) := by decide +kernel
theorem dX6_drop_128 : decode cX6_drop 128 = .ok (.getfield 76, 3) := by decide +kernel
theorem dX6_drop_131 : decode cX6_drop 131 = .ok (.ireturn, 1) := by decide +kernel
set_option maxRecDepth 20000 in
theorem ggX6_reckon_X6_reckonStep : GoodIn wsX6_reckon wsX6_reckonStep := goodIn_r _ [7, 8, 9, 10, 11, 12, 13, 14, 15, 16, 17, 18, 19, 6, 20, 21, 22, 23, 24, 25, 26, 27, 28, 29, 30, 31, 32, 33, 34, 35, 36, 37, 38, 39, 40, 41, 42, 43] (by decide +kernel) (by decide +kernel)
set_option maxRecDepth 20000 in
theorem gX6_reckon_X6_reckonStep : GoodIn wsX6_reckon (wsV RX6 89 RX6 yX6_reckonStep wsX6_reckonStep) := goodIn_app (goodIn_of _ (by decide +kernel)) ggX6_reckon_X6_reckonStep
theorem dX6_reckon_0 : decode cX6_reckon 0 = .ok (.iconst 0, 1) := by decide +kernel
theorem dX6_reckon_1 : decode cX6_reckon 1 = .ok (.istore_n 1, 1) := by decide +kernel
theorem dX6_reckon_2 : decode cX6_reckon 2 = .ok (.iload_n 1, 1) := by decide +kernel
theorem dX6_reckon_3 : decode cX6_reckon 3 = .ok (.aload_n 0, 1) := by decide +kernel
theorem dX6_reckon_4 : decode cX6_reckon 4 = .ok (.getfield 76, 3) := by decide +kernel
theorem dX6_reckon_7 : decode cX6_reckon 7 = .ok (.if_icmp .ge 20, 3) := by decide +kernel
theorem dX6_reckon_10 : decode cX6_reckon 10 = .ok (.aload_n 0, 1) := by decide +kernel
theorem dX6_reckon_11 : decode cX6_reckon 11 = .ok (.getfield 53, 3) := by decide +kernel
theorem dX6_reckon_14 : decode cX6_reckon 14 = .ok (.iload_n 1, 1) := by decide +kernel
theorem dX6_reckon_15 : decode cX6_reckon 15 = .ok (.aload_n 0, 1) := by decide +kernel
theorem dX6_reckon_16 : decode cX6_reckon 16 = .ok (.iload_n 1, 1) := by decide +kernel
theorem dX6_reckon_17 : decode cX6_reckon 17 = .ok (.invokevirtual 89, 3) := by decide +kernel
theorem dX6_reckon_20 : decode cX6_reckon 20 = .ok (.iastore, 1) := by decide +kernel
theorem dX6_reckon_21 : decode cX6_reckon 21 = .ok (.iinc 1 1, 3) := by decide +kernel
theorem dX6_reckon_24 : decode cX6_reckon 24 = .ok (.goto (-22), 3) := by decide +kernel
theorem dX6_reckon_27 : decode cX6_reckon 27 = .ok (.return_, 1) := by decide +kernel
theorem dX6_step_0 : decode cX6_step 0 = .ok (.aload_n 0, 1) := by decide +kernel
theorem dX6_step_1 : decode cX6_step 1 = .ok (.getfield 53, 3) := by decide +kernel
theorem dX6_step_4 : decode cX6_step 4 = .ok (.iload_n 1, 1) := by decide +kernel
theorem dX6_step_5 : decode cX6_step 5 = .ok (.iaload, 1) := by decide +kernel
theorem dX6_step_6 : decode cX6_step 6 = .ok (.ireturn, 1) := by decide +kernel
set_option maxRecDepth 20000 in
theorem ggX6_reckonStep_X6_in : GoodIn wsX6_reckonStep wsX6_in := goodIn_r _ [14] (by decide +kernel) (by decide +kernel)
set_option maxRecDepth 20000 in
theorem gX6_reckonStep_X6_in : GoodIn wsX6_reckonStep (va_wsS RX6 72 yX6_in wsX6_in) := goodIn_app (goodIn_of _ (by decide +kernel)) ggX6_reckonStep_X6_in
theorem dX6_reckonStep_0 : decode cX6_reckonStep 0 = .ok (.aload_n 0, 1) := by decide +kernel
theorem dX6_reckonStep_1 : decode cX6_reckonStep 1 = .ok (.getfield 28, 3) := by decide +kernel
theorem dX6_reckonStep_4 : decode cX6_reckonStep 4 = .ok (.iload_n 1, 1) := by decide +kernel
theorem dX6_reckonStep_5 : decode cX6_reckonStep 5 = .ok (.iaload, 1) := by decide +kernel
theorem dX6_reckonStep_6 : decode cX6_reckonStep 6 = .ok (.istore_n 2, 1) := by decide +kernel
theorem dX6_reckonStep_7 : decode cX6_reckonStep 7 = .ok (.aload_n 0, 1) := by decide +kernel
theorem dX6_reckonStep_8 : decode cX6_reckonStep 8 = .ok (.getfield 7, 3) := by decide +kernel
theorem dX6_reckonStep_11 : decode cX6_reckonStep 11 = .ok (.iload_n 2, 1) := by decide +kernel
theorem dX6_reckonStep_12 : decode cX6_reckonStep 12 = .ok (.iaload, 1) := by decide +kernel
theorem dX6_reckonStep_13 : decode cX6_reckonStep 13 = .ok (.ifCond .ne 8, 3) := by decide +kernel
theorem dX6_reckonStep_16 : decode cX6_reckonStep 16 = .ok (.bipush 32, 2) := by decide +kernel
theorem dX6_reckonStep_18 : decode cX6_reckonStep 18 = .ok (.goto 20, 3) := by decide +kernel
theorem dX6_reckonStep_21 : decode cX6_reckonStep 21 = .ok (.aload_n 0, 1) := by decide +kernel
theorem dX6_reckonStep_22 : decode cX6_reckonStep 22 = .ok (.getfield 7, 3) := by decide +kernel
theorem dX6_reckonStep_25 : decode cX6_reckonStep 25 = .ok (.iload_n 2, 1) := by decide +kernel
theorem dX6_reckonStep_26 : decode cX6_reckonStep 26 = .ok (.iaload, 1) := by decide +kernel
theorem dX6_reckonStep_27 : decode cX6_reckonStep 27 = .ok (.iconst 1, 1) := by decide +kernel
theorem dX6_reckonStep_28 : decode cX6_reckonStep 28 = .ok (.if_icmp .ne 8, 3) := by decide +kernel
theorem dX6_reckonStep_31 : decode cX6_reckonStep 31 = .ok (.bipush 28, 2) := by decide +kernel
theorem dX6_reckonStep_33 : decode cX6_reckonStep 33 = .ok (.goto 5, 3) := by decide +kernel
theorem dX6_reckonStep_36 : decode cX6_reckonStep 36 = .ok (.bipush 24, 2) := by decide +kernel
theorem dX6_reckonStep_38 : decode cX6_reckonStep 38 = .ok (.istore_n 3, 1) := by decide +kernel
theorem dX6_reckonStep_39 : decode cX6_reckonStep 39 = .ok (.iconst 0, 1) := by decide +kernel
theorem dX6_reckonStep_40 : decode cX6_reckonStep 40 = .ok (.istore 4, 2) := by decide +kernel
theorem dX6_reckonStep_42 : decode cX6_reckonStep 42 = .ok (.iconst 0, 1) := by decide +kernel
theorem dX6_reckonStep_43 : decode cX6_reckonStep 43 = .ok (.istore 5, 2) := by decide +kernel
theorem dX6_reckonStep_45 : decode cX6_reckonStep 45 = .ok (.iload 5, 2) := by decide +kernel
theorem dX6_reckonStep_47 : decode cX6_reckonStep 47 = .ok (.aload_n 0, 1) := by decide +kernel
theorem dX6_reckonStep_48 : decode cX6_reckonStep 48 = .ok (.getfield 83, 3) := by decide +kernel
theorem dX6_reckonStep_51 : decode cX6_reckonStep 51 = .ok (.if_icmp .ge 62, 3) := by decide +kernel
theorem dX6_reckonStep_54 : decode cX6_reckonStep 54 = .ok (.iload 4, 2) := by decide +kernel
theorem dX6_reckonStep_56 : decode cX6_reckonStep 56 = .ok (.aload_n 0, 1) := by decide +kernel
theorem dX6_reckonStep_57 : decode cX6_reckonStep 57 = .ok (.getfield 16, 3) := by decide +kernel
theorem dX6_reckonStep_60 : decode cX6_reckonStep 60 = .ok (.iload 5, 2) := by decide +kernel
theorem dX6_reckonStep_62 : decode cX6_reckonStep 62 = .ok (.iaload, 1) := by decide +kernel
theorem dX6_reckonStep_63 : decode cX6_reckonStep 63 = .ok (.iload_n 2, 1) := by decide +kernel
theorem dX6_reckonStep_64 : decode cX6_reckonStep 64 = .ok (.if_icmp .ne 39, 3) := by decide +kernel
theorem dX6_reckonStep_67 : decode cX6_reckonStep 67 = .ok (.aload_n 0, 1) := by decide +kernel
theorem dX6_reckonStep_68 : decode cX6_reckonStep 68 = .ok (.getfield 34, 3) := by decide +kernel
theorem dX6_reckonStep_71 : decode cX6_reckonStep 71 = .ok (.iload_n 1, 1) := by decide +kernel
theorem dX6_reckonStep_72 : decode cX6_reckonStep 72 = .ok (.iaload, 1) := by decide +kernel
theorem dX6_reckonStep_73 : decode cX6_reckonStep 73 = .ok (.aload_n 0, 1) := by decide +kernel
theorem dX6_reckonStep_74 : decode cX6_reckonStep 74 = .ok (.getfield 19, 3) := by decide +kernel
theorem dX6_reckonStep_77 : decode cX6_reckonStep 77 = .ok (.iload 5, 2) := by decide +kernel
theorem dX6_reckonStep_79 : decode cX6_reckonStep 79 = .ok (.iaload, 1) := by decide +kernel
theorem dX6_reckonStep_80 : decode cX6_reckonStep 80 = .ok (.aload_n 0, 1) := by decide +kernel
theorem dX6_reckonStep_81 : decode cX6_reckonStep 81 = .ok (.getfield 22, 3) := by decide +kernel
theorem dX6_reckonStep_84 : decode cX6_reckonStep 84 = .ok (.iload 5, 2) := by decide +kernel
theorem dX6_reckonStep_86 : decode cX6_reckonStep 86 = .ok (.iaload, 1) := by decide +kernel
theorem dX6_reckonStep_87 : decode cX6_reckonStep 87 = .ok (.invokestatic 72, 3) := by decide +kernel
theorem dX6_reckonStep_90 : decode cX6_reckonStep 90 = .ok (.ifCond .eq 13, 3) := by decide +kernel
theorem dX6_reckonStep_93 : decode cX6_reckonStep 93 = .ok (.aload_n 0, 1) := by decide +kernel
theorem dX6_reckonStep_94 : decode cX6_reckonStep 94 = .ok (.getfield 25, 3) := by decide +kernel
theorem dX6_reckonStep_97 : decode cX6_reckonStep 97 = .ok (.iload 5, 2) := by decide +kernel
theorem dX6_reckonStep_99 : decode cX6_reckonStep 99 = .ok (.iaload, 1) := by decide +kernel
theorem dX6_reckonStep_100 : decode cX6_reckonStep 100 = .ok (.goto 4, 3) := by decide +kernel
theorem dX6_reckonStep_103 : decode cX6_reckonStep 103 = .ok (.iconst 0, 1) := by decide +kernel
theorem dX6_reckonStep_104 : decode cX6_reckonStep 104 = .ok (.iadd, 1) := by decide +kernel
theorem dX6_reckonStep_105 : decode cX6_reckonStep 105 = .ok (.istore 4, 2) := by decide +kernel
theorem dX6_reckonStep_107 : decode cX6_reckonStep 107 = .ok (.iinc 5 1, 3) := by decide +kernel
theorem dX6_reckonStep_110 : decode cX6_reckonStep 110 = .ok (.goto (-65), 3) := by decide +kernel
theorem dX6_reckonStep_113 : decode cX6_reckonStep 113 = .ok (.aload_n 0, 1) := by decide +kernel
theorem dX6_reckonStep_114 : decode cX6_reckonStep 114 = .ok (.getfield 37, 3) := by decide +kernel
theorem dX6_reckonStep_117 : decode cX6_reckonStep 117 = .ok (.iload_n 1, 1) := by decide +kernel
theorem dX6_reckonStep_118 : decode cX6_reckonStep 118 = .ok (.iaload, 1) := by decide +kernel
theorem dX6_reckonStep_119 : decode cX6_reckonStep 119 = .ok (.iload_n 3, 1) := by decide +kernel
theorem dX6_reckonStep_120 : decode cX6_reckonStep 120 = .ok (.isub, 1) := by decide +kernel
theorem dX6_reckonStep_121 : decode cX6_reckonStep 121 = .ok (.iconst 2, 1) := by decide +kernel
theorem dX6_reckonStep_122 : decode cX6_reckonStep 122 = .ok (.aload_n 0, 1) := by decide +kernel
theorem dX6_reckonStep_123 : decode cX6_reckonStep 123 = .ok (.getfield 13, 3) := by decide +kernel
theorem dX6_reckonStep_126 : decode cX6_reckonStep 126 = .ok (.iload_n 2, 1) := by decide +kernel
theorem dX6_reckonStep_127 : decode cX6_reckonStep 127 = .ok (.iaload, 1) := by decide +kernel
theorem dX6_reckonStep_128 : decode cX6_reckonStep 128 = .ok (.imul, 1) := by decide +kernel
theorem dX6_reckonStep_129 : decode cX6_reckonStep 129 = .ok (.iadd, 1) := by decide +kernel
theorem dX6_reckonStep_130 : decode cX6_reckonStep 130 = .ok (.iconst 2, 1) := by decide +kernel
theorem dX6_reckonStep_131 : decode cX6_reckonStep 131 = .ok (.isub, 1) := by decide +kernel
theorem dX6_reckonStep_132 : decode cX6_reckonStep 132 = .ok (.bipush 7, 2) := by decide +kernel
theorem dX6_reckonStep_134 : decode cX6_reckonStep 134 = .ok (.iload 4, 2) := by decide +kernel
theorem dX6_reckonStep_136 : decode cX6_reckonStep 136 = .ok (.imul, 1) := by decide +kernel
theorem dX6_reckonStep_137 : decode cX6_reckonStep 137 = .ok (.isub, 1) := by decide +kernel
theorem dX6_reckonStep_138 : decode cX6_reckonStep 138 = .ok (.ireturn, 1) := by decide +kernel
theorem dX6_isAt_0 : decode cX6_isAt 0 = .ok (.aload_n 0, 1) := by decide +kernel
theorem dX6_isAt_1 : decode cX6_isAt 1 = .ok (.getfield 28, 3) := by decide +kernel
theorem dX6_isAt_4 : decode cX6_isAt 4 = .ok (.iload_n 1, 1) := by decide +kernel
theorem dX6_isAt_5 : decode cX6_isAt 5 = .ok (.iaload, 1) := by decide +kernel
theorem dX6_isAt_6 : decode cX6_isAt 6 = .ok (.iload_n 2, 1) := by decide +kernel
theorem dX6_isAt_7 : decode cX6_isAt 7 = .ok (.if_icmp .ne 17, 3) := by decide +kernel
theorem dX6_isAt_10 : decode cX6_isAt 10 = .ok (.aload_n 0, 1) := by decide +kernel
theorem dX6_isAt_11 : decode cX6_isAt 11 = .ok (.getfield 34, 3) := by decide +kernel
theorem dX6_isAt_14 : decode cX6_isAt 14 = .ok (.iload_n 1, 1) := by decide +kernel
theorem dX6_isAt_15 : decode cX6_isAt 15 = .ok (.iaload, 1) := by decide +kernel
theorem dX6_isAt_16 : decode cX6_isAt 16 = .ok (.iload_n 3, 1) := by decide +kernel
theorem dX6_isAt_17 : decode cX6_isAt 17 = .ok (.if_icmp .ne 7, 3) := by decide +kernel
theorem dX6_isAt_20 : decode cX6_isAt 20 = .ok (.iconst 1, 1) := by decide +kernel
theorem dX6_isAt_21 : decode cX6_isAt 21 = .ok (.goto 4, 3) := by decide +kernel
theorem dX6_isAt_24 : decode cX6_isAt 24 = .ok (.iconst 0, 1) := by decide +kernel
theorem dX6_isAt_25 : decode cX6_isAt 25 = .ok (.ireturn, 1) := by decide +kernel
set_option maxRecDepth 20000 in
theorem ggX6_isIn_X6_isAt : GoodIn wsX6_isIn wsX6_isAt := goodIn_r _ [6, 7, 8, 9, 10, 11, 12, 13, 14, 15, 16, 17, 18, 19, 20, 21, 22, 23, 24, 25, 26, 27, 28, 29, 30, 31] (by decide +kernel) (by decide +kernel)
set_option maxRecDepth 20000 in
theorem gX6_isIn_X6_isAt : GoodIn wsX6_isIn (wsV RX6 93 RX6 yX6_isAt wsX6_isAt) := goodIn_app (goodIn_of _ (by decide +kernel)) ggX6_isIn_X6_isAt
theorem dX6_isIn_0 : decode cX6_isIn 0 = .ok (.aload_n 0, 1) := by decide +kernel
theorem dX6_isIn_1 : decode cX6_isIn 1 = .ok (.iload_n 1, 1) := by decide +kernel
theorem dX6_isIn_2 : decode cX6_isIn 2 = .ok (.iload_n 2, 1) := by decide +kernel
theorem dX6_isIn_3 : decode cX6_isIn 3 = .ok (.iload_n 3, 1) := by decide +kernel
theorem dX6_isIn_4 : decode cX6_isIn 4 = .ok (.invokevirtual 93, 3) := by decide +kernel
theorem dX6_isIn_7 : decode cX6_isIn 7 = .ok (.ifCond .eq 18, 3) := by decide +kernel
theorem dX6_isIn_10 : decode cX6_isIn 10 = .ok (.aload_n 0, 1) := by decide +kernel
theorem dX6_isIn_11 : decode cX6_isIn 11 = .ok (.getfield 31, 3) := by decide +kernel
theorem dX6_isIn_14 : decode cX6_isIn 14 = .ok (.iload_n 1, 1) := by decide +kernel
theorem dX6_isIn_15 : decode cX6_isIn 15 = .ok (.iaload, 1) := by decide +kernel
theorem dX6_isIn_16 : decode cX6_isIn 16 = .ok (.iload 4, 2) := by decide +kernel
theorem dX6_isIn_18 : decode cX6_isIn 18 = .ok (.if_icmp .ne 7, 3) := by decide +kernel
theorem dX6_isIn_21 : decode cX6_isIn 21 = .ok (.iconst 1, 1) := by decide +kernel
theorem dX6_isIn_22 : decode cX6_isIn 22 = .ok (.goto 4, 3) := by decide +kernel
theorem dX6_isIn_25 : decode cX6_isIn 25 = .ok (.iconst 0, 1) := by decide +kernel
theorem dX6_isIn_26 : decode cX6_isIn 26 = .ok (.ireturn, 1) := by decide +kernel
set_option maxRecDepth 20000 in
theorem ggX6_many_X6_isIn : GoodIn wsX6_many wsX6_isIn := goodIn_r _ [6, 7, 8, 9, 10, 5, 11, 12, 13, 14, 15, 16, 17, 18, 19, 20, 21, 22, 23, 24, 25, 26, 27, 28, 29, 30, 31, 32, 33, 34, 35, 36] (by decide +kernel) (by decide +kernel)
set_option maxRecDepth 20000 in
theorem gX6_many_X6_isIn : GoodIn wsX6_many (wsV RX6 96 RX6 yX6_isIn wsX6_isIn) := goodIn_app (goodIn_of _ (by decide +kernel)) ggX6_many_X6_isIn
theorem dX6_many_0 : decode cX6_many 0 = .ok (.iconst 0, 1) := by decide +kernel
theorem dX6_many_1 : decode cX6_many 1 = .ok (.istore 4, 2) := by decide +kernel
theorem dX6_many_3 : decode cX6_many 3 = .ok (.iconst 0, 1) := by decide +kernel
theorem dX6_many_4 : decode cX6_many 4 = .ok (.istore 5, 2) := by decide +kernel
theorem dX6_many_6 : decode cX6_many 6 = .ok (.iload 5, 2) := by decide +kernel
theorem dX6_many_8 : decode cX6_many 8 = .ok (.aload_n 0, 1) := by decide +kernel
theorem dX6_many_9 : decode cX6_many 9 = .ok (.getfield 76, 3) := by decide +kernel
theorem dX6_many_12 : decode cX6_many 12 = .ok (.if_icmp .ge 31, 3) := by decide +kernel
theorem dX6_many_15 : decode cX6_many 15 = .ok (.iload 4, 2) := by decide +kernel
theorem dX6_many_17 : decode cX6_many 17 = .ok (.aload_n 0, 1) := by decide +kernel
theorem dX6_many_18 : decode cX6_many 18 = .ok (.iload 5, 2) := by decide +kernel
theorem dX6_many_20 : decode cX6_many 20 = .ok (.iload_n 1, 1) := by decide +kernel
theorem dX6_many_21 : decode cX6_many 21 = .ok (.iload_n 2, 1) := by decide +kernel
theorem dX6_many_22 : decode cX6_many 22 = .ok (.iload_n 3, 1) := by decide +kernel
theorem dX6_many_23 : decode cX6_many 23 = .ok (.invokevirtual 96, 3) := by decide +kernel
theorem dX6_many_26 : decode cX6_many 26 = .ok (.ifCond .eq 7, 3) := by decide +kernel
theorem dX6_many_29 : decode cX6_many 29 = .ok (.iconst 1, 1) := by decide +kernel
theorem dX6_many_30 : decode cX6_many 30 = .ok (.goto 4, 3) := by decide +kernel
theorem dX6_many_33 : decode cX6_many 33 = .ok (.iconst 0, 1) := by decide +kernel
theorem dX6_many_34 : decode cX6_many 34 = .ok (.iadd, 1) := by decide +kernel
theorem dX6_many_35 : decode cX6_many 35 = .ok (.istore 4, 2) := by decide +kernel
theorem dX6_many_37 : decode cX6_many 37 = .ok (.iinc 5 1, 3) := by decide +kernel
theorem dX6_many_40 : decode cX6_many 40 = .ok (.goto (-34), 3) := by decide +kernel
theorem dX6_many_43 : decode cX6_many 43 = .ok (.iload 4, 2) := by decide +kernel
theorem dX6_many_45 : decode cX6_many 45 = .ok (.ireturn, 1) := by decide +kernel
set_option maxRecDepth 20000 in
theorem ggX6_end_X6_isIn : GoodIn wsX6_end wsX6_isIn := goodIn_r _ [6, 7, 8, 9, 10, 5, 11, 12, 13, 19, 20, 21, 22, 23, 24, 25, 26, 27, 28, 29, 30, 31, 32, 33, 34, 35, 36, 37, 38, 39, 40, 41] (by decide +kernel) (by decide +kernel)
set_option maxRecDepth 20000 in
theorem gX6_end_X6_isIn : GoodIn wsX6_end (wsV RX6 96 RX6 yX6_isIn wsX6_isIn) := goodIn_app (goodIn_of _ (by decide +kernel)) ggX6_end_X6_isIn
set_option maxRecDepth 20000 in
theorem ggX6_end_X6_step : GoodIn wsX6_end wsX6_step := goodIn_r _ [17, 18, 19, 20, 21, 22, 23, 24, 25, 26, 27, 28, 29, 30, 31, 32, 33, 34, 35, 36, 37, 38, 39, 40, 41] (by decide +kernel) (by decide +kernel)
set_option maxRecDepth 20000 in
theorem gX6_end_X6_step : GoodIn wsX6_end (wsV RX6 100 RX6 yX6_step wsX6_step) := goodIn_app (goodIn_of _ (by decide +kernel)) ggX6_end_X6_step
theorem dX6_end_0 : decode cX6_end 0 = .ok (.iload 4, 2) := by decide +kernel
theorem dX6_end_2 : decode cX6_end 2 = .ok (.ifCond .eq 9, 3) := by decide +kernel
theorem dX6_end_5 : decode cX6_end 5 = .ok (.sipush (-1000), 3) := by decide +kernel
theorem dX6_end_8 : decode cX6_end 8 = .ok (.goto 6, 3) := by decide +kernel
theorem dX6_end_11 : decode cX6_end 11 = .ok (.sipush 1000, 3) := by decide +kernel
theorem dX6_end_14 : decode cX6_end 14 = .ok (.istore 5, 2) := by decide +kernel
theorem dX6_end_16 : decode cX6_end 16 = .ok (.iconst 0, 1) := by decide +kernel
theorem dX6_end_17 : decode cX6_end 17 = .ok (.istore 6, 2) := by decide +kernel
theorem dX6_end_19 : decode cX6_end 19 = .ok (.iload 6, 2) := by decide +kernel
theorem dX6_end_21 : decode cX6_end 21 = .ok (.aload_n 0, 1) := by decide +kernel
theorem dX6_end_22 : decode cX6_end 22 = .ok (.getfield 76, 3) := by decide +kernel
theorem dX6_end_25 : decode cX6_end 25 = .ok (.if_icmp .ge 55, 3) := by decide +kernel
theorem dX6_end_28 : decode cX6_end 28 = .ok (.aload_n 0, 1) := by decide +kernel
theorem dX6_end_29 : decode cX6_end 29 = .ok (.iload 6, 2) := by decide +kernel
theorem dX6_end_31 : decode cX6_end 31 = .ok (.iload_n 1, 1) := by decide +kernel
theorem dX6_end_32 : decode cX6_end 32 = .ok (.iload_n 2, 1) := by decide +kernel
theorem dX6_end_33 : decode cX6_end 33 = .ok (.iload_n 3, 1) := by decide +kernel
theorem dX6_end_34 : decode cX6_end 34 = .ok (.invokevirtual 96, 3) := by decide +kernel
theorem dX6_end_37 : decode cX6_end 37 = .ok (.ifCond .eq 37, 3) := by decide +kernel
theorem dX6_end_40 : decode cX6_end 40 = .ok (.aload_n 0, 1) := by decide +kernel
theorem dX6_end_41 : decode cX6_end 41 = .ok (.iload 6, 2) := by decide +kernel
theorem dX6_end_43 : decode cX6_end 43 = .ok (.invokevirtual 100, 3) := by decide +kernel
theorem dX6_end_46 : decode cX6_end 46 = .ok (.istore 7, 2) := by decide +kernel
theorem dX6_end_48 : decode cX6_end 48 = .ok (.iload 4, 2) := by decide +kernel
theorem dX6_end_50 : decode cX6_end 50 = .ok (.iload 7, 2) := by decide +kernel
theorem dX6_end_52 : decode cX6_end 52 = .ok (.iload 5, 2) := by decide +kernel
theorem dX6_end_54 : decode cX6_end 54 = .ok (.if_icmp .le 7, 3) := by decide +kernel
theorem dX6_end_57 : decode cX6_end 57 = .ok (.iconst 1, 1) := by decide +kernel
theorem dX6_end_58 : decode cX6_end 58 = .ok (.goto 4, 3) := by decide +kernel
theorem dX6_end_61 : decode cX6_end 61 = .ok (.iconst 0, 1) := by decide +kernel
theorem dX6_end_62 : decode cX6_end 62 = .ok (.if_icmp .ne 8, 3) := by decide +kernel
theorem dX6_end_65 : decode cX6_end 65 = .ok (.iload 7, 2) := by decide +kernel
theorem dX6_end_67 : decode cX6_end 67 = .ok (.goto 5, 3) := by decide +kernel
theorem dX6_end_70 : decode cX6_end 70 = .ok (.iload 5, 2) := by decide +kernel
theorem dX6_end_72 : decode cX6_end 72 = .ok (.istore 5, 2) := by decide +kernel
theorem dX6_end_74 : decode cX6_end 74 = .ok (.iinc 6 1, 3) := by decide +kernel
theorem dX6_end_77 : decode cX6_end 77 = .ok (.goto (-58), 3) := by decide +kernel
theorem dX6_end_80 : decode cX6_end 80 = .ok (.iload 5, 2) := by decide +kernel
theorem dX6_end_82 : decode cX6_end 82 = .ok (.ireturn, 1) := by decide +kernel
set_option maxRecDepth 20000 in
theorem ggX6_stem_X6_many : GoodIn wsX6_stem wsX6_many := goodIn_r _ [5, 6, 7, 8, 9, 4, 10, 11, 12, 13, 14, 15, 16, 17, 27, 28, 29, 30, 31, 32, 33, 34, 35, 36, 37, 38, 39, 40, 41, 42, 43, 44, 45, 46, 47, 48, 49] (by decide +kernel) (by decide +kernel)
set_option maxRecDepth 20000 in
theorem gX6_stem_X6_many : GoodIn wsX6_stem (wsV RX6 103 RX6 yX6_many wsX6_many) := goodIn_app (goodIn_of _ (by decide +kernel)) ggX6_stem_X6_many
set_option maxRecDepth 20000 in
theorem ggX6_stem_X6_end : GoodIn wsX6_stem wsX6_end := goodIn_r _ [21, 6, 7, 8, 9, 4, 10, 11, 12, 13, 14, 15, 16, 17, 22, 23, 24, 25, 26, 27, 28, 29, 30, 31, 32, 33, 34, 35, 36, 37, 38, 39, 40, 41, 42, 43, 44, 45, 46, 47, 48, 49] (by decide +kernel) (by decide +kernel)
set_option maxRecDepth 20000 in
theorem gX6_stem_X6_end : GoodIn wsX6_stem (wsV RX6 107 RX6 yX6_end wsX6_end) := goodIn_app (goodIn_of _ (by decide +kernel)) ggX6_stem_X6_end
theorem dX6_stem_0 : decode cX6_stem 0 = .ok (.iconst 0, 1) := by decide +kernel
theorem dX6_stem_1 : decode cX6_stem 1 = .ok (.istore 4, 2) := by decide +kernel
theorem dX6_stem_3 : decode cX6_stem 3 = .ok (.iconst 0, 1) := by decide +kernel
theorem dX6_stem_4 : decode cX6_stem 4 = .ok (.istore 5, 2) := by decide +kernel
theorem dX6_stem_6 : decode cX6_stem 6 = .ok (.iconst 0, 1) := by decide +kernel
theorem dX6_stem_7 : decode cX6_stem 7 = .ok (.istore 6, 2) := by decide +kernel
theorem dX6_stem_9 : decode cX6_stem 9 = .ok (.iload 6, 2) := by decide +kernel
theorem dX6_stem_11 : decode cX6_stem 11 = .ok (.iconst 3, 1) := by decide +kernel
theorem dX6_stem_12 : decode cX6_stem 12 = .ok (.if_icmp .ge 53, 3) := by decide +kernel
theorem dX6_stem_15 : decode cX6_stem 15 = .ok (.aload_n 0, 1) := by decide +kernel
theorem dX6_stem_16 : decode cX6_stem 16 = .ok (.iload_n 1, 1) := by decide +kernel
theorem dX6_stem_17 : decode cX6_stem 17 = .ok (.iload_n 2, 1) := by decide +kernel
theorem dX6_stem_18 : decode cX6_stem 18 = .ok (.iload 6, 2) := by decide +kernel
theorem dX6_stem_20 : decode cX6_stem 20 = .ok (.invokevirtual 103, 3) := by decide +kernel
theorem dX6_stem_23 : decode cX6_stem 23 = .ok (.istore 7, 2) := by decide +kernel
theorem dX6_stem_25 : decode cX6_stem 25 = .ok (.iload 4, 2) := by decide +kernel
theorem dX6_stem_27 : decode cX6_stem 27 = .ok (.iload 6, 2) := by decide +kernel
theorem dX6_stem_29 : decode cX6_stem 29 = .ok (.iload_n 3, 1) := by decide +kernel
theorem dX6_stem_30 : decode cX6_stem 30 = .ok (.if_icmp .ge 8, 3) := by decide +kernel
theorem dX6_stem_33 : decode cX6_stem 33 = .ok (.iload 7, 2) := by decide +kernel
theorem dX6_stem_35 : decode cX6_stem 35 = .ok (.goto 4, 3) := by decide +kernel
theorem dX6_stem_38 : decode cX6_stem 38 = .ok (.iconst 0, 1) := by decide +kernel
theorem dX6_stem_39 : decode cX6_stem 39 = .ok (.iadd, 1) := by decide +kernel
theorem dX6_stem_40 : decode cX6_stem 40 = .ok (.istore 4, 2) := by decide +kernel
theorem dX6_stem_42 : decode cX6_stem 42 = .ok (.iload 5, 2) := by decide +kernel
theorem dX6_stem_44 : decode cX6_stem 44 = .ok (.iload 6, 2) := by decide +kernel
theorem dX6_stem_46 : decode cX6_stem 46 = .ok (.iload_n 3, 1) := by decide +kernel
theorem dX6_stem_47 : decode cX6_stem 47 = .ok (.if_icmp .le 8, 3) := by decide +kernel
theorem dX6_stem_50 : decode cX6_stem 50 = .ok (.iload 7, 2) := by decide +kernel
theorem dX6_stem_52 : decode cX6_stem 52 = .ok (.goto 4, 3) := by decide +kernel
theorem dX6_stem_55 : decode cX6_stem 55 = .ok (.iconst 0, 1) := by decide +kernel
theorem dX6_stem_56 : decode cX6_stem 56 = .ok (.iadd, 1) := by decide +kernel
theorem dX6_stem_57 : decode cX6_stem 57 = .ok (.istore 5, 2) := by decide +kernel
theorem dX6_stem_59 : decode cX6_stem 59 = .ok (.iinc 6 1, 3) := by decide +kernel
theorem dX6_stem_62 : decode cX6_stem 62 = .ok (.goto (-53), 3) := by decide +kernel
theorem dX6_stem_65 : decode cX6_stem 65 = .ok (.iload 4, 2) := by decide +kernel
theorem dX6_stem_67 : decode cX6_stem 67 = .ok (.iload 5, 2) := by decide +kernel
theorem dX6_stem_69 : decode cX6_stem 69 = .ok (.iadd, 1) := by decide +kernel
theorem dX6_stem_70 : decode cX6_stem 70 = .ok (.ifCond .le 14, 3) := by decide +kernel
theorem dX6_stem_73 : decode cX6_stem 73 = .ok (.iload 4, 2) := by decide +kernel
theorem dX6_stem_75 : decode cX6_stem 75 = .ok (.ifCond .ne 7, 3) := by decide +kernel
theorem dX6_stem_78 : decode cX6_stem 78 = .ok (.iconst 1, 1) := by decide +kernel
theorem dX6_stem_79 : decode cX6_stem 79 = .ok (.goto 4, 3) := by decide +kernel
theorem dX6_stem_82 : decode cX6_stem 82 = .ok (.iconst 0, 1) := by decide +kernel
theorem dX6_stem_83 : decode cX6_stem 83 = .ok (.ireturn, 1) := by decide +kernel
theorem dX6_stem_84 : decode cX6_stem 84 = .ok (.aload_n 0, 1) := by decide +kernel
theorem dX6_stem_85 : decode cX6_stem 85 = .ok (.iload_n 1, 1) := by decide +kernel
theorem dX6_stem_86 : decode cX6_stem 86 = .ok (.iload_n 2, 1) := by decide +kernel
theorem dX6_stem_87 : decode cX6_stem 87 = .ok (.iload_n 3, 1) := by decide +kernel
theorem dX6_stem_88 : decode cX6_stem 88 = .ok (.iconst 1, 1) := by decide +kernel
theorem dX6_stem_89 : decode cX6_stem 89 = .ok (.invokevirtual 107, 3) := by decide +kernel
theorem dX6_stem_92 : decode cX6_stem 92 = .ok (.iconst 4, 1) := by decide +kernel
theorem dX6_stem_93 : decode cX6_stem 93 = .ok (.isub, 1) := by decide +kernel
theorem dX6_stem_94 : decode cX6_stem 94 = .ok (.iconst 4, 1) := by decide +kernel
theorem dX6_stem_95 : decode cX6_stem 95 = .ok (.aload_n 0, 1) := by decide +kernel
theorem dX6_stem_96 : decode cX6_stem 96 = .ok (.iload_n 1, 1) := by decide +kernel
theorem dX6_stem_97 : decode cX6_stem 97 = .ok (.iload_n 2, 1) := by decide +kernel
theorem dX6_stem_98 : decode cX6_stem 98 = .ok (.iload_n 3, 1) := by decide +kernel
theorem dX6_stem_99 : decode cX6_stem 99 = .ok (.iconst 0, 1) := by decide +kernel
theorem dX6_stem_100 : decode cX6_stem 100 = .ok (.invokevirtual 107, 3) := by decide +kernel
theorem dX6_stem_103 : decode cX6_stem 103 = .ok (.isub, 1) := by decide +kernel
theorem dX6_stem_104 : decode cX6_stem 104 = .ok (.if_icmp .ge 7, 3) := by decide +kernel
theorem dX6_stem_107 : decode cX6_stem 107 = .ok (.iconst 1, 1) := by decide +kernel
theorem dX6_stem_108 : decode cX6_stem 108 = .ok (.goto 4, 3) := by decide +kernel
theorem dX6_stem_111 : decode cX6_stem 111 = .ok (.iconst 0, 1) := by decide +kernel
theorem dX6_stem_112 : decode cX6_stem 112 = .ok (.ireturn, 1) := by decide +kernel
set_option maxRecDepth 20000 in
theorem ggX6_stemOf_X6_stem : GoodIn wsX6_stemOf wsX6_stem := goodIn_r _ [8, 9, 10, 11, 7, 12, 13, 14, 15, 16, 17, 3, 18, 19, 20, 21, 1, 2, 22, 23, 24, 25, 26, 27, 28, 29, 30, 31, 32, 33, 34, 35, 36, 37, 38, 39, 40, 41, 42, 43, 44, 45, 46, 47, 48, 49, 50, 51, 52, 53] (by decide +kernel) (by decide +kernel)
set_option maxRecDepth 20000 in
theorem gX6_stemOf_X6_stem : GoodIn wsX6_stemOf (wsV RX6 111 RX6 yX6_stem wsX6_stem) := goodIn_app (goodIn_of _ (by decide +kernel)) ggX6_stemOf_X6_stem
theorem dX6_stemOf_0 : decode cX6_stemOf 0 = .ok (.aload_n 0, 1) := by decide +kernel
theorem dX6_stemOf_1 : decode cX6_stemOf 1 = .ok (.aload_n 0, 1) := by decide +kernel
theorem dX6_stemOf_2 : decode cX6_stemOf 2 = .ok (.getfield 28, 3) := by decide +kernel
theorem dX6_stemOf_5 : decode cX6_stemOf 5 = .ok (.iload_n 1, 1) := by decide +kernel
theorem dX6_stemOf_6 : decode cX6_stemOf 6 = .ok (.iaload, 1) := by decide +kernel
theorem dX6_stemOf_7 : decode cX6_stemOf 7 = .ok (.aload_n 0, 1) := by decide +kernel
theorem dX6_stemOf_8 : decode cX6_stemOf 8 = .ok (.getfield 34, 3) := by decide +kernel
theorem dX6_stemOf_11 : decode cX6_stemOf 11 = .ok (.iload_n 1, 1) := by decide +kernel
theorem dX6_stemOf_12 : decode cX6_stemOf 12 = .ok (.iaload, 1) := by decide +kernel
theorem dX6_stemOf_13 : decode cX6_stemOf 13 = .ok (.aload_n 0, 1) := by decide +kernel
theorem dX6_stemOf_14 : decode cX6_stemOf 14 = .ok (.getfield 31, 3) := by decide +kernel
theorem dX6_stemOf_17 : decode cX6_stemOf 17 = .ok (.iload_n 1, 1) := by decide +kernel
theorem dX6_stemOf_18 : decode cX6_stemOf 18 = .ok (.iaload, 1) := by decide +kernel
theorem dX6_stemOf_19 : decode cX6_stemOf 19 = .ok (.invokevirtual 111, 3) := by decide +kernel
theorem dX6_stemOf_22 : decode cX6_stemOf 22 = .ok (.ireturn, 1) := by decide +kernel
set_option maxRecDepth 20000 in
theorem ggX6_isAhead_X6_step : GoodIn wsX6_isAhead wsX6_step := goodIn_r _ [5, 6, 7, 8, 9, 10, 11, 12, 13, 14, 15, 16, 17, 18, 19, 20, 21, 22, 23, 24, 25, 26, 27, 28, 29] (by decide +kernel) (by decide +kernel)
set_option maxRecDepth 20000 in
theorem gX6_isAhead_X6_step : GoodIn wsX6_isAhead (wsV RX6 100 RX6 yX6_step wsX6_step) := goodIn_app (goodIn_of _ (by decide +kernel)) ggX6_isAhead_X6_step
theorem dX6_isAhead_0 : decode cX6_isAhead 0 = .ok (.aload_n 0, 1) := by decide +kernel
theorem dX6_isAhead_1 : decode cX6_isAhead 1 = .ok (.iload_n 1, 1) := by decide +kernel
theorem dX6_isAhead_2 : decode cX6_isAhead 2 = .ok (.invokevirtual 100, 3) := by decide +kernel
theorem dX6_isAhead_5 : decode cX6_isAhead 5 = .ok (.aload_n 0, 1) := by decide +kernel
theorem dX6_isAhead_6 : decode cX6_isAhead 6 = .ok (.iload_n 2, 1) := by decide +kernel
theorem dX6_isAhead_7 : decode cX6_isAhead 7 = .ok (.invokevirtual 100, 3) := by decide +kernel
theorem dX6_isAhead_10 : decode cX6_isAhead 10 = .ok (.isub, 1) := by decide +kernel
theorem dX6_isAhead_11 : decode cX6_isAhead 11 = .ok (.istore 4, 2) := by decide +kernel
theorem dX6_isAhead_13 : decode cX6_isAhead 13 = .ok (.iload 4, 2) := by decide +kernel
theorem dX6_isAhead_15 : decode cX6_isAhead 15 = .ok (.ifCond .ne 16, 3) := by decide +kernel
theorem dX6_isAhead_18 : decode cX6_isAhead 18 = .ok (.iload_n 1, 1) := by decide +kernel
theorem dX6_isAhead_19 : decode cX6_isAhead 19 = .ok (.iload_n 2, 1) := by decide +kernel
theorem dX6_isAhead_20 : decode cX6_isAhead 20 = .ok (.if_icmp .ge 7, 3) := by decide +kernel
theorem dX6_isAhead_23 : decode cX6_isAhead 23 = .ok (.iconst 1, 1) := by decide +kernel
theorem dX6_isAhead_24 : decode cX6_isAhead 24 = .ok (.goto 26, 3) := by decide +kernel
theorem dX6_isAhead_27 : decode cX6_isAhead 27 = .ok (.iconst 0, 1) := by decide +kernel
theorem dX6_isAhead_28 : decode cX6_isAhead 28 = .ok (.goto 22, 3) := by decide +kernel
theorem dX6_isAhead_31 : decode cX6_isAhead 31 = .ok (.iload_n 3, 1) := by decide +kernel
theorem dX6_isAhead_32 : decode cX6_isAhead 32 = .ok (.iload 4, 2) := by decide +kernel
theorem dX6_isAhead_34 : decode cX6_isAhead 34 = .ok (.ifCond .ge 7, 3) := by decide +kernel
theorem dX6_isAhead_37 : decode cX6_isAhead 37 = .ok (.iconst 1, 1) := by decide +kernel
theorem dX6_isAhead_38 : decode cX6_isAhead 38 = .ok (.goto 4, 3) := by decide +kernel
theorem dX6_isAhead_41 : decode cX6_isAhead 41 = .ok (.iconst 0, 1) := by decide +kernel
theorem dX6_isAhead_42 : decode cX6_isAhead 42 = .ok (.if_icmp .ne 7, 3) := by decide +kernel
theorem dX6_isAhead_45 : decode cX6_isAhead 45 = .ok (.iconst 1, 1) := by decide +kernel
theorem dX6_isAhead_46 : decode cX6_isAhead 46 = .ok (.goto 4, 3) := by decide +kernel
theorem dX6_isAhead_49 : decode cX6_isAhead 49 = .ok (.iconst 0, 1) := by decide +kernel
theorem dX6_isAhead_50 : decode cX6_isAhead 50 = .ok (.ireturn, 1) := by decide +kernel
set_option maxRecDepth 20000 in
theorem ggX6_aside_X6_stemOf : GoodIn wsX6_aside wsX6_stemOf := goodIn_r _ [9, 2, 3, 4, 10, 11, 12, 8, 13, 14, 15, 16, 17, 1, 18, 19, 20, 21, 22, 23, 24, 25, 26, 27, 28, 29, 30, 31, 32, 33, 34, 39, 40, 41, 42, 43, 44, 45, 46, 47, 48, 49, 50, 51, 52, 53, 54, 55, 56, 57, 58, 59, 60, 61] (by decide +kernel) (by decide +kernel)
set_option maxRecDepth 20000 in
theorem gX6_aside_X6_stemOf : GoodIn wsX6_aside (wsV RX6 114 RX6 yX6_stemOf wsX6_stemOf) := goodIn_app (goodIn_of _ (by decide +kernel)) ggX6_aside_X6_stemOf
set_option maxRecDepth 20000 in
theorem ggX6_aside_X6_isIn : GoodIn wsX6_aside wsX6_isIn := goodIn_r _ [21, 4, 22, 23, 24, 8, 25, 2, 3, 39, 40, 41, 42, 43, 44, 45, 46, 47, 48, 49, 50, 51, 52, 53, 54, 55, 56, 57, 58, 59, 60, 61] (by decide +kernel) (by decide +kernel)
set_option maxRecDepth 20000 in
theorem gX6_aside_X6_isIn : GoodIn wsX6_aside (wsV RX6 96 RX6 yX6_isIn wsX6_isIn) := goodIn_app (goodIn_of _ (by decide +kernel)) ggX6_aside_X6_isIn
set_option maxRecDepth 20000 in
theorem ggX6_aside_X6_isAhead : GoodIn wsX6_aside wsX6_isAhead := goodIn_r _ [38, 30, 31, 32, 8, 33, 34, 39, 40, 41, 42, 43, 44, 45, 46, 47, 48, 49, 50, 51, 52, 53, 54, 55, 56, 57, 58, 59, 60, 61] (by decide +kernel) (by decide +kernel)
set_option maxRecDepth 20000 in
theorem gX6_aside_X6_isAhead : GoodIn wsX6_aside (wsV RX6 117 RX6 yX6_isAhead wsX6_isAhead) := goodIn_app (goodIn_of _ (by decide +kernel)) ggX6_aside_X6_isAhead
set_option maxRecDepth 20000 in
theorem ggX6_aside_X6_step : GoodIn wsX6_aside wsX6_step := goodIn_r _ [33, 34, 39, 40, 41, 42, 43, 44, 45, 46, 47, 48, 49, 50, 51, 52, 53, 54, 55, 56, 57, 58, 59, 60, 61] (by decide +kernel) (by decide +kernel)
set_option maxRecDepth 20000 in
theorem gX6_aside_X6_step : GoodIn wsX6_aside (wsV RX6 100 RX6 yX6_step wsX6_step) := goodIn_app (goodIn_of _ (by decide +kernel)) ggX6_aside_X6_step
theorem dX6_aside_0 : decode cX6_aside 0 = .ok (.aload_n 0, 1) := by decide +kernel
theorem dX6_aside_1 : decode cX6_aside 1 = .ok (.iload_n 1, 1) := by decide +kernel
theorem dX6_aside_2 : decode cX6_aside 2 = .ok (.invokevirtual 114, 3) := by decide +kernel
theorem dX6_aside_5 : decode cX6_aside 5 = .ok (.iconst 1, 1) := by decide +kernel
theorem dX6_aside_6 : decode cX6_aside 6 = .ok (.if_icmp .ne 7, 3) := by decide +kernel
theorem dX6_aside_9 : decode cX6_aside 9 = .ok (.iconst 1, 1) := by decide +kernel
theorem dX6_aside_10 : decode cX6_aside 10 = .ok (.goto 4, 3) := by decide +kernel
theorem dX6_aside_13 : decode cX6_aside 13 = .ok (.iconst 0, 1) := by decide +kernel
theorem dX6_aside_14 : decode cX6_aside 14 = .ok (.istore_n 2, 1) := by decide +kernel
theorem dX6_aside_15 : decode cX6_aside 15 = .ok (.sipush (-1000), 3) := by decide +kernel
theorem dX6_aside_18 : decode cX6_aside 18 = .ok (.istore_n 3, 1) := by decide +kernel
theorem dX6_aside_19 : decode cX6_aside 19 = .ok (.iconst 0, 1) := by decide +kernel
theorem dX6_aside_20 : decode cX6_aside 20 = .ok (.istore 4, 2) := by decide +kernel
theorem dX6_aside_22 : decode cX6_aside 22 = .ok (.iconst 1, 1) := by decide +kernel
theorem dX6_aside_23 : decode cX6_aside 23 = .ok (.istore 5, 2) := by decide +kernel
theorem dX6_aside_25 : decode cX6_aside 25 = .ok (.iload 5, 2) := by decide +kernel
theorem dX6_aside_27 : decode cX6_aside 27 = .ok (.ifCond .eq 180, 3) := by decide +kernel
theorem dX6_aside_30 : decode cX6_aside 30 = .ok (.sipush (-1000), 3) := by decide +kernel
theorem dX6_aside_33 : decode cX6_aside 33 = .ok (.istore 6, 2) := by decide +kernel
theorem dX6_aside_35 : decode cX6_aside 35 = .ok (.iconst 0, 1) := by decide +kernel
theorem dX6_aside_36 : decode cX6_aside 36 = .ok (.istore 7, 2) := by decide +kernel
theorem dX6_aside_38 : decode cX6_aside 38 = .ok (.iload 7, 2) := by decide +kernel
theorem dX6_aside_40 : decode cX6_aside 40 = .ok (.aload_n 0, 1) := by decide +kernel
theorem dX6_aside_41 : decode cX6_aside 41 = .ok (.getfield 76, 3) := by decide +kernel
theorem dX6_aside_44 : decode cX6_aside 44 = .ok (.if_icmp .ge 95, 3) := by decide +kernel
theorem dX6_aside_47 : decode cX6_aside 47 = .ok (.aload_n 0, 1) := by decide +kernel
theorem dX6_aside_48 : decode cX6_aside 48 = .ok (.iload 7, 2) := by decide +kernel
theorem dX6_aside_50 : decode cX6_aside 50 = .ok (.aload_n 0, 1) := by decide +kernel
theorem dX6_aside_51 : decode cX6_aside 51 = .ok (.getfield 28, 3) := by decide +kernel
theorem dX6_aside_54 : decode cX6_aside 54 = .ok (.iload_n 1, 1) := by decide +kernel
theorem dX6_aside_55 : decode cX6_aside 55 = .ok (.iaload, 1) := by decide +kernel
theorem dX6_aside_56 : decode cX6_aside 56 = .ok (.aload_n 0, 1) := by decide +kernel
theorem dX6_aside_57 : decode cX6_aside 57 = .ok (.getfield 34, 3) := by decide +kernel
theorem dX6_aside_60 : decode cX6_aside 60 = .ok (.iload_n 1, 1) := by decide +kernel
theorem dX6_aside_61 : decode cX6_aside 61 = .ok (.iaload, 1) := by decide +kernel
theorem dX6_aside_62 : decode cX6_aside 62 = .ok (.aload_n 0, 1) := by decide +kernel
theorem dX6_aside_63 : decode cX6_aside 63 = .ok (.getfield 31, 3) := by decide +kernel
theorem dX6_aside_66 : decode cX6_aside 66 = .ok (.iload_n 1, 1) := by decide +kernel
theorem dX6_aside_67 : decode cX6_aside 67 = .ok (.iaload, 1) := by decide +kernel
theorem dX6_aside_68 : decode cX6_aside 68 = .ok (.invokevirtual 96, 3) := by decide +kernel
theorem dX6_aside_71 : decode cX6_aside 71 = .ok (.ifCond .eq 25, 3) := by decide +kernel
theorem dX6_aside_74 : decode cX6_aside 74 = .ok (.iload_n 3, 1) := by decide +kernel
theorem dX6_aside_75 : decode cX6_aside 75 = .ok (.sipush (-1000), 3) := by decide +kernel
theorem dX6_aside_78 : decode cX6_aside 78 = .ok (.if_icmp .eq 14, 3) := by decide +kernel
theorem dX6_aside_81 : decode cX6_aside 81 = .ok (.aload_n 0, 1) := by decide +kernel
theorem dX6_aside_82 : decode cX6_aside 82 = .ok (.iload_n 3, 1) := by decide +kernel
theorem dX6_aside_83 : decode cX6_aside 83 = .ok (.iload 7, 2) := by decide +kernel
theorem dX6_aside_85 : decode cX6_aside 85 = .ok (.iload_n 2, 1) := by decide +kernel
theorem dX6_aside_86 : decode cX6_aside 86 = .ok (.invokevirtual 117, 3) := by decide +kernel
theorem dX6_aside_89 : decode cX6_aside 89 = .ok (.ifCond .eq 7, 3) := by decide +kernel
theorem dX6_aside_92 : decode cX6_aside 92 = .ok (.iconst 1, 1) := by decide +kernel
theorem dX6_aside_93 : decode cX6_aside 93 = .ok (.goto 4, 3) := by decide +kernel
theorem dX6_aside_96 : decode cX6_aside 96 = .ok (.iconst 0, 1) := by decide +kernel
theorem dX6_aside_97 : decode cX6_aside 97 = .ok (.istore 8, 2) := by decide +kernel
theorem dX6_aside_99 : decode cX6_aside 99 = .ok (.iload 8, 2) := by decide +kernel
theorem dX6_aside_101 : decode cX6_aside 101 = .ok (.ifCond .eq 28, 3) := by decide +kernel
theorem dX6_aside_104 : decode cX6_aside 104 = .ok (.iload 6, 2) := by decide +kernel
theorem dX6_aside_106 : decode cX6_aside 106 = .ok (.sipush (-1000), 3) := by decide +kernel
theorem dX6_aside_109 : decode cX6_aside 109 = .ok (.if_icmp .eq 15, 3) := by decide +kernel
theorem dX6_aside_112 : decode cX6_aside 112 = .ok (.aload_n 0, 1) := by decide +kernel
theorem dX6_aside_113 : decode cX6_aside 113 = .ok (.iload 7, 2) := by decide +kernel
theorem dX6_aside_115 : decode cX6_aside 115 = .ok (.iload 6, 2) := by decide +kernel
theorem dX6_aside_117 : decode cX6_aside 117 = .ok (.iload_n 2, 1) := by decide +kernel
theorem dX6_aside_118 : decode cX6_aside 118 = .ok (.invokevirtual 117, 3) := by decide +kernel
theorem dX6_aside_121 : decode cX6_aside 121 = .ok (.ifCond .eq 8, 3) := by decide +kernel
theorem dX6_aside_124 : decode cX6_aside 124 = .ok (.iload 7, 2) := by decide +kernel
theorem dX6_aside_126 : decode cX6_aside 126 = .ok (.goto 5, 3) := by decide +kernel
theorem dX6_aside_129 : decode cX6_aside 129 = .ok (.iload 6, 2) := by decide +kernel
theorem dX6_aside_131 : decode cX6_aside 131 = .ok (.istore 6, 2) := by decide +kernel
theorem dX6_aside_133 : decode cX6_aside 133 = .ok (.iinc 7 1, 3) := by decide +kernel
theorem dX6_aside_136 : decode cX6_aside 136 = .ok (.goto (-98), 3) := by decide +kernel
theorem dX6_aside_139 : decode cX6_aside 139 = .ok (.iload_n 3, 1) := by decide +kernel
theorem dX6_aside_140 : decode cX6_aside 140 = .ok (.sipush (-1000), 3) := by decide +kernel
theorem dX6_aside_143 : decode cX6_aside 143 = .ok (.if_icmp .ne 8, 3) := by decide +kernel
theorem dX6_aside_146 : decode cX6_aside 146 = .ok (.bipush 100, 2) := by decide +kernel
theorem dX6_aside_148 : decode cX6_aside 148 = .ok (.goto 15, 3) := by decide +kernel
theorem dX6_aside_151 : decode cX6_aside 151 = .ok (.aload_n 0, 1) := by decide +kernel
theorem dX6_aside_152 : decode cX6_aside 152 = .ok (.iload 6, 2) := by decide +kernel
theorem dX6_aside_154 : decode cX6_aside 154 = .ok (.invokevirtual 100, 3) := by decide +kernel
theorem dX6_aside_157 : decode cX6_aside 157 = .ok (.aload_n 0, 1) := by decide +kernel
theorem dX6_aside_158 : decode cX6_aside 158 = .ok (.iload_n 3, 1) := by decide +kernel
theorem dX6_aside_159 : decode cX6_aside 159 = .ok (.invokevirtual 100, 3) := by decide +kernel
theorem dX6_aside_162 : decode cX6_aside 162 = .ok (.isub, 1) := by decide +kernel
theorem dX6_aside_163 : decode cX6_aside 163 = .ok (.istore 7, 2) := by decide +kernel
theorem dX6_aside_165 : decode cX6_aside 165 = .ok (.iload 7, 2) := by decide +kernel
theorem dX6_aside_167 : decode cX6_aside 167 = .ok (.iconst (-1), 1) := by decide +kernel
theorem dX6_aside_168 : decode cX6_aside 168 = .ok (.if_icmp .lt 18, 3) := by decide +kernel
theorem dX6_aside_171 : decode cX6_aside 171 = .ok (.iload 7, 2) := by decide +kernel
theorem dX6_aside_173 : decode cX6_aside 173 = .ok (.iconst 1, 1) := by decide +kernel
theorem dX6_aside_174 : decode cX6_aside 174 = .ok (.if_icmp .gt 12, 3) := by decide +kernel
theorem dX6_aside_177 : decode cX6_aside 177 = .ok (.iload 4, 2) := by decide +kernel
theorem dX6_aside_179 : decode cX6_aside 179 = .ok (.ifCond .ne 7, 3) := by decide +kernel
theorem dX6_aside_182 : decode cX6_aside 182 = .ok (.iconst 1, 1) := by decide +kernel
theorem dX6_aside_183 : decode cX6_aside 183 = .ok (.goto 4, 3) := by decide +kernel
theorem dX6_aside_186 : decode cX6_aside 186 = .ok (.iconst 0, 1) := by decide +kernel
theorem dX6_aside_187 : decode cX6_aside 187 = .ok (.istore 4, 2) := by decide +kernel
theorem dX6_aside_189 : decode cX6_aside 189 = .ok (.iload 6, 2) := by decide +kernel
theorem dX6_aside_191 : decode cX6_aside 191 = .ok (.istore_n 3, 1) := by decide +kernel
theorem dX6_aside_192 : decode cX6_aside 192 = .ok (.iload_n 3, 1) := by decide +kernel
theorem dX6_aside_193 : decode cX6_aside 193 = .ok (.iload_n 1, 1) := by decide +kernel
theorem dX6_aside_194 : decode cX6_aside 194 = .ok (.if_icmp .eq 7, 3) := by decide +kernel
theorem dX6_aside_197 : decode cX6_aside 197 = .ok (.iconst 1, 1) := by decide +kernel
theorem dX6_aside_198 : decode cX6_aside 198 = .ok (.goto 4, 3) := by decide +kernel
theorem dX6_aside_201 : decode cX6_aside 201 = .ok (.iconst 0, 1) := by decide +kernel
theorem dX6_aside_202 : decode cX6_aside 202 = .ok (.istore 5, 2) := by decide +kernel
theorem dX6_aside_204 : decode cX6_aside 204 = .ok (.goto (-179), 3) := by decide +kernel
theorem dX6_aside_207 : decode cX6_aside 207 = .ok (.iload 4, 2) := by decide +kernel
theorem dX6_aside_209 : decode cX6_aside 209 = .ok (.ifCond .eq 15, 3) := by decide +kernel
theorem dX6_aside_212 : decode cX6_aside 212 = .ok (.iload_n 2, 1) := by decide +kernel
theorem dX6_aside_213 : decode cX6_aside 213 = .ok (.ifCond .eq 7, 3) := by decide +kernel
theorem dX6_aside_216 : decode cX6_aside 216 = .ok (.iconst 1, 1) := by decide +kernel
theorem dX6_aside_217 : decode cX6_aside 217 = .ok (.goto 8, 3) := by decide +kernel
theorem dX6_aside_220 : decode cX6_aside 220 = .ok (.iconst (-1), 1) := by decide +kernel
theorem dX6_aside_221 : decode cX6_aside 221 = .ok (.goto 4, 3) := by decide +kernel
theorem dX6_aside_224 : decode cX6_aside 224 = .ok (.iconst 0, 1) := by decide +kernel
theorem dX6_aside_225 : decode cX6_aside 225 = .ok (.ireturn, 1) := by decide +kernel
set_option maxRecDepth 20000 in
theorem ggX6_areShared_X6_isAt : GoodIn wsX6_areShared wsX6_isAt := goodIn_r _ [9, 1, 2, 37, 38, 39, 40, 41, 42, 43, 44, 45, 46, 47, 48, 49, 50, 51, 52, 53, 54, 55, 56, 57, 58, 59] (by decide +kernel) (by decide +kernel)
set_option maxRecDepth 20000 in
theorem gX6_areShared_X6_isAt : GoodIn wsX6_areShared (wsV RX6 93 RX6 yX6_isAt wsX6_isAt) := goodIn_app (goodIn_of _ (by decide +kernel)) ggX6_areShared_X6_isAt
set_option maxRecDepth 20000 in
theorem ggX6_areShared_X6_step : GoodIn wsX6_areShared wsX6_step := goodIn_r _ [13, 14, 37, 38, 39, 40, 41, 42, 43, 44, 45, 46, 47, 48, 49, 50, 51, 52, 53, 54, 55, 56, 57, 58, 59] (by decide +kernel) (by decide +kernel)
set_option maxRecDepth 20000 in
theorem gX6_areShared_X6_step : GoodIn wsX6_areShared (wsV RX6 100 RX6 yX6_step wsX6_step) := goodIn_app (goodIn_of _ (by decide +kernel)) ggX6_areShared_X6_step
set_option maxRecDepth 20000 in
theorem ggX6_areShared_X6_stemOf : GoodIn wsX6_areShared wsX6_stemOf := goodIn_r _ [18, 1, 2, 19, 20, 21, 22, 8, 23, 24, 25, 26, 27, 28, 29, 30, 31, 32, 5, 6, 7, 9, 33, 34, 35, 36, 10, 11, 12, 13, 14, 37, 38, 39, 40, 41, 42, 43, 44, 45, 46, 47, 48, 49, 50, 51, 52, 53, 54, 55, 56, 57, 58, 59] (by decide +kernel) (by decide +kernel)
set_option maxRecDepth 20000 in
theorem gX6_areShared_X6_stemOf : GoodIn wsX6_areShared (wsV RX6 114 RX6 yX6_stemOf wsX6_stemOf) := goodIn_app (goodIn_of _ (by decide +kernel)) ggX6_areShared_X6_stemOf
theorem dX6_areShared_0 : decode cX6_areShared 0 = .ok (.aload_n 0, 1) := by decide +kernel
theorem dX6_areShared_1 : decode cX6_areShared 1 = .ok (.iload_n 2, 1) := by decide +kernel
theorem dX6_areShared_2 : decode cX6_areShared 2 = .ok (.aload_n 0, 1) := by decide +kernel
theorem dX6_areShared_3 : decode cX6_areShared 3 = .ok (.getfield 28, 3) := by decide +kernel
theorem dX6_areShared_6 : decode cX6_areShared 6 = .ok (.iload_n 1, 1) := by decide +kernel
theorem dX6_areShared_7 : decode cX6_areShared 7 = .ok (.iaload, 1) := by decide +kernel
theorem dX6_areShared_8 : decode cX6_areShared 8 = .ok (.aload_n 0, 1) := by decide +kernel
theorem dX6_areShared_9 : decode cX6_areShared 9 = .ok (.getfield 34, 3) := by decide +kernel
theorem dX6_areShared_12 : decode cX6_areShared 12 = .ok (.iload_n 1, 1) := by decide +kernel
theorem dX6_areShared_13 : decode cX6_areShared 13 = .ok (.iaload, 1) := by decide +kernel
theorem dX6_areShared_14 : decode cX6_areShared 14 = .ok (.invokevirtual 93, 3) := by decide +kernel
theorem dX6_areShared_17 : decode cX6_areShared 17 = .ok (.ifCond .eq 63, 3) := by decide +kernel
theorem dX6_areShared_20 : decode cX6_areShared 20 = .ok (.aload_n 0, 1) := by decide +kernel
theorem dX6_areShared_21 : decode cX6_areShared 21 = .ok (.iload_n 1, 1) := by decide +kernel
theorem dX6_areShared_22 : decode cX6_areShared 22 = .ok (.invokevirtual 100, 3) := by decide +kernel
theorem dX6_areShared_25 : decode cX6_areShared 25 = .ok (.aload_n 0, 1) := by decide +kernel
theorem dX6_areShared_26 : decode cX6_areShared 26 = .ok (.iload_n 2, 1) := by decide +kernel
theorem dX6_areShared_27 : decode cX6_areShared 27 = .ok (.invokevirtual 100, 3) := by decide +kernel
theorem dX6_areShared_30 : decode cX6_areShared 30 = .ok (.if_icmp .ne 50, 3) := by decide +kernel
theorem dX6_areShared_33 : decode cX6_areShared 33 = .ok (.aload_n 0, 1) := by decide +kernel
theorem dX6_areShared_34 : decode cX6_areShared 34 = .ok (.getfield 43, 3) := by decide +kernel
theorem dX6_areShared_37 : decode cX6_areShared 37 = .ok (.iload_n 1, 1) := by decide +kernel
theorem dX6_areShared_38 : decode cX6_areShared 38 = .ok (.iaload, 1) := by decide +kernel
theorem dX6_areShared_39 : decode cX6_areShared 39 = .ok (.aload_n 0, 1) := by decide +kernel
theorem dX6_areShared_40 : decode cX6_areShared 40 = .ok (.getfield 43, 3) := by decide +kernel
theorem dX6_areShared_43 : decode cX6_areShared 43 = .ok (.iload_n 2, 1) := by decide +kernel
theorem dX6_areShared_44 : decode cX6_areShared 44 = .ok (.iaload, 1) := by decide +kernel
theorem dX6_areShared_45 : decode cX6_areShared 45 = .ok (.if_icmp .ne 35, 3) := by decide +kernel
theorem dX6_areShared_48 : decode cX6_areShared 48 = .ok (.aload_n 0, 1) := by decide +kernel
theorem dX6_areShared_49 : decode cX6_areShared 49 = .ok (.getfield 40, 3) := by decide +kernel
theorem dX6_areShared_52 : decode cX6_areShared 52 = .ok (.iload_n 1, 1) := by decide +kernel
theorem dX6_areShared_53 : decode cX6_areShared 53 = .ok (.iaload, 1) := by decide +kernel
theorem dX6_areShared_54 : decode cX6_areShared 54 = .ok (.aload_n 0, 1) := by decide +kernel
theorem dX6_areShared_55 : decode cX6_areShared 55 = .ok (.getfield 40, 3) := by decide +kernel
theorem dX6_areShared_58 : decode cX6_areShared 58 = .ok (.iload_n 2, 1) := by decide +kernel
theorem dX6_areShared_59 : decode cX6_areShared 59 = .ok (.iaload, 1) := by decide +kernel
theorem dX6_areShared_60 : decode cX6_areShared 60 = .ok (.if_icmp .ne 20, 3) := by decide +kernel
theorem dX6_areShared_63 : decode cX6_areShared 63 = .ok (.aload_n 0, 1) := by decide +kernel
theorem dX6_areShared_64 : decode cX6_areShared 64 = .ok (.iload_n 1, 1) := by decide +kernel
theorem dX6_areShared_65 : decode cX6_areShared 65 = .ok (.invokevirtual 114, 3) := by decide +kernel
theorem dX6_areShared_68 : decode cX6_areShared 68 = .ok (.aload_n 0, 1) := by decide +kernel
theorem dX6_areShared_69 : decode cX6_areShared 69 = .ok (.iload_n 2, 1) := by decide +kernel
theorem dX6_areShared_70 : decode cX6_areShared 70 = .ok (.invokevirtual 114, 3) := by decide +kernel
theorem dX6_areShared_73 : decode cX6_areShared 73 = .ok (.if_icmp .eq 7, 3) := by decide +kernel
theorem dX6_areShared_76 : decode cX6_areShared 76 = .ok (.iconst 1, 1) := by decide +kernel
theorem dX6_areShared_77 : decode cX6_areShared 77 = .ok (.goto 4, 3) := by decide +kernel
theorem dX6_areShared_80 : decode cX6_areShared 80 = .ok (.iconst 0, 1) := by decide +kernel
theorem dX6_areShared_81 : decode cX6_areShared 81 = .ok (.ireturn, 1) := by decide +kernel
set_option maxRecDepth 20000 in
theorem ggX6_move_X6_isIn : GoodIn wsX6_move wsX6_isIn := goodIn_r _ [8, 9, 10, 11, 12, 7, 13, 14, 15, 55, 56, 57, 58, 59, 60, 61, 62, 63, 64, 65, 66, 67, 68, 69, 70, 71, 72, 73, 74, 75, 76, 77] (by decide +kernel) (by decide +kernel)
set_option maxRecDepth 20000 in
theorem gX6_move_X6_isIn : GoodIn wsX6_move (wsV RX6 96 RX6 yX6_isIn wsX6_isIn) := goodIn_app (goodIn_of _ (by decide +kernel)) ggX6_move_X6_isIn
set_option maxRecDepth 20000 in
theorem ggX6_move_X6_aside : GoodIn wsX6_move wsX6_aside := goodIn_r _ [19, 2, 14, 15, 9, 20, 21, 22, 7, 23, 24, 25, 26, 27, 28, 29, 30, 31, 4, 5, 6, 8, 10, 11, 12, 13, 32, 33, 34, 35, 36, 37, 38, 39, 40, 41, 42, 43, 44, 55, 56, 57, 58, 59, 60, 61, 62, 63, 64, 65, 66, 67, 68, 69, 70, 71, 72, 73, 74, 75, 76, 77] (by decide +kernel) (by decide +kernel)
set_option maxRecDepth 20000 in
theorem gX6_move_X6_aside : GoodIn wsX6_move (wsV RX6 121 RX6 yX6_aside wsX6_aside) := goodIn_app (goodIn_of _ (by decide +kernel)) ggX6_move_X6_aside
set_option maxRecDepth 20000 in
theorem ggX6_move_X6_liesOver : GoodIn wsX6_move wsX6_liesOver := goodIn_r _ [48, 2, 9, 3, 40, 4, 5, 6, 7, 8, 10, 11, 12, 13, 14, 15, 49, 50, 51, 52, 53, 54, 36, 37, 38, 39, 20, 21, 22, 23, 24, 25, 26, 27, 28, 29, 30, 31, 32, 33, 34, 35, 55, 56, 57, 58, 59, 60, 61, 62, 63, 64, 65, 66, 67, 68, 69, 70, 71, 72, 73, 74, 75, 76, 77] (by decide +kernel) (by decide +kernel)
set_option maxRecDepth 20000 in
theorem gX6_move_X6_liesOver : GoodIn wsX6_move (wsV RX6 124 RX6 yX6_liesOver wsX6_liesOver) := goodIn_app (goodIn_of _ (by decide +kernel)) ggX6_move_X6_liesOver
theorem dX6_move_0 : decode cX6_move 0 = .ok (.iconst 0, 1) := by decide +kernel
theorem dX6_move_1 : decode cX6_move 1 = .ok (.istore_n 3, 1) := by decide +kernel
theorem dX6_move_2 : decode cX6_move 2 = .ok (.iload_n 3, 1) := by decide +kernel
theorem dX6_move_3 : decode cX6_move 3 = .ok (.iconst 3, 1) := by decide +kernel
theorem dX6_move_4 : decode cX6_move 4 = .ok (.if_icmp .ge 147, 3) := by decide +kernel
theorem dX6_move_7 : decode cX6_move 7 = .ok (.aload_n 0, 1) := by decide +kernel
theorem dX6_move_8 : decode cX6_move 8 = .ok (.getfield 56, 3) := by decide +kernel
theorem dX6_move_11 : decode cX6_move 11 = .ok (.iload_n 3, 1) := by decide +kernel
theorem dX6_move_12 : decode cX6_move 12 = .ok (.iconst 0, 1) := by decide +kernel
theorem dX6_move_13 : decode cX6_move 13 = .ok (.iastore, 1) := by decide +kernel
theorem dX6_move_14 : decode cX6_move 14 = .ok (.iconst 0, 1) := by decide +kernel
theorem dX6_move_15 : decode cX6_move 15 = .ok (.istore 4, 2) := by decide +kernel
theorem dX6_move_17 : decode cX6_move 17 = .ok (.iconst 0, 1) := by decide +kernel
theorem dX6_move_18 : decode cX6_move 18 = .ok (.istore 5, 2) := by decide +kernel
theorem dX6_move_20 : decode cX6_move 20 = .ok (.iload 5, 2) := by decide +kernel
theorem dX6_move_22 : decode cX6_move 22 = .ok (.aload_n 0, 1) := by decide +kernel
theorem dX6_move_23 : decode cX6_move 23 = .ok (.getfield 76, 3) := by decide +kernel
theorem dX6_move_26 : decode cX6_move 26 = .ok (.if_icmp .ge 34, 3) := by decide +kernel
theorem dX6_move_29 : decode cX6_move 29 = .ok (.aload_n 0, 1) := by decide +kernel
theorem dX6_move_30 : decode cX6_move 30 = .ok (.iload 5, 2) := by decide +kernel
theorem dX6_move_32 : decode cX6_move 32 = .ok (.iload_n 1, 1) := by decide +kernel
theorem dX6_move_33 : decode cX6_move 33 = .ok (.iload_n 2, 1) := by decide +kernel
theorem dX6_move_34 : decode cX6_move 34 = .ok (.iload_n 3, 1) := by decide +kernel
theorem dX6_move_35 : decode cX6_move 35 = .ok (.invokevirtual 96, 3) := by decide +kernel
theorem dX6_move_38 : decode cX6_move 38 = .ok (.ifCond .eq 16, 3) := by decide +kernel
theorem dX6_move_41 : decode cX6_move 41 = .ok (.aload_n 0, 1) := by decide +kernel
theorem dX6_move_42 : decode cX6_move 42 = .ok (.getfield 59, 3) := by decide +kernel
theorem dX6_move_45 : decode cX6_move 45 = .ok (.iload 5, 2) := by decide +kernel
theorem dX6_move_47 : decode cX6_move 47 = .ok (.aload_n 0, 1) := by decide +kernel
theorem dX6_move_48 : decode cX6_move 48 = .ok (.iload 5, 2) := by decide +kernel
theorem dX6_move_50 : decode cX6_move 50 = .ok (.invokevirtual 121, 3) := by decide +kernel
theorem dX6_move_53 : decode cX6_move 53 = .ok (.iastore, 1) := by decide +kernel
theorem dX6_move_54 : decode cX6_move 54 = .ok (.iinc 5 1, 3) := by decide +kernel
theorem dX6_move_57 : decode cX6_move 57 = .ok (.goto (-37), 3) := by decide +kernel
theorem dX6_move_60 : decode cX6_move 60 = .ok (.iload 4, 2) := by decide +kernel
theorem dX6_move_62 : decode cX6_move 62 = .ok (.ifCond .ne 83, 3) := by decide +kernel
theorem dX6_move_65 : decode cX6_move 65 = .ok (.aload_n 0, 1) := by decide +kernel
theorem dX6_move_66 : decode cX6_move 66 = .ok (.iload_n 1, 1) := by decide +kernel
theorem dX6_move_67 : decode cX6_move 67 = .ok (.iload_n 2, 1) := by decide +kernel
theorem dX6_move_68 : decode cX6_move 68 = .ok (.iload_n 3, 1) := by decide +kernel
theorem dX6_move_69 : decode cX6_move 69 = .ok (.invokevirtual 124, 3) := by decide +kernel
theorem dX6_move_72 : decode cX6_move 72 = .ok (.ifCond .ne 7, 3) := by decide +kernel
theorem dX6_move_75 : decode cX6_move 75 = .ok (.iconst 1, 1) := by decide +kernel
theorem dX6_move_76 : decode cX6_move 76 = .ok (.goto 4, 3) := by decide +kernel
theorem dX6_move_79 : decode cX6_move 79 = .ok (.iconst 0, 1) := by decide +kernel
theorem dX6_move_80 : decode cX6_move 80 = .ok (.istore 4, 2) := by decide +kernel
theorem dX6_move_82 : decode cX6_move 82 = .ok (.iload 4, 2) := by decide +kernel
theorem dX6_move_84 : decode cX6_move 84 = .ok (.ifCond .ne (-24), 3) := by decide +kernel
theorem dX6_move_87 : decode cX6_move 87 = .ok (.aload_n 0, 1) := by decide +kernel
theorem dX6_move_88 : decode cX6_move 88 = .ok (.getfield 56, 3) := by decide +kernel
theorem dX6_move_91 : decode cX6_move 91 = .ok (.iload_n 3, 1) := by decide +kernel
theorem dX6_move_92 : decode cX6_move 92 = .ok (.dup2, 1) := by decide +kernel
theorem dX6_move_93 : decode cX6_move 93 = .ok (.iaload, 1) := by decide +kernel
theorem dX6_move_94 : decode cX6_move 94 = .ok (.iconst 1, 1) := by decide +kernel
theorem dX6_move_95 : decode cX6_move 95 = .ok (.iadd, 1) := by decide +kernel
theorem dX6_move_96 : decode cX6_move 96 = .ok (.iastore, 1) := by decide +kernel
theorem dX6_move_97 : decode cX6_move 97 = .ok (.iconst 0, 1) := by decide +kernel
theorem dX6_move_98 : decode cX6_move 98 = .ok (.istore 5, 2) := by decide +kernel
theorem dX6_move_100 : decode cX6_move 100 = .ok (.iload 5, 2) := by decide +kernel
theorem dX6_move_102 : decode cX6_move 102 = .ok (.aload_n 0, 1) := by decide +kernel
theorem dX6_move_103 : decode cX6_move 103 = .ok (.getfield 76, 3) := by decide +kernel
theorem dX6_move_106 : decode cX6_move 106 = .ok (.if_icmp .ge 36, 3) := by decide +kernel
theorem dX6_move_109 : decode cX6_move 109 = .ok (.aload_n 0, 1) := by decide +kernel
theorem dX6_move_110 : decode cX6_move 110 = .ok (.getfield 59, 3) := by decide +kernel
theorem dX6_move_113 : decode cX6_move 113 = .ok (.iload 5, 2) := by decide +kernel
theorem dX6_move_115 : decode cX6_move 115 = .ok (.dup2, 1) := by decide +kernel
theorem dX6_move_116 : decode cX6_move 116 = .ok (.iaload, 1) := by decide +kernel
theorem dX6_move_117 : decode cX6_move 117 = .ok (.aload_n 0, 1) := by decide +kernel
theorem dX6_move_118 : decode cX6_move 118 = .ok (.iload 5, 2) := by decide +kernel
theorem dX6_move_120 : decode cX6_move 120 = .ok (.iload_n 1, 1) := by decide +kernel
theorem dX6_move_121 : decode cX6_move 121 = .ok (.iload_n 2, 1) := by decide +kernel
theorem dX6_move_122 : decode cX6_move 122 = .ok (.iload_n 3, 1) := by decide +kernel
theorem dX6_move_123 : decode cX6_move 123 = .ok (.invokevirtual 96, 3) := by decide +kernel
theorem dX6_move_126 : decode cX6_move 126 = .ok (.ifCond .eq 7, 3) := by decide +kernel
theorem dX6_move_129 : decode cX6_move 129 = .ok (.iconst 1, 1) := by decide +kernel
theorem dX6_move_130 : decode cX6_move 130 = .ok (.goto 4, 3) := by decide +kernel
theorem dX6_move_133 : decode cX6_move 133 = .ok (.iconst 0, 1) := by decide +kernel
theorem dX6_move_134 : decode cX6_move 134 = .ok (.iadd, 1) := by decide +kernel
theorem dX6_move_135 : decode cX6_move 135 = .ok (.iastore, 1) := by decide +kernel
theorem dX6_move_136 : decode cX6_move 136 = .ok (.iinc 5 1, 3) := by decide +kernel
theorem dX6_move_139 : decode cX6_move 139 = .ok (.goto (-39), 3) := by decide +kernel
theorem dX6_move_142 : decode cX6_move 142 = .ok (.goto (-82), 3) := by decide +kernel
theorem dX6_move_145 : decode cX6_move 145 = .ok (.iinc 3 1, 3) := by decide +kernel
theorem dX6_move_148 : decode cX6_move 148 = .ok (.goto (-146), 3) := by decide +kernel
theorem dX6_move_151 : decode cX6_move 151 = .ok (.return_, 1) := by decide +kernel
set_option maxRecDepth 20000 in
theorem ggX6_liesOver_X6_isIn : GoodIn wsX6_liesOver wsX6_isIn := goodIn_r _ [9, 2, 10, 11, 12, 8, 13, 14, 15, 42, 43, 44, 45, 46, 47, 48, 49, 50, 51, 52, 53, 54, 55, 56, 57, 58, 59, 60, 61, 62, 63, 64] (by decide +kernel) (by decide +kernel)
set_option maxRecDepth 20000 in
theorem gX6_liesOver_X6_isIn : GoodIn wsX6_liesOver (wsV RX6 96 RX6 yX6_isIn wsX6_isIn) := goodIn_app (goodIn_of _ (by decide +kernel)) ggX6_liesOver_X6_isIn
set_option maxRecDepth 20000 in
theorem ggX6_liesOver_X6_isAt : GoodIn wsX6_liesOver wsX6_isAt := goodIn_r _ [13, 14, 15, 42, 43, 44, 45, 46, 47, 48, 49, 50, 51, 52, 53, 54, 55, 56, 57, 58, 59, 60, 61, 62, 63, 64] (by decide +kernel) (by decide +kernel)
set_option maxRecDepth 20000 in
theorem gX6_liesOver_X6_isAt : GoodIn wsX6_liesOver (wsV RX6 93 RX6 yX6_isAt wsX6_isAt) := goodIn_app (goodIn_of _ (by decide +kernel)) ggX6_liesOver_X6_isAt
set_option maxRecDepth 20000 in
theorem ggX6_liesOver_X6_areShared : GoodIn wsX6_liesOver wsX6_areShared := goodIn_r _ [19, 14, 15, 20, 21, 10, 11, 12, 8, 13, 22, 23, 24, 25, 4, 26, 27, 28, 29, 2, 30, 31, 32, 33, 34, 35, 36, 37, 1, 5, 6, 7, 9, 38, 39, 40, 41, 42, 43, 44, 45, 46, 47, 48, 49, 50, 51, 52, 53, 54, 55, 56, 57, 58, 59, 60, 61, 62, 63, 64] (by decide +kernel) (by decide +kernel)
set_option maxRecDepth 20000 in
theorem gX6_liesOver_X6_areShared : GoodIn wsX6_liesOver (wsV RX6 127 RX6 yX6_areShared wsX6_areShared) := goodIn_app (goodIn_of _ (by decide +kernel)) ggX6_liesOver_X6_areShared
theorem dX6_liesOver_0 : decode cX6_liesOver 0 = .ok (.iconst 0, 1) := by decide +kernel
theorem dX6_liesOver_1 : decode cX6_liesOver 1 = .ok (.istore 4, 2) := by decide +kernel
theorem dX6_liesOver_3 : decode cX6_liesOver 3 = .ok (.iload 4, 2) := by decide +kernel
theorem dX6_liesOver_5 : decode cX6_liesOver 5 = .ok (.aload_n 0, 1) := by decide +kernel
theorem dX6_liesOver_6 : decode cX6_liesOver 6 = .ok (.getfield 76, 3) := by decide +kernel
theorem dX6_liesOver_9 : decode cX6_liesOver 9 = .ok (.if_icmp .ge 120, 3) := by decide +kernel
theorem dX6_liesOver_12 : decode cX6_liesOver 12 = .ok (.iconst 0, 1) := by decide +kernel
theorem dX6_liesOver_13 : decode cX6_liesOver 13 = .ok (.istore 5, 2) := by decide +kernel
theorem dX6_liesOver_15 : decode cX6_liesOver 15 = .ok (.iload 5, 2) := by decide +kernel
theorem dX6_liesOver_17 : decode cX6_liesOver 17 = .ok (.aload_n 0, 1) := by decide +kernel
theorem dX6_liesOver_18 : decode cX6_liesOver 18 = .ok (.getfield 76, 3) := by decide +kernel
theorem dX6_liesOver_21 : decode cX6_liesOver 21 = .ok (.if_icmp .ge 102, 3) := by decide +kernel
theorem dX6_liesOver_24 : decode cX6_liesOver 24 = .ok (.aload_n 0, 1) := by decide +kernel
theorem dX6_liesOver_25 : decode cX6_liesOver 25 = .ok (.iload 4, 2) := by decide +kernel
theorem dX6_liesOver_27 : decode cX6_liesOver 27 = .ok (.iload_n 1, 1) := by decide +kernel
theorem dX6_liesOver_28 : decode cX6_liesOver 28 = .ok (.iload_n 2, 1) := by decide +kernel
theorem dX6_liesOver_29 : decode cX6_liesOver 29 = .ok (.iload_n 3, 1) := by decide +kernel
theorem dX6_liesOver_30 : decode cX6_liesOver 30 = .ok (.invokevirtual 96, 3) := by decide +kernel
theorem dX6_liesOver_33 : decode cX6_liesOver 33 = .ok (.ifCond .eq 84, 3) := by decide +kernel
theorem dX6_liesOver_36 : decode cX6_liesOver 36 = .ok (.aload_n 0, 1) := by decide +kernel
theorem dX6_liesOver_37 : decode cX6_liesOver 37 = .ok (.iload 5, 2) := by decide +kernel
theorem dX6_liesOver_39 : decode cX6_liesOver 39 = .ok (.iload_n 1, 1) := by decide +kernel
theorem dX6_liesOver_40 : decode cX6_liesOver 40 = .ok (.iload_n 2, 1) := by decide +kernel
theorem dX6_liesOver_41 : decode cX6_liesOver 41 = .ok (.invokevirtual 93, 3) := by decide +kernel
theorem dX6_liesOver_44 : decode cX6_liesOver 44 = .ok (.ifCond .eq 73, 3) := by decide +kernel
theorem dX6_liesOver_47 : decode cX6_liesOver 47 = .ok (.aload_n 0, 1) := by decide +kernel
theorem dX6_liesOver_48 : decode cX6_liesOver 48 = .ok (.getfield 31, 3) := by decide +kernel
theorem dX6_liesOver_51 : decode cX6_liesOver 51 = .ok (.iload 5, 2) := by decide +kernel
theorem dX6_liesOver_53 : decode cX6_liesOver 53 = .ok (.iaload, 1) := by decide +kernel
theorem dX6_liesOver_54 : decode cX6_liesOver 54 = .ok (.iload_n 3, 1) := by decide +kernel
theorem dX6_liesOver_55 : decode cX6_liesOver 55 = .ok (.if_icmp .ge 62, 3) := by decide +kernel
theorem dX6_liesOver_58 : decode cX6_liesOver 58 = .ok (.aload_n 0, 1) := by decide +kernel
theorem dX6_liesOver_59 : decode cX6_liesOver 59 = .ok (.getfield 59, 3) := by decide +kernel
theorem dX6_liesOver_62 : decode cX6_liesOver 62 = .ok (.iload 4, 2) := by decide +kernel
theorem dX6_liesOver_64 : decode cX6_liesOver 64 = .ok (.iaload, 1) := by decide +kernel
theorem dX6_liesOver_65 : decode cX6_liesOver 65 = .ok (.aload_n 0, 1) := by decide +kernel
theorem dX6_liesOver_66 : decode cX6_liesOver 66 = .ok (.getfield 59, 3) := by decide +kernel
theorem dX6_liesOver_69 : decode cX6_liesOver 69 = .ok (.iload 5, 2) := by decide +kernel
theorem dX6_liesOver_71 : decode cX6_liesOver 71 = .ok (.iaload, 1) := by decide +kernel
theorem dX6_liesOver_72 : decode cX6_liesOver 72 = .ok (.if_icmp .ne 45, 3) := by decide +kernel
theorem dX6_liesOver_75 : decode cX6_liesOver 75 = .ok (.aload_n 0, 1) := by decide +kernel
theorem dX6_liesOver_76 : decode cX6_liesOver 76 = .ok (.getfield 53, 3) := by decide +kernel
theorem dX6_liesOver_79 : decode cX6_liesOver 79 = .ok (.iload 4, 2) := by decide +kernel
theorem dX6_liesOver_81 : decode cX6_liesOver 81 = .ok (.iaload, 1) := by decide +kernel
theorem dX6_liesOver_82 : decode cX6_liesOver 82 = .ok (.aload_n 0, 1) := by decide +kernel
theorem dX6_liesOver_83 : decode cX6_liesOver 83 = .ok (.getfield 53, 3) := by decide +kernel
theorem dX6_liesOver_86 : decode cX6_liesOver 86 = .ok (.iload 5, 2) := by decide +kernel
theorem dX6_liesOver_88 : decode cX6_liesOver 88 = .ok (.iaload, 1) := by decide +kernel
theorem dX6_liesOver_89 : decode cX6_liesOver 89 = .ok (.isub, 1) := by decide +kernel
theorem dX6_liesOver_90 : decode cX6_liesOver 90 = .ok (.istore 6, 2) := by decide +kernel
theorem dX6_liesOver_92 : decode cX6_liesOver 92 = .ok (.iload 6, 2) := by decide +kernel
theorem dX6_liesOver_94 : decode cX6_liesOver 94 = .ok (.iconst (-1), 1) := by decide +kernel
theorem dX6_liesOver_95 : decode cX6_liesOver 95 = .ok (.if_icmp .lt 22, 3) := by decide +kernel
theorem dX6_liesOver_98 : decode cX6_liesOver 98 = .ok (.iload 6, 2) := by decide +kernel
theorem dX6_liesOver_100 : decode cX6_liesOver 100 = .ok (.iconst 1, 1) := by decide +kernel
theorem dX6_liesOver_101 : decode cX6_liesOver 101 = .ok (.if_icmp .gt 16, 3) := by decide +kernel
theorem dX6_liesOver_104 : decode cX6_liesOver 104 = .ok (.aload_n 0, 1) := by decide +kernel
theorem dX6_liesOver_105 : decode cX6_liesOver 105 = .ok (.iload 4, 2) := by decide +kernel
theorem dX6_liesOver_107 : decode cX6_liesOver 107 = .ok (.iload 5, 2) := by decide +kernel
theorem dX6_liesOver_109 : decode cX6_liesOver 109 = .ok (.invokevirtual 127, 3) := by decide +kernel
theorem dX6_liesOver_112 : decode cX6_liesOver 112 = .ok (.ifCond .ne 5, 3) := by decide +kernel
theorem dX6_liesOver_115 : decode cX6_liesOver 115 = .ok (.iconst 1, 1) := by decide +kernel
theorem dX6_liesOver_116 : decode cX6_liesOver 116 = .ok (.ireturn, 1) := by decide +kernel
theorem dX6_liesOver_117 : decode cX6_liesOver 117 = .ok (.iinc 5 1, 3) := by decide +kernel
theorem dX6_liesOver_120 : decode cX6_liesOver 120 = .ok (.goto (-105), 3) := by decide +kernel
theorem dX6_liesOver_123 : decode cX6_liesOver 123 = .ok (.iinc 4 1, 3) := by decide +kernel
theorem dX6_liesOver_126 : decode cX6_liesOver 126 = .ok (.goto (-123), 3) := by decide +kernel
theorem dX6_liesOver_129 : decode cX6_liesOver 129 = .ok (.iconst 0, 1) := by decide +kernel
theorem dX6_liesOver_130 : decode cX6_liesOver 130 = .ok (.ireturn, 1) := by decide +kernel
set_option maxRecDepth 20000 in
theorem ggX6_placeSigns_X6_isAt : GoodIn wsX6_placeSigns wsX6_isAt := goodIn_r _ [8, 9, 10, 20, 21, 22, 23, 24, 25, 26, 27, 28, 29, 30, 31, 32, 33, 34, 35, 36, 37, 38, 39, 40, 41, 42] (by decide +kernel) (by decide +kernel)
set_option maxRecDepth 20000 in
theorem gX6_placeSigns_X6_isAt : GoodIn wsX6_placeSigns (wsV RX6 93 RX6 yX6_isAt wsX6_isAt) := goodIn_app (goodIn_of _ (by decide +kernel)) ggX6_placeSigns_X6_isAt
set_option maxRecDepth 20000 in
theorem ggX6_placeSigns_X6_step : GoodIn wsX6_placeSigns wsX6_step := goodIn_r _ [14, 15, 20, 21, 22, 23, 24, 25, 26, 27, 28, 29, 30, 31, 32, 33, 34, 35, 36, 37, 38, 39, 40, 41, 42] (by decide +kernel) (by decide +kernel)
set_option maxRecDepth 20000 in
theorem gX6_placeSigns_X6_step : GoodIn wsX6_placeSigns (wsV RX6 100 RX6 yX6_step wsX6_step) := goodIn_app (goodIn_of _ (by decide +kernel)) ggX6_placeSigns_X6_step
set_option maxRecDepth 20000 in
theorem ggX6_placeSigns_X6_columnFor : GoodIn wsX6_placeSigns wsX6_columnFor := goodIn_r _ [19, 1, 2, 3, 4, 5, 6, 7, 8, 9, 10, 11, 12, 13, 14, 15, 20, 21, 22, 23, 24, 25, 26, 27, 28, 29, 30, 31, 32, 33, 34, 35, 36, 37, 38, 39, 40, 41, 42] (by decide +kernel) (by decide +kernel)
set_option maxRecDepth 20000 in
theorem gX6_placeSigns_X6_columnFor : GoodIn wsX6_placeSigns (wsV RX6 131 RX6 yX6_columnFor wsX6_columnFor) := goodIn_app (goodIn_of _ (by decide +kernel)) ggX6_placeSigns_X6_columnFor
theorem dX6_placeSigns_0 : decode cX6_placeSigns 0 = .ok (.iconst 0, 1) := by decide +kernel
theorem dX6_placeSigns_1 : decode cX6_placeSigns 1 = .ok (.istore_n 3, 1) := by decide +kernel
theorem dX6_placeSigns_2 : decode cX6_placeSigns 2 = .ok (.iconst 0, 1) := by decide +kernel
theorem dX6_placeSigns_3 : decode cX6_placeSigns 3 = .ok (.istore 4, 2) := by decide +kernel
theorem dX6_placeSigns_5 : decode cX6_placeSigns 5 = .ok (.iload 4, 2) := by decide +kernel
theorem dX6_placeSigns_7 : decode cX6_placeSigns 7 = .ok (.aload_n 0, 1) := by decide +kernel
theorem dX6_placeSigns_8 : decode cX6_placeSigns 8 = .ok (.getfield 76, 3) := by decide +kernel
theorem dX6_placeSigns_11 : decode cX6_placeSigns 11 = .ok (.if_icmp .ge 47, 3) := by decide +kernel
theorem dX6_placeSigns_14 : decode cX6_placeSigns 14 = .ok (.aload_n 0, 1) := by decide +kernel
theorem dX6_placeSigns_15 : decode cX6_placeSigns 15 = .ok (.getfield 62, 3) := by decide +kernel
theorem dX6_placeSigns_18 : decode cX6_placeSigns 18 = .ok (.iload 4, 2) := by decide +kernel
theorem dX6_placeSigns_20 : decode cX6_placeSigns 20 = .ok (.iconst 0, 1) := by decide +kernel
theorem dX6_placeSigns_21 : decode cX6_placeSigns 21 = .ok (.iastore, 1) := by decide +kernel
theorem dX6_placeSigns_22 : decode cX6_placeSigns 22 = .ok (.iload_n 3, 1) := by decide +kernel
theorem dX6_placeSigns_23 : decode cX6_placeSigns 23 = .ok (.aload_n 0, 1) := by decide +kernel
theorem dX6_placeSigns_24 : decode cX6_placeSigns 24 = .ok (.iload 4, 2) := by decide +kernel
theorem dX6_placeSigns_26 : decode cX6_placeSigns 26 = .ok (.iload_n 1, 1) := by decide +kernel
theorem dX6_placeSigns_27 : decode cX6_placeSigns 27 = .ok (.iload_n 2, 1) := by decide +kernel
theorem dX6_placeSigns_28 : decode cX6_placeSigns 28 = .ok (.invokevirtual 93, 3) := by decide +kernel
theorem dX6_placeSigns_31 : decode cX6_placeSigns 31 = .ok (.ifCond .eq 18, 3) := by decide +kernel
theorem dX6_placeSigns_34 : decode cX6_placeSigns 34 = .ok (.aload_n 0, 1) := by decide +kernel
theorem dX6_placeSigns_35 : decode cX6_placeSigns 35 = .ok (.getfield 40, 3) := by decide +kernel
theorem dX6_placeSigns_38 : decode cX6_placeSigns 38 = .ok (.iload 4, 2) := by decide +kernel
theorem dX6_placeSigns_40 : decode cX6_placeSigns 40 = .ok (.iaload, 1) := by decide +kernel
theorem dX6_placeSigns_41 : decode cX6_placeSigns 41 = .ok (.iconst 3, 1) := by decide +kernel
theorem dX6_placeSigns_42 : decode cX6_placeSigns 42 = .ok (.if_icmp .eq 7, 3) := by decide +kernel
theorem dX6_placeSigns_45 : decode cX6_placeSigns 45 = .ok (.iconst 1, 1) := by decide +kernel
theorem dX6_placeSigns_46 : decode cX6_placeSigns 46 = .ok (.goto 4, 3) := by decide +kernel
theorem dX6_placeSigns_49 : decode cX6_placeSigns 49 = .ok (.iconst 0, 1) := by decide +kernel
theorem dX6_placeSigns_50 : decode cX6_placeSigns 50 = .ok (.iadd, 1) := by decide +kernel
theorem dX6_placeSigns_51 : decode cX6_placeSigns 51 = .ok (.istore_n 3, 1) := by decide +kernel
theorem dX6_placeSigns_52 : decode cX6_placeSigns 52 = .ok (.iinc 4 1, 3) := by decide +kernel
theorem dX6_placeSigns_55 : decode cX6_placeSigns 55 = .ok (.goto (-50), 3) := by decide +kernel
theorem dX6_placeSigns_58 : decode cX6_placeSigns 58 = .ok (.iconst 0, 1) := by decide +kernel
theorem dX6_placeSigns_59 : decode cX6_placeSigns 59 = .ok (.istore 4, 2) := by decide +kernel
theorem dX6_placeSigns_61 : decode cX6_placeSigns 61 = .ok (.iload 4, 2) := by decide +kernel
theorem dX6_placeSigns_63 : decode cX6_placeSigns 63 = .ok (.iload_n 3, 1) := by decide +kernel
theorem dX6_placeSigns_64 : decode cX6_placeSigns 64 = .ok (.if_icmp .ge 148, 3) := by decide +kernel
theorem dX6_placeSigns_67 : decode cX6_placeSigns 67 = .ok (.sipush (-1000), 3) := by decide +kernel
theorem dX6_placeSigns_70 : decode cX6_placeSigns 70 = .ok (.istore 5, 2) := by decide +kernel
theorem dX6_placeSigns_72 : decode cX6_placeSigns 72 = .ok (.iconst 0, 1) := by decide +kernel
theorem dX6_placeSigns_73 : decode cX6_placeSigns 73 = .ok (.istore 6, 2) := by decide +kernel
theorem dX6_placeSigns_75 : decode cX6_placeSigns 75 = .ok (.iload 6, 2) := by decide +kernel
theorem dX6_placeSigns_77 : decode cX6_placeSigns 77 = .ok (.aload_n 0, 1) := by decide +kernel
theorem dX6_placeSigns_78 : decode cX6_placeSigns 78 = .ok (.getfield 76, 3) := by decide +kernel
theorem dX6_placeSigns_81 : decode cX6_placeSigns 81 = .ok (.if_icmp .ge 110, 3) := by decide +kernel
theorem dX6_placeSigns_84 : decode cX6_placeSigns 84 = .ok (.aload_n 0, 1) := by decide +kernel
theorem dX6_placeSigns_85 : decode cX6_placeSigns 85 = .ok (.iload 6, 2) := by decide +kernel
theorem dX6_placeSigns_87 : decode cX6_placeSigns 87 = .ok (.iload_n 1, 1) := by decide +kernel
theorem dX6_placeSigns_88 : decode cX6_placeSigns 88 = .ok (.iload_n 2, 1) := by decide +kernel
theorem dX6_placeSigns_89 : decode cX6_placeSigns 89 = .ok (.invokevirtual 93, 3) := by decide +kernel
theorem dX6_placeSigns_92 : decode cX6_placeSigns 92 = .ok (.ifCond .eq 93, 3) := by decide +kernel
theorem dX6_placeSigns_95 : decode cX6_placeSigns 95 = .ok (.aload_n 0, 1) := by decide +kernel
theorem dX6_placeSigns_96 : decode cX6_placeSigns 96 = .ok (.getfield 40, 3) := by decide +kernel
theorem dX6_placeSigns_99 : decode cX6_placeSigns 99 = .ok (.iload 6, 2) := by decide +kernel
theorem dX6_placeSigns_101 : decode cX6_placeSigns 101 = .ok (.iaload, 1) := by decide +kernel
theorem dX6_placeSigns_102 : decode cX6_placeSigns 102 = .ok (.iconst 3, 1) := by decide +kernel
theorem dX6_placeSigns_103 : decode cX6_placeSigns 103 = .ok (.if_icmp .eq 82, 3) := by decide +kernel
theorem dX6_placeSigns_106 : decode cX6_placeSigns 106 = .ok (.aload_n 0, 1) := by decide +kernel
theorem dX6_placeSigns_107 : decode cX6_placeSigns 107 = .ok (.getfield 62, 3) := by decide +kernel
theorem dX6_placeSigns_110 : decode cX6_placeSigns 110 = .ok (.iload 6, 2) := by decide +kernel
theorem dX6_placeSigns_112 : decode cX6_placeSigns 112 = .ok (.iaload, 1) := by decide +kernel
theorem dX6_placeSigns_113 : decode cX6_placeSigns 113 = .ok (.ifCond .ne 72, 3) := by decide +kernel
theorem dX6_placeSigns_116 : decode cX6_placeSigns 116 = .ok (.iload 5, 2) := by decide +kernel
theorem dX6_placeSigns_118 : decode cX6_placeSigns 118 = .ok (.sipush (-1000), 3) := by decide +kernel
theorem dX6_placeSigns_121 : decode cX6_placeSigns 121 = .ok (.if_icmp .eq 43, 3) := by decide +kernel
theorem dX6_placeSigns_124 : decode cX6_placeSigns 124 = .ok (.iload 4, 2) := by decide +kernel
theorem dX6_placeSigns_126 : decode cX6_placeSigns 126 = .ok (.iconst 2, 1) := by decide +kernel
theorem dX6_placeSigns_127 : decode cX6_placeSigns 127 = .ok (.irem, 1) := by decide +kernel
theorem dX6_placeSigns_128 : decode cX6_placeSigns 128 = .ok (.ifCond .ne 21, 3) := by decide +kernel
theorem dX6_placeSigns_131 : decode cX6_placeSigns 131 = .ok (.aload_n 0, 1) := by decide +kernel
theorem dX6_placeSigns_132 : decode cX6_placeSigns 132 = .ok (.iload 6, 2) := by decide +kernel
theorem dX6_placeSigns_134 : decode cX6_placeSigns 134 = .ok (.invokevirtual 100, 3) := by decide +kernel
theorem dX6_placeSigns_137 : decode cX6_placeSigns 137 = .ok (.aload_n 0, 1) := by decide +kernel
theorem dX6_placeSigns_138 : decode cX6_placeSigns 138 = .ok (.iload 5, 2) := by decide +kernel
theorem dX6_placeSigns_140 : decode cX6_placeSigns 140 = .ok (.invokevirtual 100, 3) := by decide +kernel
theorem dX6_placeSigns_143 : decode cX6_placeSigns 143 = .ok (.if_icmp .le 25, 3) := by decide +kernel
theorem dX6_placeSigns_146 : decode cX6_placeSigns 146 = .ok (.goto 18, 3) := by decide +kernel
theorem dX6_placeSigns_149 : decode cX6_placeSigns 149 = .ok (.aload_n 0, 1) := by decide +kernel
theorem dX6_placeSigns_150 : decode cX6_placeSigns 150 = .ok (.iload 6, 2) := by decide +kernel
theorem dX6_placeSigns_152 : decode cX6_placeSigns 152 = .ok (.invokevirtual 100, 3) := by decide +kernel
theorem dX6_placeSigns_155 : decode cX6_placeSigns 155 = .ok (.aload_n 0, 1) := by decide +kernel
theorem dX6_placeSigns_156 : decode cX6_placeSigns 156 = .ok (.iload 5, 2) := by decide +kernel
theorem dX6_placeSigns_158 : decode cX6_placeSigns 158 = .ok (.invokevirtual 100, 3) := by decide +kernel
theorem dX6_placeSigns_161 : decode cX6_placeSigns 161 = .ok (.if_icmp .ge 7, 3) := by decide +kernel
theorem dX6_placeSigns_164 : decode cX6_placeSigns 164 = .ok (.iconst 1, 1) := by decide +kernel
theorem dX6_placeSigns_165 : decode cX6_placeSigns 165 = .ok (.goto 4, 3) := by decide +kernel
theorem dX6_placeSigns_168 : decode cX6_placeSigns 168 = .ok (.iconst 0, 1) := by decide +kernel
theorem dX6_placeSigns_169 : decode cX6_placeSigns 169 = .ok (.istore 7, 2) := by decide +kernel
theorem dX6_placeSigns_171 : decode cX6_placeSigns 171 = .ok (.iload 7, 2) := by decide +kernel
theorem dX6_placeSigns_173 : decode cX6_placeSigns 173 = .ok (.ifCond .eq 8, 3) := by decide +kernel
theorem dX6_placeSigns_176 : decode cX6_placeSigns 176 = .ok (.iload 6, 2) := by decide +kernel
theorem dX6_placeSigns_178 : decode cX6_placeSigns 178 = .ok (.goto 5, 3) := by decide +kernel
theorem dX6_placeSigns_181 : decode cX6_placeSigns 181 = .ok (.iload 5, 2) := by decide +kernel
theorem dX6_placeSigns_183 : decode cX6_placeSigns 183 = .ok (.istore 5, 2) := by decide +kernel
theorem dX6_placeSigns_185 : decode cX6_placeSigns 185 = .ok (.iinc 6 1, 3) := by decide +kernel
theorem dX6_placeSigns_188 : decode cX6_placeSigns 188 = .ok (.goto (-113), 3) := by decide +kernel
theorem dX6_placeSigns_191 : decode cX6_placeSigns 191 = .ok (.aload_n 0, 1) := by decide +kernel
theorem dX6_placeSigns_192 : decode cX6_placeSigns 192 = .ok (.getfield 62, 3) := by decide +kernel
theorem dX6_placeSigns_195 : decode cX6_placeSigns 195 = .ok (.iload 5, 2) := by decide +kernel
theorem dX6_placeSigns_197 : decode cX6_placeSigns 197 = .ok (.aload_n 0, 1) := by decide +kernel
theorem dX6_placeSigns_198 : decode cX6_placeSigns 198 = .ok (.iload 5, 2) := by decide +kernel
theorem dX6_placeSigns_200 : decode cX6_placeSigns 200 = .ok (.iload_n 1, 1) := by decide +kernel
theorem dX6_placeSigns_201 : decode cX6_placeSigns 201 = .ok (.iload_n 2, 1) := by decide +kernel
theorem dX6_placeSigns_202 : decode cX6_placeSigns 202 = .ok (.invokevirtual 131, 3) := by decide +kernel
theorem dX6_placeSigns_205 : decode cX6_placeSigns 205 = .ok (.iastore, 1) := by decide +kernel
theorem dX6_placeSigns_206 : decode cX6_placeSigns 206 = .ok (.iinc 4 1, 3) := by decide +kernel
theorem dX6_placeSigns_209 : decode cX6_placeSigns 209 = .ok (.goto (-148), 3) := by decide +kernel
theorem dX6_placeSigns_212 : decode cX6_placeSigns 212 = .ok (.return_, 1) := by decide +kernel
set_option maxRecDepth 20000 in
theorem ggX6_columnFor_X6_isAt : GoodIn wsX6_columnFor wsX6_isAt := goodIn_r _ [8, 9, 10, 16, 17, 18, 19, 20, 21, 22, 23, 24, 25, 26, 27, 28, 29, 30, 31, 32, 33, 34, 35, 36, 37, 38] (by decide +kernel) (by decide +kernel)
set_option maxRecDepth 20000 in
theorem gX6_columnFor_X6_isAt : GoodIn wsX6_columnFor (wsV RX6 93 RX6 yX6_isAt wsX6_isAt) := goodIn_app (goodIn_of _ (by decide +kernel)) ggX6_columnFor_X6_isAt
set_option maxRecDepth 20000 in
theorem ggX6_columnFor_X6_step : GoodIn wsX6_columnFor wsX6_step := goodIn_r _ [14, 15, 16, 17, 18, 19, 20, 21, 22, 23, 24, 25, 26, 27, 28, 29, 30, 31, 32, 33, 34, 35, 36, 37, 38] (by decide +kernel) (by decide +kernel)
set_option maxRecDepth 20000 in
theorem gX6_columnFor_X6_step : GoodIn wsX6_columnFor (wsV RX6 100 RX6 yX6_step wsX6_step) := goodIn_app (goodIn_of _ (by decide +kernel)) ggX6_columnFor_X6_step
theorem dX6_columnFor_0 : decode cX6_columnFor 0 = .ok (.iconst 0, 1) := by decide +kernel
theorem dX6_columnFor_1 : decode cX6_columnFor 1 = .ok (.istore 4, 2) := by decide +kernel
theorem dX6_columnFor_3 : decode cX6_columnFor 3 = .ok (.iload 4, 2) := by decide +kernel
theorem dX6_columnFor_5 : decode cX6_columnFor 5 = .ok (.aload_n 0, 1) := by decide +kernel
theorem dX6_columnFor_6 : decode cX6_columnFor 6 = .ok (.getfield 76, 3) := by decide +kernel
theorem dX6_columnFor_9 : decode cX6_columnFor 9 = .ok (.if_icmp .ge 68, 3) := by decide +kernel
theorem dX6_columnFor_12 : decode cX6_columnFor 12 = .ok (.aload_n 0, 1) := by decide +kernel
theorem dX6_columnFor_13 : decode cX6_columnFor 13 = .ok (.iload 4, 2) := by decide +kernel
theorem dX6_columnFor_15 : decode cX6_columnFor 15 = .ok (.iload_n 2, 1) := by decide +kernel
theorem dX6_columnFor_16 : decode cX6_columnFor 16 = .ok (.iload_n 3, 1) := by decide +kernel
theorem dX6_columnFor_17 : decode cX6_columnFor 17 = .ok (.invokevirtual 93, 3) := by decide +kernel
theorem dX6_columnFor_20 : decode cX6_columnFor 20 = .ok (.ifCond .eq 51, 3) := by decide +kernel
theorem dX6_columnFor_23 : decode cX6_columnFor 23 = .ok (.aload_n 0, 1) := by decide +kernel
theorem dX6_columnFor_24 : decode cX6_columnFor 24 = .ok (.getfield 62, 3) := by decide +kernel
theorem dX6_columnFor_27 : decode cX6_columnFor 27 = .ok (.iload 4, 2) := by decide +kernel
theorem dX6_columnFor_29 : decode cX6_columnFor 29 = .ok (.iaload, 1) := by decide +kernel
theorem dX6_columnFor_30 : decode cX6_columnFor 30 = .ok (.ifCond .le 41, 3) := by decide +kernel
theorem dX6_columnFor_33 : decode cX6_columnFor 33 = .ok (.aload_n 0, 1) := by decide +kernel
theorem dX6_columnFor_34 : decode cX6_columnFor 34 = .ok (.iload 4, 2) := by decide +kernel
theorem dX6_columnFor_36 : decode cX6_columnFor 36 = .ok (.invokevirtual 100, 3) := by decide +kernel
theorem dX6_columnFor_39 : decode cX6_columnFor 39 = .ok (.aload_n 0, 1) := by decide +kernel
theorem dX6_columnFor_40 : decode cX6_columnFor 40 = .ok (.iload_n 1, 1) := by decide +kernel
theorem dX6_columnFor_41 : decode cX6_columnFor 41 = .ok (.invokevirtual 100, 3) := by decide +kernel
theorem dX6_columnFor_44 : decode cX6_columnFor 44 = .ok (.if_icmp .ne 27, 3) := by decide +kernel
theorem dX6_columnFor_47 : decode cX6_columnFor 47 = .ok (.aload_n 0, 1) := by decide +kernel
theorem dX6_columnFor_48 : decode cX6_columnFor 48 = .ok (.getfield 40, 3) := by decide +kernel
theorem dX6_columnFor_51 : decode cX6_columnFor 51 = .ok (.iload 4, 2) := by decide +kernel
theorem dX6_columnFor_53 : decode cX6_columnFor 53 = .ok (.iaload, 1) := by decide +kernel
theorem dX6_columnFor_54 : decode cX6_columnFor 54 = .ok (.aload_n 0, 1) := by decide +kernel
theorem dX6_columnFor_55 : decode cX6_columnFor 55 = .ok (.getfield 40, 3) := by decide +kernel
theorem dX6_columnFor_58 : decode cX6_columnFor 58 = .ok (.iload_n 1, 1) := by decide +kernel
theorem dX6_columnFor_59 : decode cX6_columnFor 59 = .ok (.iaload, 1) := by decide +kernel
theorem dX6_columnFor_60 : decode cX6_columnFor 60 = .ok (.if_icmp .ne 11, 3) := by decide +kernel
theorem dX6_columnFor_63 : decode cX6_columnFor 63 = .ok (.aload_n 0, 1) := by decide +kernel
theorem dX6_columnFor_64 : decode cX6_columnFor 64 = .ok (.getfield 62, 3) := by decide +kernel
theorem dX6_columnFor_67 : decode cX6_columnFor 67 = .ok (.iload 4, 2) := by decide +kernel
theorem dX6_columnFor_69 : decode cX6_columnFor 69 = .ok (.iaload, 1) := by decide +kernel
theorem dX6_columnFor_70 : decode cX6_columnFor 70 = .ok (.ireturn, 1) := by decide +kernel
theorem dX6_columnFor_71 : decode cX6_columnFor 71 = .ok (.iinc 4 1, 3) := by decide +kernel
theorem dX6_columnFor_74 : decode cX6_columnFor 74 = .ok (.goto (-71), 3) := by decide +kernel
theorem dX6_columnFor_77 : decode cX6_columnFor 77 = .ok (.iconst 0, 1) := by decide +kernel
theorem dX6_columnFor_78 : decode cX6_columnFor 78 = .ok (.istore 4, 2) := by decide +kernel
theorem dX6_columnFor_80 : decode cX6_columnFor 80 = .ok (.iconst 0, 1) := by decide +kernel
theorem dX6_columnFor_81 : decode cX6_columnFor 81 = .ok (.istore 5, 2) := by decide +kernel
theorem dX6_columnFor_83 : decode cX6_columnFor 83 = .ok (.iload 5, 2) := by decide +kernel
theorem dX6_columnFor_85 : decode cX6_columnFor 85 = .ok (.ifCond .ne 93, 3) := by decide +kernel
theorem dX6_columnFor_88 : decode cX6_columnFor 88 = .ok (.iinc 4 1, 3) := by decide +kernel
theorem dX6_columnFor_91 : decode cX6_columnFor 91 = .ok (.iconst 1, 1) := by decide +kernel
theorem dX6_columnFor_92 : decode cX6_columnFor 92 = .ok (.istore 5, 2) := by decide +kernel
theorem dX6_columnFor_94 : decode cX6_columnFor 94 = .ok (.iconst 0, 1) := by decide +kernel
theorem dX6_columnFor_95 : decode cX6_columnFor 95 = .ok (.istore 6, 2) := by decide +kernel
theorem dX6_columnFor_97 : decode cX6_columnFor 97 = .ok (.iload 6, 2) := by decide +kernel
theorem dX6_columnFor_99 : decode cX6_columnFor 99 = .ok (.aload_n 0, 1) := by decide +kernel
theorem dX6_columnFor_100 : decode cX6_columnFor 100 = .ok (.getfield 76, 3) := by decide +kernel
theorem dX6_columnFor_103 : decode cX6_columnFor 103 = .ok (.if_icmp .ge 72, 3) := by decide +kernel
theorem dX6_columnFor_106 : decode cX6_columnFor 106 = .ok (.aload_n 0, 1) := by decide +kernel
theorem dX6_columnFor_107 : decode cX6_columnFor 107 = .ok (.iload 6, 2) := by decide +kernel
theorem dX6_columnFor_109 : decode cX6_columnFor 109 = .ok (.invokevirtual 100, 3) := by decide +kernel
theorem dX6_columnFor_112 : decode cX6_columnFor 112 = .ok (.aload_n 0, 1) := by decide +kernel
theorem dX6_columnFor_113 : decode cX6_columnFor 113 = .ok (.iload_n 1, 1) := by decide +kernel
theorem dX6_columnFor_114 : decode cX6_columnFor 114 = .ok (.invokevirtual 100, 3) := by decide +kernel
theorem dX6_columnFor_117 : decode cX6_columnFor 117 = .ok (.isub, 1) := by decide +kernel
theorem dX6_columnFor_118 : decode cX6_columnFor 118 = .ok (.istore 7, 2) := by decide +kernel
theorem dX6_columnFor_120 : decode cX6_columnFor 120 = .ok (.iload 5, 2) := by decide +kernel
theorem dX6_columnFor_122 : decode cX6_columnFor 122 = .ok (.ifCond .eq 44, 3) := by decide +kernel
theorem dX6_columnFor_125 : decode cX6_columnFor 125 = .ok (.aload_n 0, 1) := by decide +kernel
theorem dX6_columnFor_126 : decode cX6_columnFor 126 = .ok (.iload 6, 2) := by decide +kernel
theorem dX6_columnFor_128 : decode cX6_columnFor 128 = .ok (.iload_n 2, 1) := by decide +kernel
theorem dX6_columnFor_129 : decode cX6_columnFor 129 = .ok (.iload_n 3, 1) := by decide +kernel
theorem dX6_columnFor_130 : decode cX6_columnFor 130 = .ok (.invokevirtual 93, 3) := by decide +kernel
theorem dX6_columnFor_133 : decode cX6_columnFor 133 = .ok (.ifCond .eq 29, 3) := by decide +kernel
theorem dX6_columnFor_136 : decode cX6_columnFor 136 = .ok (.aload_n 0, 1) := by decide +kernel
theorem dX6_columnFor_137 : decode cX6_columnFor 137 = .ok (.getfield 62, 3) := by decide +kernel
theorem dX6_columnFor_140 : decode cX6_columnFor 140 = .ok (.iload 6, 2) := by decide +kernel
theorem dX6_columnFor_142 : decode cX6_columnFor 142 = .ok (.iaload, 1) := by decide +kernel
theorem dX6_columnFor_143 : decode cX6_columnFor 143 = .ok (.iload 4, 2) := by decide +kernel
theorem dX6_columnFor_145 : decode cX6_columnFor 145 = .ok (.if_icmp .ne 17, 3) := by decide +kernel
theorem dX6_columnFor_148 : decode cX6_columnFor 148 = .ok (.iload 7, 2) := by decide +kernel
theorem dX6_columnFor_150 : decode cX6_columnFor 150 = .ok (.bipush (-6), 2) := by decide +kernel
theorem dX6_columnFor_152 : decode cX6_columnFor 152 = .ok (.if_icmp .le 10, 3) := by decide +kernel
theorem dX6_columnFor_155 : decode cX6_columnFor 155 = .ok (.iload 7, 2) := by decide +kernel
theorem dX6_columnFor_157 : decode cX6_columnFor 157 = .ok (.bipush 6, 2) := by decide +kernel
theorem dX6_columnFor_159 : decode cX6_columnFor 159 = .ok (.if_icmp .lt 7, 3) := by decide +kernel
theorem dX6_columnFor_162 : decode cX6_columnFor 162 = .ok (.iconst 1, 1) := by decide +kernel
theorem dX6_columnFor_163 : decode cX6_columnFor 163 = .ok (.goto 4, 3) := by decide +kernel
theorem dX6_columnFor_166 : decode cX6_columnFor 166 = .ok (.iconst 0, 1) := by decide +kernel
theorem dX6_columnFor_167 : decode cX6_columnFor 167 = .ok (.istore 5, 2) := by decide +kernel
theorem dX6_columnFor_169 : decode cX6_columnFor 169 = .ok (.iinc 6 1, 3) := by decide +kernel
theorem dX6_columnFor_172 : decode cX6_columnFor 172 = .ok (.goto (-75), 3) := by decide +kernel
theorem dX6_columnFor_175 : decode cX6_columnFor 175 = .ok (.goto (-92), 3) := by decide +kernel
theorem dX6_columnFor_178 : decode cX6_columnFor 178 = .ok (.iload 4, 2) := by decide +kernel
theorem dX6_columnFor_180 : decode cX6_columnFor 180 = .ok (.ireturn, 1) := by decide +kernel
set_option maxRecDepth 20000 in
theorem ggX6_of_X6_isNote : GoodIn wsX6_of wsX6_isNote := goodIn_r _ [12, 13, 14, 15, 11, 16, 92, 93, 94, 95, 96, 97, 98, 99, 100, 101, 102, 103, 104, 105, 106, 107, 108, 109, 110, 111, 112, 113, 114] (by decide +kernel) (by decide +kernel)
set_option maxRecDepth 20000 in
theorem gX6_of_X6_isNote : GoodIn wsX6_of (wsV RX6 86 RX6 yX6_isNote wsX6_isNote) := goodIn_app (goodIn_of _ (by decide +kernel)) ggX6_of_X6_isNote
set_option maxRecDepth 20000 in
theorem ggX6_of_X6_reckon : GoodIn wsX6_of wsX6_reckon := goodIn_r _ [20, 13, 21, 22, 23, 24, 11, 25, 2, 26, 27, 28, 3, 29, 30, 31, 32, 33, 14, 15, 16, 92, 93, 94, 95, 96, 97, 98, 99, 100, 101, 102, 103, 104, 105, 106, 107, 108, 109, 110, 111, 112, 113, 114] (by decide +kernel) (by decide +kernel)
set_option maxRecDepth 20000 in
theorem gX6_of_X6_reckon : GoodIn wsX6_of (wsV RX6 134 RX6 yX6_reckon wsX6_reckon) := goodIn_app (goodIn_of _ (by decide +kernel)) ggX6_of_X6_reckon
set_option maxRecDepth 20000 in
theorem ggX6_of_X6_step : GoodIn wsX6_of wsX6_step := goodIn_r _ [37, 21, 92, 93, 94, 95, 96, 97, 98, 99, 100, 101, 102, 103, 104, 105, 106, 107, 108, 109, 110, 111, 112, 113, 114] (by decide +kernel) (by decide +kernel)
set_option maxRecDepth 20000 in
theorem gX6_of_X6_step : GoodIn wsX6_of (wsV RX6 100 RX6 yX6_step wsX6_step) := goodIn_app (goodIn_of _ (by decide +kernel)) ggX6_of_X6_step
set_option maxRecDepth 20000 in
theorem ggX6_of_X6_stemOf : GoodIn wsX6_of wsX6_stemOf := goodIn_r _ [41, 2, 3, 7, 42, 43, 44, 11, 45, 46, 47, 48, 49, 13, 50, 51, 52, 53, 54, 55, 56, 57, 58, 59, 60, 61, 34, 35, 36, 37, 21, 92, 93, 94, 95, 96, 97, 98, 99, 100, 101, 102, 103, 104, 105, 106, 107, 108, 109, 110, 111, 112, 113, 114] (by decide +kernel) (by decide +kernel)
set_option maxRecDepth 20000 in
theorem gX6_of_X6_stemOf : GoodIn wsX6_of (wsV RX6 114 RX6 yX6_stemOf wsX6_stemOf) := goodIn_app (goodIn_of _ (by decide +kernel)) ggX6_of_X6_stemOf
set_option maxRecDepth 20000 in
theorem ggX6_of_X6_aside : GoodIn wsX6_of wsX6_aside := goodIn_r _ [65, 13, 2, 3, 7, 38, 39, 40, 11, 41, 42, 43, 44, 45, 46, 47, 48, 49, 50, 51, 52, 53, 54, 55, 56, 57, 58, 59, 60, 61, 34, 35, 36, 37, 21, 66, 67, 68, 69, 92, 93, 94, 95, 96, 97, 98, 99, 100, 101, 102, 103, 104, 105, 106, 107, 108, 109, 110, 111, 112, 113, 114] (by decide +kernel) (by decide +kernel)
set_option maxRecDepth 20000 in
theorem gX6_of_X6_aside : GoodIn wsX6_of (wsV RX6 121 RX6 yX6_aside wsX6_aside) := goodIn_app (goodIn_of _ (by decide +kernel)) ggX6_of_X6_aside
set_option maxRecDepth 20000 in
theorem ggX6_of_X6_move : GoodIn wsX6_of wsX6_move := goodIn_r _ [73, 6, 13, 4, 50, 51, 52, 11, 53, 7, 54, 55, 56, 57, 2, 3, 62, 63, 64, 65, 38, 39, 40, 41, 42, 43, 44, 45, 46, 47, 48, 49, 58, 59, 60, 61, 34, 35, 36, 37, 21, 66, 67, 68, 69, 74, 75, 76, 77, 78, 79, 80, 81, 82, 83, 92, 93, 94, 95, 96, 97, 98, 99, 100, 101, 102, 103, 104, 105, 106, 107, 108, 109, 110, 111, 112, 113, 114] (by decide +kernel) (by decide +kernel)
set_option maxRecDepth 20000 in
theorem gX6_of_X6_move : GoodIn wsX6_of (wsV RX6 137 RX6 yX6_move wsX6_move) := goodIn_app (goodIn_of _ (by decide +kernel)) ggX6_of_X6_move
set_option maxRecDepth 20000 in
theorem ggX6_of_X6_placeSigns : GoodIn wsX6_of wsX6_placeSigns := goodIn_r _ [87, 13, 5, 83, 54, 55, 56, 11, 57, 2, 3, 34, 35, 36, 37, 21, 88, 89, 90, 91, 92, 93, 94, 95, 96, 97, 98, 99, 100, 101, 102, 103, 104, 105, 106, 107, 108, 109, 110, 111, 112, 113, 114] (by decide +kernel) (by decide +kernel)
set_option maxRecDepth 20000 in
theorem gX6_of_X6_placeSigns : GoodIn wsX6_of (wsV RX6 141 RX6 yX6_placeSigns wsX6_placeSigns) := goodIn_app (goodIn_of _ (by decide +kernel)) ggX6_of_X6_placeSigns
set_option maxRecDepth 20000 in
theorem ggX6_of_X6_many : GoodIn wsX6_of wsX6_many := goodIn_r _ [49, 13, 50, 51, 52, 11, 53, 7, 54, 55, 56, 57, 2, 3, 92, 93, 94, 95, 96, 97, 98, 99, 100, 101, 102, 103, 104, 105, 106, 107, 108, 109, 110, 111, 112, 113, 114] (by decide +kernel) (by decide +kernel)
set_option maxRecDepth 20000 in
theorem gX6_of_X6_many : GoodIn wsX6_of (wsV RX6 103 RX6 yX6_many wsX6_many) := goodIn_app (goodIn_of _ (by decide +kernel)) ggX6_of_X6_many
theorem dX6_of_0 : decode cX6_of 0 = .ok (.aload_n 0, 1) := by decide +kernel
theorem dX6_of_1 : decode cX6_of 1 = .ok (.iconst 0, 1) := by decide +kernel
theorem dX6_of_2 : decode cX6_of 2 = .ok (.putfield 69, 3) := by decide +kernel
theorem dX6_of_5 : decode cX6_of 5 = .ok (.aload_n 0, 1) := by decide +kernel
theorem dX6_of_6 : decode cX6_of 6 = .ok (.iload_n 1, 1) := by decide +kernel
theorem dX6_of_7 : decode cX6_of 7 = .ok (.invokevirtual 86, 3) := by decide +kernel
theorem dX6_of_10 : decode cX6_of 10 = .ok (.ifCond .ne 7, 3) := by decide +kernel
theorem dX6_of_13 : decode cX6_of 13 = .ok (.sipush (-1001), 3) := by decide +kernel
theorem dX6_of_16 : decode cX6_of 16 = .ok (.ireturn, 1) := by decide +kernel
theorem dX6_of_17 : decode cX6_of 17 = .ok (.aload_n 0, 1) := by decide +kernel
theorem dX6_of_18 : decode cX6_of 18 = .ok (.invokevirtual 134, 3) := by decide +kernel
theorem dX6_of_21 : decode cX6_of 21 = .ok (.aload_n 0, 1) := by decide +kernel
theorem dX6_of_22 : decode cX6_of 22 = .ok (.iload_n 1, 1) := by decide +kernel
theorem dX6_of_23 : decode cX6_of 23 = .ok (.invokevirtual 100, 3) := by decide +kernel
theorem dX6_of_26 : decode cX6_of 26 = .ok (.istore_n 3, 1) := by decide +kernel
theorem dX6_of_27 : decode cX6_of 27 = .ok (.iload_n 2, 1) := by decide +kernel
theorem dX6_of_28 : decode cX6_of 28 = .ok (.tableswitch 193 0 8 #[52, 54, 67, 84, 90, 96, 119, 142, 170], 52) := by decide +kernel
theorem dX6_of_80 : decode cX6_of 80 = .ok (.iload_n 3, 1) := by decide +kernel
theorem dX6_of_81 : decode cX6_of 81 = .ok (.ireturn, 1) := by decide +kernel
theorem dX6_of_82 : decode cX6_of 82 = .ok (.iload_n 3, 1) := by decide +kernel
theorem dX6_of_83 : decode cX6_of 83 = .ok (.ifCond .ge 10, 3) := by decide +kernel
theorem dX6_of_86 : decode cX6_of 86 = .ok (.iload_n 3, 1) := by decide +kernel
theorem dX6_of_87 : decode cX6_of 87 = .ok (.ineg, 1) := by decide +kernel
theorem dX6_of_88 : decode cX6_of 88 = .ok (.iconst 2, 1) := by decide +kernel
theorem dX6_of_89 : decode cX6_of 89 = .ok (.idiv, 1) := by decide +kernel
theorem dX6_of_90 : decode cX6_of 90 = .ok (.goto 4, 3) := by decide +kernel
theorem dX6_of_93 : decode cX6_of 93 = .ok (.iconst 0, 1) := by decide +kernel
theorem dX6_of_94 : decode cX6_of 94 = .ok (.ireturn, 1) := by decide +kernel
theorem dX6_of_95 : decode cX6_of 95 = .ok (.iload_n 3, 1) := by decide +kernel
theorem dX6_of_96 : decode cX6_of 96 = .ok (.bipush 8, 2) := by decide +kernel
theorem dX6_of_98 : decode cX6_of 98 = .ok (.if_icmp .le 12, 3) := by decide +kernel
theorem dX6_of_101 : decode cX6_of 101 = .ok (.iload_n 3, 1) := by decide +kernel
theorem dX6_of_102 : decode cX6_of 102 = .ok (.bipush 8, 2) := by decide +kernel
theorem dX6_of_104 : decode cX6_of 104 = .ok (.isub, 1) := by decide +kernel
theorem dX6_of_105 : decode cX6_of 105 = .ok (.iconst 2, 1) := by decide +kernel
theorem dX6_of_106 : decode cX6_of 106 = .ok (.idiv, 1) := by decide +kernel
theorem dX6_of_107 : decode cX6_of 107 = .ok (.goto 4, 3) := by decide +kernel
theorem dX6_of_110 : decode cX6_of 110 = .ok (.iconst 0, 1) := by decide +kernel
theorem dX6_of_111 : decode cX6_of 111 = .ok (.ireturn, 1) := by decide +kernel
theorem dX6_of_112 : decode cX6_of 112 = .ok (.aload_n 0, 1) := by decide +kernel
theorem dX6_of_113 : decode cX6_of 113 = .ok (.iload_n 1, 1) := by decide +kernel
theorem dX6_of_114 : decode cX6_of 114 = .ok (.invokevirtual 114, 3) := by decide +kernel
theorem dX6_of_117 : decode cX6_of 117 = .ok (.ireturn, 1) := by decide +kernel
theorem dX6_of_118 : decode cX6_of 118 = .ok (.aload_n 0, 1) := by decide +kernel
theorem dX6_of_119 : decode cX6_of 119 = .ok (.iload_n 1, 1) := by decide +kernel
theorem dX6_of_120 : decode cX6_of 120 = .ok (.invokevirtual 121, 3) := by decide +kernel
theorem dX6_of_123 : decode cX6_of 123 = .ok (.ireturn, 1) := by decide +kernel
theorem dX6_of_124 : decode cX6_of 124 = .ok (.aload_n 0, 1) := by decide +kernel
theorem dX6_of_125 : decode cX6_of 125 = .ok (.aload_n 0, 1) := by decide +kernel
theorem dX6_of_126 : decode cX6_of 126 = .ok (.getfield 28, 3) := by decide +kernel
theorem dX6_of_129 : decode cX6_of 129 = .ok (.iload_n 1, 1) := by decide +kernel
theorem dX6_of_130 : decode cX6_of 130 = .ok (.iaload, 1) := by decide +kernel
theorem dX6_of_131 : decode cX6_of 131 = .ok (.aload_n 0, 1) := by decide +kernel
theorem dX6_of_132 : decode cX6_of 132 = .ok (.getfield 34, 3) := by decide +kernel
theorem dX6_of_135 : decode cX6_of 135 = .ok (.iload_n 1, 1) := by decide +kernel
theorem dX6_of_136 : decode cX6_of 136 = .ok (.iaload, 1) := by decide +kernel
theorem dX6_of_137 : decode cX6_of 137 = .ok (.invokevirtual 137, 3) := by decide +kernel
theorem dX6_of_140 : decode cX6_of 140 = .ok (.aload_n 0, 1) := by decide +kernel
theorem dX6_of_141 : decode cX6_of 141 = .ok (.getfield 59, 3) := by decide +kernel
theorem dX6_of_144 : decode cX6_of 144 = .ok (.iload_n 1, 1) := by decide +kernel
theorem dX6_of_145 : decode cX6_of 145 = .ok (.iaload, 1) := by decide +kernel
theorem dX6_of_146 : decode cX6_of 146 = .ok (.ireturn, 1) := by decide +kernel
theorem dX6_of_147 : decode cX6_of 147 = .ok (.aload_n 0, 1) := by decide +kernel
theorem dX6_of_148 : decode cX6_of 148 = .ok (.aload_n 0, 1) := by decide +kernel
theorem dX6_of_149 : decode cX6_of 149 = .ok (.getfield 28, 3) := by decide +kernel
theorem dX6_of_152 : decode cX6_of 152 = .ok (.iload_n 1, 1) := by decide +kernel
theorem dX6_of_153 : decode cX6_of 153 = .ok (.iaload, 1) := by decide +kernel
theorem dX6_of_154 : decode cX6_of 154 = .ok (.aload_n 0, 1) := by decide +kernel
theorem dX6_of_155 : decode cX6_of 155 = .ok (.getfield 34, 3) := by decide +kernel
theorem dX6_of_158 : decode cX6_of 158 = .ok (.iload_n 1, 1) := by decide +kernel
theorem dX6_of_159 : decode cX6_of 159 = .ok (.iaload, 1) := by decide +kernel
theorem dX6_of_160 : decode cX6_of 160 = .ok (.invokevirtual 141, 3) := by decide +kernel
theorem dX6_of_163 : decode cX6_of 163 = .ok (.aload_n 0, 1) := by decide +kernel
theorem dX6_of_164 : decode cX6_of 164 = .ok (.getfield 62, 3) := by decide +kernel
theorem dX6_of_167 : decode cX6_of 167 = .ok (.iload_n 1, 1) := by decide +kernel
theorem dX6_of_168 : decode cX6_of 168 = .ok (.iaload, 1) := by decide +kernel
theorem dX6_of_169 : decode cX6_of 169 = .ok (.ireturn, 1) := by decide +kernel
theorem dX6_of_170 : decode cX6_of 170 = .ok (.aload_n 0, 1) := by decide +kernel
theorem dX6_of_171 : decode cX6_of 171 = .ok (.aload_n 0, 1) := by decide +kernel
theorem dX6_of_172 : decode cX6_of 172 = .ok (.getfield 28, 3) := by decide +kernel
theorem dX6_of_175 : decode cX6_of 175 = .ok (.iload_n 1, 1) := by decide +kernel
theorem dX6_of_176 : decode cX6_of 176 = .ok (.iaload, 1) := by decide +kernel
theorem dX6_of_177 : decode cX6_of 177 = .ok (.aload_n 0, 1) := by decide +kernel
theorem dX6_of_178 : decode cX6_of 178 = .ok (.getfield 34, 3) := by decide +kernel
theorem dX6_of_181 : decode cX6_of 181 = .ok (.iload_n 1, 1) := by decide +kernel
theorem dX6_of_182 : decode cX6_of 182 = .ok (.iaload, 1) := by decide +kernel
theorem dX6_of_183 : decode cX6_of 183 = .ok (.invokevirtual 137, 3) := by decide +kernel
theorem dX6_of_186 : decode cX6_of 186 = .ok (.aload_n 0, 1) := by decide +kernel
theorem dX6_of_187 : decode cX6_of 187 = .ok (.getfield 56, 3) := by decide +kernel
theorem dX6_of_190 : decode cX6_of 190 = .ok (.aload_n 0, 1) := by decide +kernel
theorem dX6_of_191 : decode cX6_of 191 = .ok (.getfield 31, 3) := by decide +kernel
theorem dX6_of_194 : decode cX6_of 194 = .ok (.iload_n 1, 1) := by decide +kernel
theorem dX6_of_195 : decode cX6_of 195 = .ok (.iaload, 1) := by decide +kernel
theorem dX6_of_196 : decode cX6_of 196 = .ok (.iaload, 1) := by decide +kernel
theorem dX6_of_197 : decode cX6_of 197 = .ok (.ireturn, 1) := by decide +kernel
theorem dX6_of_198 : decode cX6_of 198 = .ok (.aload_n 0, 1) := by decide +kernel
theorem dX6_of_199 : decode cX6_of 199 = .ok (.aload_n 0, 1) := by decide +kernel
theorem dX6_of_200 : decode cX6_of 200 = .ok (.getfield 28, 3) := by decide +kernel
theorem dX6_of_203 : decode cX6_of 203 = .ok (.iload_n 1, 1) := by decide +kernel
theorem dX6_of_204 : decode cX6_of 204 = .ok (.iaload, 1) := by decide +kernel
theorem dX6_of_205 : decode cX6_of 205 = .ok (.aload_n 0, 1) := by decide +kernel
theorem dX6_of_206 : decode cX6_of 206 = .ok (.getfield 34, 3) := by decide +kernel
theorem dX6_of_209 : decode cX6_of 209 = .ok (.iload_n 1, 1) := by decide +kernel
theorem dX6_of_210 : decode cX6_of 210 = .ok (.iaload, 1) := by decide +kernel
theorem dX6_of_211 : decode cX6_of 211 = .ok (.aload_n 0, 1) := by decide +kernel
theorem dX6_of_212 : decode cX6_of 212 = .ok (.getfield 31, 3) := by decide +kernel
theorem dX6_of_215 : decode cX6_of 215 = .ok (.iload_n 1, 1) := by decide +kernel
theorem dX6_of_216 : decode cX6_of 216 = .ok (.iaload, 1) := by decide +kernel
theorem dX6_of_217 : decode cX6_of 217 = .ok (.invokevirtual 103, 3) := by decide +kernel
theorem dX6_of_220 : decode cX6_of 220 = .ok (.ireturn, 1) := by decide +kernel
theorem dX6_of_221 : decode cX6_of 221 = .ok (.sipush (-1002), 3) := by decide +kernel
theorem dX6_of_224 : decode cX6_of 224 = .ok (.ireturn, 1) := by decide +kernel
set_option maxRecDepth 20000 in
theorem ggX6_high_X6_isAt : GoodIn wsX6_high wsX6_isAt := goodIn_r _ [8, 9, 10, 36, 37, 38, 39, 40, 41, 42, 43, 44, 45, 46, 47, 48, 49, 50, 51, 52, 53, 54, 55, 56, 57, 58] (by decide +kernel) (by decide +kernel)
set_option maxRecDepth 20000 in
theorem gX6_high_X6_isAt : GoodIn wsX6_high (wsV RX6 93 RX6 yX6_isAt wsX6_isAt) := goodIn_app (goodIn_of _ (by decide +kernel)) ggX6_high_X6_isAt
set_option maxRecDepth 20000 in
theorem ggX6_high_X6_step : GoodIn wsX6_high wsX6_step := goodIn_r _ [14, 15, 36, 37, 38, 39, 40, 41, 42, 43, 44, 45, 46, 47, 48, 49, 50, 51, 52, 53, 54, 55, 56, 57, 58] (by decide +kernel) (by decide +kernel)
set_option maxRecDepth 20000 in
theorem gX6_high_X6_step : GoodIn wsX6_high (wsV RX6 100 RX6 yX6_step wsX6_step) := goodIn_app (goodIn_of _ (by decide +kernel)) ggX6_high_X6_step
set_option maxRecDepth 20000 in
theorem ggX6_high_X6_stemOf : GoodIn wsX6_high wsX6_stemOf := goodIn_r _ [19, 9, 10, 3, 20, 21, 22, 7, 23, 24, 25, 26, 27, 1, 28, 29, 30, 31, 4, 5, 6, 8, 32, 33, 34, 35, 11, 12, 13, 14, 15, 36, 37, 38, 39, 40, 41, 42, 43, 44, 45, 46, 47, 48, 49, 50, 51, 52, 53, 54, 55, 56, 57, 58] (by decide +kernel) (by decide +kernel)
set_option maxRecDepth 20000 in
theorem gX6_high_X6_stemOf : GoodIn wsX6_high (wsV RX6 114 RX6 yX6_stemOf wsX6_stemOf) := goodIn_app (goodIn_of _ (by decide +kernel)) ggX6_high_X6_stemOf
set_option maxRecDepth 20000 in
theorem ggX6_high_X6_end : GoodIn wsX6_high wsX6_end := goodIn_r _ [35, 1, 28, 29, 30, 7, 31, 3, 4, 5, 6, 8, 9, 10, 11, 12, 13, 14, 15, 36, 37, 38, 39, 40, 41, 42, 43, 44, 45, 46, 47, 48, 49, 50, 51, 52, 53, 54, 55, 56, 57, 58] (by decide +kernel) (by decide +kernel)
set_option maxRecDepth 20000 in
theorem gX6_high_X6_end : GoodIn wsX6_high (wsV RX6 107 RX6 yX6_end wsX6_end) := goodIn_app (goodIn_of _ (by decide +kernel)) ggX6_high_X6_end
theorem dX6_high_0 : decode cX6_high 0 = .ok (.bipush 8, 2) := by decide +kernel
theorem dX6_high_2 : decode cX6_high 2 = .ok (.istore_n 3, 1) := by decide +kernel
theorem dX6_high_3 : decode cX6_high 3 = .ok (.iconst 0, 1) := by decide +kernel
theorem dX6_high_4 : decode cX6_high 4 = .ok (.istore 4, 2) := by decide +kernel
theorem dX6_high_6 : decode cX6_high 6 = .ok (.iload 4, 2) := by decide +kernel
theorem dX6_high_8 : decode cX6_high 8 = .ok (.aload_n 0, 1) := by decide +kernel
theorem dX6_high_9 : decode cX6_high 9 = .ok (.getfield 76, 3) := by decide +kernel
theorem dX6_high_12 : decode cX6_high 12 = .ok (.if_icmp .ge 93, 3) := by decide +kernel
theorem dX6_high_15 : decode cX6_high 15 = .ok (.aload_n 0, 1) := by decide +kernel
theorem dX6_high_16 : decode cX6_high 16 = .ok (.iload 4, 2) := by decide +kernel
theorem dX6_high_18 : decode cX6_high 18 = .ok (.iload_n 1, 1) := by decide +kernel
theorem dX6_high_19 : decode cX6_high 19 = .ok (.iload_n 2, 1) := by decide +kernel
theorem dX6_high_20 : decode cX6_high 20 = .ok (.invokevirtual 93, 3) := by decide +kernel
theorem dX6_high_23 : decode cX6_high 23 = .ok (.ifCond .eq 76, 3) := by decide +kernel
theorem dX6_high_26 : decode cX6_high 26 = .ok (.aload_n 0, 1) := by decide +kernel
theorem dX6_high_27 : decode cX6_high 27 = .ok (.iload 4, 2) := by decide +kernel
theorem dX6_high_29 : decode cX6_high 29 = .ok (.invokevirtual 100, 3) := by decide +kernel
theorem dX6_high_32 : decode cX6_high 32 = .ok (.istore 5, 2) := by decide +kernel
theorem dX6_high_34 : decode cX6_high 34 = .ok (.iload 5, 2) := by decide +kernel
theorem dX6_high_36 : decode cX6_high 36 = .ok (.iload_n 3, 1) := by decide +kernel
theorem dX6_high_37 : decode cX6_high 37 = .ok (.if_icmp .le 8, 3) := by decide +kernel
theorem dX6_high_40 : decode cX6_high 40 = .ok (.iload 5, 2) := by decide +kernel
theorem dX6_high_42 : decode cX6_high 42 = .ok (.goto 4, 3) := by decide +kernel
theorem dX6_high_45 : decode cX6_high 45 = .ok (.iload_n 3, 1) := by decide +kernel
theorem dX6_high_46 : decode cX6_high 46 = .ok (.istore_n 3, 1) := by decide +kernel
theorem dX6_high_47 : decode cX6_high 47 = .ok (.aload_n 0, 1) := by decide +kernel
theorem dX6_high_48 : decode cX6_high 48 = .ok (.getfield 43, 3) := by decide +kernel
theorem dX6_high_51 : decode cX6_high 51 = .ok (.iload 4, 2) := by decide +kernel
theorem dX6_high_53 : decode cX6_high 53 = .ok (.iaload, 1) := by decide +kernel
theorem dX6_high_54 : decode cX6_high 54 = .ok (.ifCond .eq 45, 3) := by decide +kernel
theorem dX6_high_57 : decode cX6_high 57 = .ok (.aload_n 0, 1) := by decide +kernel
theorem dX6_high_58 : decode cX6_high 58 = .ok (.iload 4, 2) := by decide +kernel
theorem dX6_high_60 : decode cX6_high 60 = .ok (.invokevirtual 114, 3) := by decide +kernel
theorem dX6_high_63 : decode cX6_high 63 = .ok (.iconst 1, 1) := by decide +kernel
theorem dX6_high_64 : decode cX6_high 64 = .ok (.if_icmp .ne 35, 3) := by decide +kernel
theorem dX6_high_67 : decode cX6_high 67 = .ok (.aload_n 0, 1) := by decide +kernel
theorem dX6_high_68 : decode cX6_high 68 = .ok (.iload_n 1, 1) := by decide +kernel
theorem dX6_high_69 : decode cX6_high 69 = .ok (.iload_n 2, 1) := by decide +kernel
theorem dX6_high_70 : decode cX6_high 70 = .ok (.aload_n 0, 1) := by decide +kernel
theorem dX6_high_71 : decode cX6_high 71 = .ok (.getfield 31, 3) := by decide +kernel
theorem dX6_high_74 : decode cX6_high 74 = .ok (.iload 4, 2) := by decide +kernel
theorem dX6_high_76 : decode cX6_high 76 = .ok (.iaload, 1) := by decide +kernel
theorem dX6_high_77 : decode cX6_high 77 = .ok (.iconst 1, 1) := by decide +kernel
theorem dX6_high_78 : decode cX6_high 78 = .ok (.invokevirtual 107, 3) := by decide +kernel
theorem dX6_high_81 : decode cX6_high 81 = .ok (.bipush 7, 2) := by decide +kernel
theorem dX6_high_83 : decode cX6_high 83 = .ok (.iadd, 1) := by decide +kernel
theorem dX6_high_84 : decode cX6_high 84 = .ok (.istore 6, 2) := by decide +kernel
theorem dX6_high_86 : decode cX6_high 86 = .ok (.iload 6, 2) := by decide +kernel
theorem dX6_high_88 : decode cX6_high 88 = .ok (.iload_n 3, 1) := by decide +kernel
theorem dX6_high_89 : decode cX6_high 89 = .ok (.if_icmp .le 8, 3) := by decide +kernel
theorem dX6_high_92 : decode cX6_high 92 = .ok (.iload 6, 2) := by decide +kernel
theorem dX6_high_94 : decode cX6_high 94 = .ok (.goto 4, 3) := by decide +kernel
theorem dX6_high_97 : decode cX6_high 97 = .ok (.iload_n 3, 1) := by decide +kernel
theorem dX6_high_98 : decode cX6_high 98 = .ok (.istore_n 3, 1) := by decide +kernel
theorem dX6_high_99 : decode cX6_high 99 = .ok (.iinc 4 1, 3) := by decide +kernel
theorem dX6_high_102 : decode cX6_high 102 = .ok (.goto (-96), 3) := by decide +kernel
theorem dX6_high_105 : decode cX6_high 105 = .ok (.iload_n 3, 1) := by decide +kernel
theorem dX6_high_106 : decode cX6_high 106 = .ok (.ireturn, 1) := by decide +kernel
set_option maxRecDepth 20000 in
theorem ggX6_low_X6_isAt : GoodIn wsX6_low wsX6_isAt := goodIn_r _ [8, 9, 10, 36, 37, 38, 39, 40, 41, 42, 43, 44, 45, 46, 47, 48, 49, 50, 51, 52, 53, 54, 55, 56, 57, 58] (by decide +kernel) (by decide +kernel)
set_option maxRecDepth 20000 in
theorem gX6_low_X6_isAt : GoodIn wsX6_low (wsV RX6 93 RX6 yX6_isAt wsX6_isAt) := goodIn_app (goodIn_of _ (by decide +kernel)) ggX6_low_X6_isAt
set_option maxRecDepth 20000 in
theorem ggX6_low_X6_step : GoodIn wsX6_low wsX6_step := goodIn_r _ [14, 15, 36, 37, 38, 39, 40, 41, 42, 43, 44, 45, 46, 47, 48, 49, 50, 51, 52, 53, 54, 55, 56, 57, 58] (by decide +kernel) (by decide +kernel)
set_option maxRecDepth 20000 in
theorem gX6_low_X6_step : GoodIn wsX6_low (wsV RX6 100 RX6 yX6_step wsX6_step) := goodIn_app (goodIn_of _ (by decide +kernel)) ggX6_low_X6_step
set_option maxRecDepth 20000 in
theorem ggX6_low_X6_stemOf : GoodIn wsX6_low wsX6_stemOf := goodIn_r _ [19, 9, 10, 3, 20, 21, 22, 7, 23, 24, 25, 26, 27, 1, 28, 29, 30, 31, 4, 5, 6, 8, 32, 33, 34, 35, 11, 12, 13, 14, 15, 36, 37, 38, 39, 40, 41, 42, 43, 44, 45, 46, 47, 48, 49, 50, 51, 52, 53, 54, 55, 56, 57, 58] (by decide +kernel) (by decide +kernel)
set_option maxRecDepth 20000 in
theorem gX6_low_X6_stemOf : GoodIn wsX6_low (wsV RX6 114 RX6 yX6_stemOf wsX6_stemOf) := goodIn_app (goodIn_of _ (by decide +kernel)) ggX6_low_X6_stemOf
set_option maxRecDepth 20000 in
theorem ggX6_low_X6_end : GoodIn wsX6_low wsX6_end := goodIn_r _ [35, 1, 28, 29, 30, 7, 31, 3, 4, 5, 6, 8, 9, 10, 11, 12, 13, 14, 15, 36, 37, 38, 39, 40, 41, 42, 43, 44, 45, 46, 47, 48, 49, 50, 51, 52, 53, 54, 55, 56, 57, 58] (by decide +kernel) (by decide +kernel)
set_option maxRecDepth 20000 in
theorem gX6_low_X6_end : GoodIn wsX6_low (wsV RX6 107 RX6 yX6_end wsX6_end) := goodIn_app (goodIn_of _ (by decide +kernel)) ggX6_low_X6_end
theorem dX6_low_0 : decode cX6_low 0 = .ok (.iconst 0, 1) := by decide +kernel
theorem dX6_low_1 : decode cX6_low 1 = .ok (.istore_n 3, 1) := by decide +kernel
theorem dX6_low_2 : decode cX6_low 2 = .ok (.iconst 0, 1) := by decide +kernel
theorem dX6_low_3 : decode cX6_low 3 = .ok (.istore 4, 2) := by decide +kernel
theorem dX6_low_5 : decode cX6_low 5 = .ok (.iload 4, 2) := by decide +kernel
theorem dX6_low_7 : decode cX6_low 7 = .ok (.aload_n 0, 1) := by decide +kernel
theorem dX6_low_8 : decode cX6_low 8 = .ok (.getfield 76, 3) := by decide +kernel
theorem dX6_low_11 : decode cX6_low 11 = .ok (.if_icmp .ge 92, 3) := by decide +kernel
theorem dX6_low_14 : decode cX6_low 14 = .ok (.aload_n 0, 1) := by decide +kernel
theorem dX6_low_15 : decode cX6_low 15 = .ok (.iload 4, 2) := by decide +kernel
theorem dX6_low_17 : decode cX6_low 17 = .ok (.iload_n 1, 1) := by decide +kernel
theorem dX6_low_18 : decode cX6_low 18 = .ok (.iload_n 2, 1) := by decide +kernel
theorem dX6_low_19 : decode cX6_low 19 = .ok (.invokevirtual 93, 3) := by decide +kernel
theorem dX6_low_22 : decode cX6_low 22 = .ok (.ifCond .eq 75, 3) := by decide +kernel
theorem dX6_low_25 : decode cX6_low 25 = .ok (.aload_n 0, 1) := by decide +kernel
theorem dX6_low_26 : decode cX6_low 26 = .ok (.iload 4, 2) := by decide +kernel
theorem dX6_low_28 : decode cX6_low 28 = .ok (.invokevirtual 100, 3) := by decide +kernel
theorem dX6_low_31 : decode cX6_low 31 = .ok (.istore 5, 2) := by decide +kernel
theorem dX6_low_33 : decode cX6_low 33 = .ok (.iload 5, 2) := by decide +kernel
theorem dX6_low_35 : decode cX6_low 35 = .ok (.iload_n 3, 1) := by decide +kernel
theorem dX6_low_36 : decode cX6_low 36 = .ok (.if_icmp .ge 8, 3) := by decide +kernel
theorem dX6_low_39 : decode cX6_low 39 = .ok (.iload 5, 2) := by decide +kernel
theorem dX6_low_41 : decode cX6_low 41 = .ok (.goto 4, 3) := by decide +kernel
theorem dX6_low_44 : decode cX6_low 44 = .ok (.iload_n 3, 1) := by decide +kernel
theorem dX6_low_45 : decode cX6_low 45 = .ok (.istore_n 3, 1) := by decide +kernel
theorem dX6_low_46 : decode cX6_low 46 = .ok (.aload_n 0, 1) := by decide +kernel
theorem dX6_low_47 : decode cX6_low 47 = .ok (.getfield 43, 3) := by decide +kernel
theorem dX6_low_50 : decode cX6_low 50 = .ok (.iload 4, 2) := by decide +kernel
theorem dX6_low_52 : decode cX6_low 52 = .ok (.iaload, 1) := by decide +kernel
theorem dX6_low_53 : decode cX6_low 53 = .ok (.ifCond .eq 44, 3) := by decide +kernel
theorem dX6_low_56 : decode cX6_low 56 = .ok (.aload_n 0, 1) := by decide +kernel
theorem dX6_low_57 : decode cX6_low 57 = .ok (.iload 4, 2) := by decide +kernel
theorem dX6_low_59 : decode cX6_low 59 = .ok (.invokevirtual 114, 3) := by decide +kernel
theorem dX6_low_62 : decode cX6_low 62 = .ok (.ifCond .ne 35, 3) := by decide +kernel
theorem dX6_low_65 : decode cX6_low 65 = .ok (.aload_n 0, 1) := by decide +kernel
theorem dX6_low_66 : decode cX6_low 66 = .ok (.iload_n 1, 1) := by decide +kernel
theorem dX6_low_67 : decode cX6_low 67 = .ok (.iload_n 2, 1) := by decide +kernel
theorem dX6_low_68 : decode cX6_low 68 = .ok (.aload_n 0, 1) := by decide +kernel
theorem dX6_low_69 : decode cX6_low 69 = .ok (.getfield 31, 3) := by decide +kernel
theorem dX6_low_72 : decode cX6_low 72 = .ok (.iload 4, 2) := by decide +kernel
theorem dX6_low_74 : decode cX6_low 74 = .ok (.iaload, 1) := by decide +kernel
theorem dX6_low_75 : decode cX6_low 75 = .ok (.iconst 0, 1) := by decide +kernel
theorem dX6_low_76 : decode cX6_low 76 = .ok (.invokevirtual 107, 3) := by decide +kernel
theorem dX6_low_79 : decode cX6_low 79 = .ok (.bipush 7, 2) := by decide +kernel
theorem dX6_low_81 : decode cX6_low 81 = .ok (.isub, 1) := by decide +kernel
theorem dX6_low_82 : decode cX6_low 82 = .ok (.istore 6, 2) := by decide +kernel
theorem dX6_low_84 : decode cX6_low 84 = .ok (.iload 6, 2) := by decide +kernel
theorem dX6_low_86 : decode cX6_low 86 = .ok (.iload_n 3, 1) := by decide +kernel
theorem dX6_low_87 : decode cX6_low 87 = .ok (.if_icmp .ge 8, 3) := by decide +kernel
theorem dX6_low_90 : decode cX6_low 90 = .ok (.iload 6, 2) := by decide +kernel
theorem dX6_low_92 : decode cX6_low 92 = .ok (.goto 4, 3) := by decide +kernel
theorem dX6_low_95 : decode cX6_low 95 = .ok (.iload_n 3, 1) := by decide +kernel
theorem dX6_low_96 : decode cX6_low 96 = .ok (.istore_n 3, 1) := by decide +kernel
theorem dX6_low_97 : decode cX6_low 97 = .ok (.iinc 4 1, 3) := by decide +kernel
theorem dX6_low_100 : decode cX6_low 100 = .ok (.goto (-95), 3) := by decide +kernel
theorem dX6_low_103 : decode cX6_low 103 = .ok (.iload_n 3, 1) := by decide +kernel
theorem dX6_low_104 : decode cX6_low 104 = .ok (.ireturn, 1) := by decide +kernel
set_option maxRecDepth 20000 in
theorem ggX6_at_X6_isStaff : GoodIn wsX6_at wsX6_isStaff := goodIn_r _ [7, 8, 9, 6, 10] (by decide +kernel) (by decide +kernel)
set_option maxRecDepth 20000 in
theorem gX6_at_X6_isStaff : GoodIn wsX6_at (va_wsS RX6 79 yX6_isStaff wsX6_isStaff) := goodIn_app (goodIn_of _ (by decide +kernel)) ggX6_at_X6_isStaff
set_option maxRecDepth 20000 in
theorem ggX6_at_X6_in : GoodIn wsX6_at wsX6_in := goodIn_r _ [10] (by decide +kernel) (by decide +kernel)
set_option maxRecDepth 20000 in
theorem gX6_at_X6_in : GoodIn wsX6_at (va_wsS RX6 72 yX6_in wsX6_in) := goodIn_app (goodIn_of _ (by decide +kernel)) ggX6_at_X6_in
set_option maxRecDepth 20000 in
theorem ggX6_at_X6_many : GoodIn wsX6_at wsX6_many := goodIn_r _ [14, 2, 15, 16, 17, 6, 18, 19, 20, 21, 22, 23, 24, 25, 77, 78, 79, 80, 81, 82, 83, 84, 85, 86, 87, 88, 89, 90, 91, 92, 93, 94, 95, 96, 97, 98, 99] (by decide +kernel) (by decide +kernel)
set_option maxRecDepth 20000 in
theorem gX6_at_X6_many : GoodIn wsX6_at (wsV RX6 103 RX6 yX6_many wsX6_many) := goodIn_app (goodIn_of _ (by decide +kernel)) ggX6_at_X6_many
set_option maxRecDepth 20000 in
theorem ggX6_at_X6_reckon : GoodIn wsX6_at wsX6_reckon := goodIn_r _ [29, 2, 30, 31, 32, 33, 6, 34, 24, 35, 36, 37, 25, 38, 39, 40, 41, 42, 8, 9, 10, 77, 78, 79, 80, 81, 82, 83, 84, 85, 86, 87, 88, 89, 90, 91, 92, 93, 94, 95, 96, 97, 98, 99] (by decide +kernel) (by decide +kernel)
set_option maxRecDepth 20000 in
theorem gX6_at_X6_reckon : GoodIn wsX6_at (wsV RX6 134 RX6 yX6_reckon wsX6_reckon) := goodIn_app (goodIn_of _ (by decide +kernel)) ggX6_at_X6_reckon
set_option maxRecDepth 20000 in
theorem ggX6_at_X6_placeSigns : GoodIn wsX6_at wsX6_placeSigns := goodIn_r _ [46, 2, 3, 47, 20, 21, 22, 6, 23, 24, 25, 48, 49, 50, 51, 30, 52, 53, 54, 55, 77, 78, 79, 80, 81, 82, 83, 84, 85, 86, 87, 88, 89, 90, 91, 92, 93, 94, 95, 96, 97, 98, 99] (by decide +kernel) (by decide +kernel)
set_option maxRecDepth 20000 in
theorem gX6_at_X6_placeSigns : GoodIn wsX6_at (wsV RX6 141 RX6 yX6_placeSigns wsX6_placeSigns) := goodIn_app (goodIn_of _ (by decide +kernel)) ggX6_at_X6_placeSigns
set_option maxRecDepth 20000 in
theorem ggX6_at_X6_high : GoodIn wsX6_at wsX6_high := goodIn_r _ [59, 2, 60, 19, 20, 21, 22, 6, 23, 24, 25, 48, 49, 50, 51, 30, 61, 62, 63, 64, 65, 66, 67, 68, 11, 12, 13, 14, 15, 16, 17, 18, 69, 70, 71, 72, 77, 78, 79, 80, 81, 82, 83, 84, 85, 86, 87, 88, 89, 90, 91, 92, 93, 94, 95, 96, 97, 98, 99] (by decide +kernel) (by decide +kernel)
set_option maxRecDepth 20000 in
theorem gX6_at_X6_high : GoodIn wsX6_at (wsV RX6 144 RX6 yX6_high wsX6_high) := goodIn_app (goodIn_of _ (by decide +kernel)) ggX6_at_X6_high
set_option maxRecDepth 20000 in
theorem ggX6_at_X6_low : GoodIn wsX6_at wsX6_low := goodIn_r _ [76, 2, 60, 19, 20, 21, 22, 6, 23, 24, 25, 48, 49, 50, 51, 30, 61, 62, 63, 64, 65, 66, 67, 68, 11, 12, 13, 14, 15, 16, 17, 18, 69, 70, 71, 72, 77, 78, 79, 80, 81, 82, 83, 84, 85, 86, 87, 88, 89, 90, 91, 92, 93, 94, 95, 96, 97, 98, 99] (by decide +kernel) (by decide +kernel)
set_option maxRecDepth 20000 in
theorem gX6_at_X6_low : GoodIn wsX6_at (wsV RX6 148 RX6 yX6_low wsX6_low) := goodIn_app (goodIn_of _ (by decide +kernel)) ggX6_at_X6_low
theorem dX6_at_0 : decode cX6_at 0 = .ok (.aload_n 0, 1) := by decide +kernel
theorem dX6_at_1 : decode cX6_at 1 = .ok (.iconst 0, 1) := by decide +kernel
theorem dX6_at_2 : decode cX6_at 2 = .ok (.putfield 69, 3) := by decide +kernel
theorem dX6_at_5 : decode cX6_at 5 = .ok (.iload_n 1, 1) := by decide +kernel
theorem dX6_at_6 : decode cX6_at 6 = .ok (.invokestatic 79, 3) := by decide +kernel
theorem dX6_at_9 : decode cX6_at 9 = .ok (.ifCond .ne 7, 3) := by decide +kernel
theorem dX6_at_12 : decode cX6_at 12 = .ok (.sipush (-1001), 3) := by decide +kernel
theorem dX6_at_15 : decode cX6_at 15 = .ok (.ireturn, 1) := by decide +kernel
theorem dX6_at_16 : decode cX6_at 16 = .ok (.iload_n 2, 1) := by decide +kernel
theorem dX6_at_17 : decode cX6_at 17 = .ok (.iconst 0, 1) := by decide +kernel
theorem dX6_at_18 : decode cX6_at 18 = .ok (.bipush 99, 2) := by decide +kernel
theorem dX6_at_20 : decode cX6_at 20 = .ok (.invokestatic 72, 3) := by decide +kernel
theorem dX6_at_23 : decode cX6_at 23 = .ok (.ifCond .eq 12, 3) := by decide +kernel
theorem dX6_at_26 : decode cX6_at 26 = .ok (.iload_n 3, 1) := by decide +kernel
theorem dX6_at_27 : decode cX6_at 27 = .ok (.iconst 0, 1) := by decide +kernel
theorem dX6_at_28 : decode cX6_at 28 = .ok (.iconst 4, 1) := by decide +kernel
theorem dX6_at_29 : decode cX6_at 29 = .ok (.invokestatic 72, 3) := by decide +kernel
theorem dX6_at_32 : decode cX6_at 32 = .ok (.ifCond .ne 7, 3) := by decide +kernel
theorem dX6_at_35 : decode cX6_at 35 = .ok (.sipush (-1002), 3) := by decide +kernel
theorem dX6_at_38 : decode cX6_at 38 = .ok (.ireturn, 1) := by decide +kernel
theorem dX6_at_39 : decode cX6_at 39 = .ok (.iconst 0, 1) := by decide +kernel
theorem dX6_at_40 : decode cX6_at 40 = .ok (.istore 4, 2) := by decide +kernel
theorem dX6_at_42 : decode cX6_at 42 = .ok (.iconst 0, 1) := by decide +kernel
theorem dX6_at_43 : decode cX6_at 43 = .ok (.istore 5, 2) := by decide +kernel
theorem dX6_at_45 : decode cX6_at 45 = .ok (.iconst 0, 1) := by decide +kernel
theorem dX6_at_46 : decode cX6_at 46 = .ok (.istore 6, 2) := by decide +kernel
theorem dX6_at_48 : decode cX6_at 48 = .ok (.iload 6, 2) := by decide +kernel
theorem dX6_at_50 : decode cX6_at 50 = .ok (.iconst 3, 1) := by decide +kernel
theorem dX6_at_51 : decode cX6_at 51 = .ok (.if_icmp .ge 41, 3) := by decide +kernel
theorem dX6_at_54 : decode cX6_at 54 = .ok (.aload_n 0, 1) := by decide +kernel
theorem dX6_at_55 : decode cX6_at 55 = .ok (.iload_n 1, 1) := by decide +kernel
theorem dX6_at_56 : decode cX6_at 56 = .ok (.iload_n 2, 1) := by decide +kernel
theorem dX6_at_57 : decode cX6_at 57 = .ok (.iload 6, 2) := by decide +kernel
theorem dX6_at_59 : decode cX6_at 59 = .ok (.invokevirtual 103, 3) := by decide +kernel
theorem dX6_at_62 : decode cX6_at 62 = .ok (.istore 7, 2) := by decide +kernel
theorem dX6_at_64 : decode cX6_at 64 = .ok (.iload 4, 2) := by decide +kernel
theorem dX6_at_66 : decode cX6_at 66 = .ok (.iload 7, 2) := by decide +kernel
theorem dX6_at_68 : decode cX6_at 68 = .ok (.iadd, 1) := by decide +kernel
theorem dX6_at_69 : decode cX6_at 69 = .ok (.istore 4, 2) := by decide +kernel
theorem dX6_at_71 : decode cX6_at 71 = .ok (.iload 5, 2) := by decide +kernel
theorem dX6_at_73 : decode cX6_at 73 = .ok (.iload 7, 2) := by decide +kernel
theorem dX6_at_75 : decode cX6_at 75 = .ok (.ifCond .le 7, 3) := by decide +kernel
theorem dX6_at_78 : decode cX6_at 78 = .ok (.iconst 1, 1) := by decide +kernel
theorem dX6_at_79 : decode cX6_at 79 = .ok (.goto 4, 3) := by decide +kernel
theorem dX6_at_82 : decode cX6_at 82 = .ok (.iconst 0, 1) := by decide +kernel
theorem dX6_at_83 : decode cX6_at 83 = .ok (.iadd, 1) := by decide +kernel
theorem dX6_at_84 : decode cX6_at 84 = .ok (.istore 5, 2) := by decide +kernel
theorem dX6_at_86 : decode cX6_at 86 = .ok (.iinc 6 1, 3) := by decide +kernel
theorem dX6_at_89 : decode cX6_at 89 = .ok (.goto (-41), 3) := by decide +kernel
theorem dX6_at_92 : decode cX6_at 92 = .ok (.iconst 0, 1) := by decide +kernel
theorem dX6_at_93 : decode cX6_at 93 = .ok (.istore 6, 2) := by decide +kernel
theorem dX6_at_95 : decode cX6_at 95 = .ok (.aload_n 0, 1) := by decide +kernel
theorem dX6_at_96 : decode cX6_at 96 = .ok (.invokevirtual 134, 3) := by decide +kernel
theorem dX6_at_99 : decode cX6_at 99 = .ok (.aload_n 0, 1) := by decide +kernel
theorem dX6_at_100 : decode cX6_at 100 = .ok (.iload_n 1, 1) := by decide +kernel
theorem dX6_at_101 : decode cX6_at 101 = .ok (.iload_n 2, 1) := by decide +kernel
theorem dX6_at_102 : decode cX6_at 102 = .ok (.invokevirtual 141, 3) := by decide +kernel
theorem dX6_at_105 : decode cX6_at 105 = .ok (.iconst 0, 1) := by decide +kernel
theorem dX6_at_106 : decode cX6_at 106 = .ok (.istore 7, 2) := by decide +kernel
theorem dX6_at_108 : decode cX6_at 108 = .ok (.iload 7, 2) := by decide +kernel
theorem dX6_at_110 : decode cX6_at 110 = .ok (.aload_n 0, 1) := by decide +kernel
theorem dX6_at_111 : decode cX6_at 111 = .ok (.getfield 76, 3) := by decide +kernel
theorem dX6_at_114 : decode cX6_at 114 = .ok (.if_icmp .ge 35, 3) := by decide +kernel
theorem dX6_at_117 : decode cX6_at 117 = .ok (.aload_n 0, 1) := by decide +kernel
theorem dX6_at_118 : decode cX6_at 118 = .ok (.getfield 62, 3) := by decide +kernel
theorem dX6_at_121 : decode cX6_at 121 = .ok (.iload 7, 2) := by decide +kernel
theorem dX6_at_123 : decode cX6_at 123 = .ok (.iaload, 1) := by decide +kernel
theorem dX6_at_124 : decode cX6_at 124 = .ok (.iload 6, 2) := by decide +kernel
theorem dX6_at_126 : decode cX6_at 126 = .ok (.if_icmp .le 13, 3) := by decide +kernel
theorem dX6_at_129 : decode cX6_at 129 = .ok (.aload_n 0, 1) := by decide +kernel
theorem dX6_at_130 : decode cX6_at 130 = .ok (.getfield 62, 3) := by decide +kernel
theorem dX6_at_133 : decode cX6_at 133 = .ok (.iload 7, 2) := by decide +kernel
theorem dX6_at_135 : decode cX6_at 135 = .ok (.iaload, 1) := by decide +kernel
theorem dX6_at_136 : decode cX6_at 136 = .ok (.goto 5, 3) := by decide +kernel
theorem dX6_at_139 : decode cX6_at 139 = .ok (.iload 6, 2) := by decide +kernel
theorem dX6_at_141 : decode cX6_at 141 = .ok (.istore 6, 2) := by decide +kernel
theorem dX6_at_143 : decode cX6_at 143 = .ok (.iinc 7 1, 3) := by decide +kernel
theorem dX6_at_146 : decode cX6_at 146 = .ok (.goto (-38), 3) := by decide +kernel
theorem dX6_at_149 : decode cX6_at 149 = .ok (.iload_n 3, 1) := by decide +kernel
theorem dX6_at_150 : decode cX6_at 150 = .ok (.ifCond .ne 12, 3) := by decide +kernel
theorem dX6_at_153 : decode cX6_at 153 = .ok (.aload_n 0, 1) := by decide +kernel
theorem dX6_at_154 : decode cX6_at 154 = .ok (.iload_n 1, 1) := by decide +kernel
theorem dX6_at_155 : decode cX6_at 155 = .ok (.iload_n 2, 1) := by decide +kernel
theorem dX6_at_156 : decode cX6_at 156 = .ok (.invokevirtual 144, 3) := by decide +kernel
theorem dX6_at_159 : decode cX6_at 159 = .ok (.goto 39, 3) := by decide +kernel
theorem dX6_at_162 : decode cX6_at 162 = .ok (.iload_n 3, 1) := by decide +kernel
theorem dX6_at_163 : decode cX6_at 163 = .ok (.iconst 1, 1) := by decide +kernel
theorem dX6_at_164 : decode cX6_at 164 = .ok (.if_icmp .ne 12, 3) := by decide +kernel
theorem dX6_at_167 : decode cX6_at 167 = .ok (.aload_n 0, 1) := by decide +kernel
theorem dX6_at_168 : decode cX6_at 168 = .ok (.iload_n 1, 1) := by decide +kernel
theorem dX6_at_169 : decode cX6_at 169 = .ok (.iload_n 2, 1) := by decide +kernel
theorem dX6_at_170 : decode cX6_at 170 = .ok (.invokevirtual 148, 3) := by decide +kernel
theorem dX6_at_173 : decode cX6_at 173 = .ok (.goto 25, 3) := by decide +kernel
theorem dX6_at_176 : decode cX6_at 176 = .ok (.iload_n 3, 1) := by decide +kernel
theorem dX6_at_177 : decode cX6_at 177 = .ok (.iconst 2, 1) := by decide +kernel
theorem dX6_at_178 : decode cX6_at 178 = .ok (.if_icmp .ne 8, 3) := by decide +kernel
theorem dX6_at_181 : decode cX6_at 181 = .ok (.iload 4, 2) := by decide +kernel
theorem dX6_at_183 : decode cX6_at 183 = .ok (.goto 15, 3) := by decide +kernel
theorem dX6_at_186 : decode cX6_at 186 = .ok (.iload_n 3, 1) := by decide +kernel
theorem dX6_at_187 : decode cX6_at 187 = .ok (.iconst 3, 1) := by decide +kernel
theorem dX6_at_188 : decode cX6_at 188 = .ok (.if_icmp .ne 8, 3) := by decide +kernel
theorem dX6_at_191 : decode cX6_at 191 = .ok (.iload 5, 2) := by decide +kernel
theorem dX6_at_193 : decode cX6_at 193 = .ok (.goto 5, 3) := by decide +kernel
theorem dX6_at_196 : decode cX6_at 196 = .ok (.iload 6, 2) := by decide +kernel
theorem dX6_at_198 : decode cX6_at 198 = .ok (.ireturn, 1) := by decide +kernel
set_option maxRecDepth 20000 in
theorem ggX6_shared_X6_reckon : GoodIn wsX6_shared wsX6_reckon := goodIn_r _ [6, 7, 8, 9, 10, 11, 5, 12, 13, 14, 15, 16, 17, 18, 19, 20, 21, 22, 23, 24, 25, 65, 66, 67, 68, 69, 70, 71, 72, 73, 74, 75, 76, 77, 78, 79, 80, 81, 82, 83, 84, 85, 86, 87] (by decide +kernel) (by decide +kernel)
set_option maxRecDepth 20000 in
theorem gX6_shared_X6_reckon : GoodIn wsX6_shared (wsV RX6 134 RX6 yX6_reckon wsX6_reckon) := goodIn_app (goodIn_of _ (by decide +kernel)) ggX6_shared_X6_reckon
set_option maxRecDepth 20000 in
theorem ggX6_shared_X6_isNote : GoodIn wsX6_shared wsX6_isNote := goodIn_r _ [29, 7, 23, 24, 5, 25, 65, 66, 67, 68, 69, 70, 71, 72, 73, 74, 75, 76, 77, 78, 79, 80, 81, 82, 83, 84, 85, 86, 87] (by decide +kernel) (by decide +kernel)
set_option maxRecDepth 20000 in
theorem gX6_shared_X6_isNote : GoodIn wsX6_shared (wsV RX6 86 RX6 yX6_isNote wsX6_isNote) := goodIn_app (goodIn_of _ (by decide +kernel)) ggX6_shared_X6_isNote
set_option maxRecDepth 20000 in
theorem ggX6_shared_X6_areShared : GoodIn wsX6_shared wsX6_areShared := goodIn_r _ [33, 13, 17, 34, 35, 36, 37, 38, 5, 39, 40, 41, 42, 43, 8, 44, 45, 46, 47, 48, 49, 50, 51, 52, 53, 54, 55, 56, 7, 57, 58, 59, 60, 61, 62, 63, 64, 65, 66, 67, 68, 69, 70, 71, 72, 73, 74, 75, 76, 77, 78, 79, 80, 81, 82, 83, 84, 85, 86, 87] (by decide +kernel) (by decide +kernel)
set_option maxRecDepth 20000 in
theorem gX6_shared_X6_areShared : GoodIn wsX6_shared (wsV RX6 127 RX6 yX6_areShared wsX6_areShared) := goodIn_app (goodIn_of _ (by decide +kernel)) ggX6_shared_X6_areShared
theorem dX6_shared_0 : decode cX6_shared 0 = .ok (.aload_n 0, 1) := by decide +kernel
theorem dX6_shared_1 : decode cX6_shared 1 = .ok (.iconst 0, 1) := by decide +kernel
theorem dX6_shared_2 : decode cX6_shared 2 = .ok (.putfield 69, 3) := by decide +kernel
theorem dX6_shared_5 : decode cX6_shared 5 = .ok (.aload_n 0, 1) := by decide +kernel
theorem dX6_shared_6 : decode cX6_shared 6 = .ok (.invokevirtual 134, 3) := by decide +kernel
theorem dX6_shared_9 : decode cX6_shared 9 = .ok (.aload_n 0, 1) := by decide +kernel
theorem dX6_shared_10 : decode cX6_shared 10 = .ok (.iload_n 1, 1) := by decide +kernel
theorem dX6_shared_11 : decode cX6_shared 11 = .ok (.invokevirtual 86, 3) := by decide +kernel
theorem dX6_shared_14 : decode cX6_shared 14 = .ok (.ifCond .eq 11, 3) := by decide +kernel
theorem dX6_shared_17 : decode cX6_shared 17 = .ok (.aload_n 0, 1) := by decide +kernel
theorem dX6_shared_18 : decode cX6_shared 18 = .ok (.iload_n 2, 1) := by decide +kernel
theorem dX6_shared_19 : decode cX6_shared 19 = .ok (.invokevirtual 86, 3) := by decide +kernel
theorem dX6_shared_22 : decode cX6_shared 22 = .ok (.ifCond .ne 9, 3) := by decide +kernel
theorem dX6_shared_25 : decode cX6_shared 25 = .ok (.sipush (-1001), 3) := by decide +kernel
theorem dX6_shared_28 : decode cX6_shared 28 = .ok (.goto 17, 3) := by decide +kernel
theorem dX6_shared_31 : decode cX6_shared 31 = .ok (.aload_n 0, 1) := by decide +kernel
theorem dX6_shared_32 : decode cX6_shared 32 = .ok (.iload_n 1, 1) := by decide +kernel
theorem dX6_shared_33 : decode cX6_shared 33 = .ok (.iload_n 2, 1) := by decide +kernel
theorem dX6_shared_34 : decode cX6_shared 34 = .ok (.invokevirtual 127, 3) := by decide +kernel
theorem dX6_shared_37 : decode cX6_shared 37 = .ok (.ifCond .eq 7, 3) := by decide +kernel
theorem dX6_shared_40 : decode cX6_shared 40 = .ok (.iconst 1, 1) := by decide +kernel
theorem dX6_shared_41 : decode cX6_shared 41 = .ok (.goto 4, 3) := by decide +kernel
theorem dX6_shared_44 : decode cX6_shared 44 = .ok (.iconst 0, 1) := by decide +kernel
theorem dX6_shared_45 : decode cX6_shared 45 = .ok (.ireturn, 1) := by decide +kernel
set_option maxRecDepth 20000 in
theorem ggX6_setting_X6_in : GoodIn wsX6_setting wsX6_in := goodIn_r _ [7] (by decide +kernel) (by decide +kernel)
set_option maxRecDepth 20000 in
theorem gX6_setting_X6_in : GoodIn wsX6_setting (va_wsS RX6 72 yX6_in wsX6_in) := goodIn_app (goodIn_of _ (by decide +kernel)) ggX6_setting_X6_in
theorem dX6_setting_0 : decode cX6_setting 0 = .ok (.aload_n 0, 1) := by decide +kernel
theorem dX6_setting_1 : decode cX6_setting 1 = .ok (.iconst 0, 1) := by decide +kernel
theorem dX6_setting_2 : decode cX6_setting 2 = .ok (.putfield 69, 3) := by decide +kernel
theorem dX6_setting_5 : decode cX6_setting 5 = .ok (.iload_n 1, 1) := by decide +kernel
theorem dX6_setting_6 : decode cX6_setting 6 = .ok (.iconst 0, 1) := by decide +kernel
theorem dX6_setting_7 : decode cX6_setting 7 = .ok (.iconst 1, 1) := by decide +kernel
theorem dX6_setting_8 : decode cX6_setting 8 = .ok (.invokestatic 72, 3) := by decide +kernel
theorem dX6_setting_11 : decode cX6_setting 11 = .ok (.ifCond .eq 13, 3) := by decide +kernel
theorem dX6_setting_14 : decode cX6_setting 14 = .ok (.iload_n 2, 1) := by decide +kernel
theorem dX6_setting_15 : decode cX6_setting 15 = .ok (.iconst 0, 1) := by decide +kernel
theorem dX6_setting_16 : decode cX6_setting 16 = .ok (.bipush 100, 2) := by decide +kernel
theorem dX6_setting_18 : decode cX6_setting 18 = .ok (.invokestatic 72, 3) := by decide +kernel
theorem dX6_setting_21 : decode cX6_setting 21 = .ok (.ifCond .ne 7, 3) := by decide +kernel
theorem dX6_setting_24 : decode cX6_setting 24 = .ok (.sipush (-1002), 3) := by decide +kernel
theorem dX6_setting_27 : decode cX6_setting 27 = .ok (.ireturn, 1) := by decide +kernel
theorem dX6_setting_28 : decode cX6_setting 28 = .ok (.iload_n 1, 1) := by decide +kernel
theorem dX6_setting_29 : decode cX6_setting 29 = .ok (.ifCond .ne 10, 3) := by decide +kernel
theorem dX6_setting_32 : decode cX6_setting 32 = .ok (.aload_n 0, 1) := by decide +kernel
theorem dX6_setting_33 : decode cX6_setting 33 = .ok (.getfield 46, 3) := by decide +kernel
theorem dX6_setting_36 : decode cX6_setting 36 = .ok (.goto 7, 3) := by decide +kernel
theorem dX6_setting_39 : decode cX6_setting 39 = .ok (.aload_n 0, 1) := by decide +kernel
theorem dX6_setting_40 : decode cX6_setting 40 = .ok (.getfield 50, 3) := by decide +kernel
theorem dX6_setting_43 : decode cX6_setting 43 = .ok (.istore_n 3, 1) := by decide +kernel
theorem dX6_setting_44 : decode cX6_setting 44 = .ok (.aload_n 0, 1) := by decide +kernel
theorem dX6_setting_45 : decode cX6_setting 45 = .ok (.iload_n 1, 1) := by decide +kernel
theorem dX6_setting_46 : decode cX6_setting 46 = .ok (.ifCond .ne 7, 3) := by decide +kernel
theorem dX6_setting_49 : decode cX6_setting 49 = .ok (.iload_n 2, 1) := by decide +kernel
theorem dX6_setting_50 : decode cX6_setting 50 = .ok (.goto 7, 3) := by decide +kernel
theorem dX6_setting_53 : decode cX6_setting 53 = .ok (.aload_n 0, 1) := by decide +kernel
theorem dX6_setting_54 : decode cX6_setting 54 = .ok (.getfield 46, 3) := by decide +kernel
theorem dX6_setting_57 : decode cX6_setting 57 = .ok (.putfield 46, 3) := by decide +kernel
theorem dX6_setting_60 : decode cX6_setting 60 = .ok (.aload_n 0, 1) := by decide +kernel
theorem dX6_setting_61 : decode cX6_setting 61 = .ok (.iload_n 1, 1) := by decide +kernel
theorem dX6_setting_62 : decode cX6_setting 62 = .ok (.iconst 1, 1) := by decide +kernel
theorem dX6_setting_63 : decode cX6_setting 63 = .ok (.if_icmp .ne 7, 3) := by decide +kernel
theorem dX6_setting_66 : decode cX6_setting 66 = .ok (.iload_n 2, 1) := by decide +kernel
theorem dX6_setting_67 : decode cX6_setting 67 = .ok (.goto 7, 3) := by decide +kernel
theorem dX6_setting_70 : decode cX6_setting 70 = .ok (.aload_n 0, 1) := by decide +kernel
theorem dX6_setting_71 : decode cX6_setting 71 = .ok (.getfield 50, 3) := by decide +kernel
theorem dX6_setting_74 : decode cX6_setting 74 = .ok (.putfield 50, 3) := by decide +kernel
theorem dX6_setting_77 : decode cX6_setting 77 = .ok (.iload_n 3, 1) := by decide +kernel
theorem dX6_setting_78 : decode cX6_setting 78 = .ok (.ireturn, 1) := by decide +kernel
theorem dX6_hides_0 : decode cX6_hides 0 = .ok (.aload_n 0, 1) := by decide +kernel
theorem dX6_hides_1 : decode cX6_hides 1 = .ok (.iconst 0, 1) := by decide +kernel
theorem dX6_hides_2 : decode cX6_hides 2 = .ok (.putfield 69, 3) := by decide +kernel
theorem dX6_hides_5 : decode cX6_hides 5 = .ok (.aload_n 0, 1) := by decide +kernel
theorem dX6_hides_6 : decode cX6_hides 6 = .ok (.getfield 151, 3) := by decide +kernel
theorem dX6_hides_9 : decode cX6_hides 9 = .ok (.ifCond .eq 7, 3) := by decide +kernel
theorem dX6_hides_12 : decode cX6_hides 12 = .ok (.iconst 1, 1) := by decide +kernel
theorem dX6_hides_13 : decode cX6_hides 13 = .ok (.goto 4, 3) := by decide +kernel
theorem dX6_hides_16 : decode cX6_hides 16 = .ok (.iconst 0, 1) := by decide +kernel
theorem dX6_hides_17 : decode cX6_hides 17 = .ok (.istore_n 2, 1) := by decide +kernel
theorem dX6_hides_18 : decode cX6_hides 18 = .ok (.aload_n 0, 1) := by decide +kernel
theorem dX6_hides_19 : decode cX6_hides 19 = .ok (.iload_n 1, 1) := by decide +kernel
theorem dX6_hides_20 : decode cX6_hides 20 = .ok (.putfield 151, 3) := by decide +kernel
theorem dX6_hides_23 : decode cX6_hides 23 = .ok (.iload_n 2, 1) := by decide +kernel
theorem dX6_hides_24 : decode cX6_hides 24 = .ok (.ireturn, 1) := by decide +kernel
theorem dX6_isHidden_0 : decode cX6_isHidden 0 = .ok (.aload_n 0, 1) := by decide +kernel
theorem dX6_isHidden_1 : decode cX6_isHidden 1 = .ok (.getfield 151, 3) := by decide +kernel
theorem dX6_isHidden_4 : decode cX6_isHidden 4 = .ok (.ifCond .eq 11, 3) := by decide +kernel
theorem dX6_isHidden_7 : decode cX6_isHidden 7 = .ok (.iload_n 1, 1) := by decide +kernel
theorem dX6_isHidden_8 : decode cX6_isHidden 8 = .ok (.ifCond .le 7, 3) := by decide +kernel
theorem dX6_isHidden_11 : decode cX6_isHidden 11 = .ok (.iconst 1, 1) := by decide +kernel
theorem dX6_isHidden_12 : decode cX6_isHidden 12 = .ok (.goto 4, 3) := by decide +kernel
theorem dX6_isHidden_15 : decode cX6_isHidden 15 = .ok (.iconst 0, 1) := by decide +kernel
theorem dX6_isHidden_16 : decode cX6_isHidden 16 = .ok (.istore_n 2, 1) := by decide +kernel
theorem dX6_isHidden_17 : decode cX6_isHidden 17 = .ok (.iconst 0, 1) := by decide +kernel
theorem dX6_isHidden_18 : decode cX6_isHidden 18 = .ok (.istore_n 3, 1) := by decide +kernel
theorem dX6_isHidden_19 : decode cX6_isHidden 19 = .ok (.iload_n 3, 1) := by decide +kernel
theorem dX6_isHidden_20 : decode cX6_isHidden 20 = .ok (.aload_n 0, 1) := by decide +kernel
theorem dX6_isHidden_21 : decode cX6_isHidden 21 = .ok (.getfield 76, 3) := by decide +kernel
theorem dX6_isHidden_24 : decode cX6_isHidden 24 = .ok (.if_icmp .ge 29, 3) := by decide +kernel
theorem dX6_isHidden_27 : decode cX6_isHidden 27 = .ok (.iload_n 2, 1) := by decide +kernel
theorem dX6_isHidden_28 : decode cX6_isHidden 28 = .ok (.ifCond .eq 17, 3) := by decide +kernel
theorem dX6_isHidden_31 : decode cX6_isHidden 31 = .ok (.aload_n 0, 1) := by decide +kernel
theorem dX6_isHidden_32 : decode cX6_isHidden 32 = .ok (.getfield 28, 3) := by decide +kernel
theorem dX6_isHidden_35 : decode cX6_isHidden 35 = .ok (.iload_n 3, 1) := by decide +kernel
theorem dX6_isHidden_36 : decode cX6_isHidden 36 = .ok (.iaload, 1) := by decide +kernel
theorem dX6_isHidden_37 : decode cX6_isHidden 37 = .ok (.iload_n 1, 1) := by decide +kernel
theorem dX6_isHidden_38 : decode cX6_isHidden 38 = .ok (.if_icmp .eq 7, 3) := by decide +kernel
theorem dX6_isHidden_41 : decode cX6_isHidden 41 = .ok (.iconst 1, 1) := by decide +kernel
theorem dX6_isHidden_42 : decode cX6_isHidden 42 = .ok (.goto 4, 3) := by decide +kernel
theorem dX6_isHidden_45 : decode cX6_isHidden 45 = .ok (.iconst 0, 1) := by decide +kernel
theorem dX6_isHidden_46 : decode cX6_isHidden 46 = .ok (.istore_n 2, 1) := by decide +kernel
theorem dX6_isHidden_47 : decode cX6_isHidden 47 = .ok (.iinc 3 1, 3) := by decide +kernel
theorem dX6_isHidden_50 : decode cX6_isHidden 50 = .ok (.goto (-31), 3) := by decide +kernel
theorem dX6_isHidden_53 : decode cX6_isHidden 53 = .ok (.iload_n 2, 1) := by decide +kernel
theorem dX6_isHidden_54 : decode cX6_isHidden 54 = .ok (.ireturn, 1) := by decide +kernel
set_option maxRecDepth 20000 in
theorem ggX6_gapAbove_X6_isHidden : GoodIn wsX6_gapAbove wsX6_isHidden := goodIn_r _ [10, 11, 3, 4, 55, 56, 57, 58, 59, 60, 61, 62, 63, 64, 65, 66, 67, 68, 69, 70, 71, 72, 73, 74, 75, 76, 77] (by decide +kernel) (by decide +kernel)
set_option maxRecDepth 20000 in
theorem gX6_gapAbove_X6_isHidden : GoodIn wsX6_gapAbove (wsV RX6 155 RX6 yX6_isHidden wsX6_isHidden) := goodIn_app (goodIn_of _ (by decide +kernel)) ggX6_gapAbove_X6_isHidden
set_option maxRecDepth 20000 in
theorem ggX6_gapAbove_X6_isFirstAt : GoodIn wsX6_gapAbove wsX6_isFirstAt := goodIn_r _ [15, 5, 4, 55, 56, 57, 58, 59, 60, 61, 62, 63, 64, 65, 66, 67, 68, 69, 70, 71, 72, 73, 74, 75, 76, 77] (by decide +kernel) (by decide +kernel)
set_option maxRecDepth 20000 in
theorem gX6_gapAbove_X6_isFirstAt : GoodIn wsX6_gapAbove (wsV RX6 158 RX6 yX6_isFirstAt wsX6_isFirstAt) := goodIn_app (goodIn_of _ (by decide +kernel)) ggX6_gapAbove_X6_isFirstAt
set_option maxRecDepth 20000 in
theorem ggX6_gapAbove_X6_high : GoodIn wsX6_gapAbove wsX6_high := goodIn_r _ [19, 3, 20, 21, 22, 23, 24, 9, 25, 4, 5, 26, 27, 28, 29, 30, 31, 32, 33, 34, 35, 36, 37, 38, 39, 40, 41, 42, 43, 44, 45, 46, 47, 48, 49, 50, 55, 56, 57, 58, 59, 60, 61, 62, 63, 64, 65, 66, 67, 68, 69, 70, 71, 72, 73, 74, 75, 76, 77] (by decide +kernel) (by decide +kernel)
set_option maxRecDepth 20000 in
theorem gX6_gapAbove_X6_high : GoodIn wsX6_gapAbove (wsV RX6 144 RX6 yX6_high wsX6_high) := goodIn_app (goodIn_of _ (by decide +kernel)) ggX6_gapAbove_X6_high
set_option maxRecDepth 20000 in
theorem ggX6_gapAbove_X6_low : GoodIn wsX6_gapAbove wsX6_low := goodIn_r _ [54, 3, 20, 21, 22, 23, 24, 9, 25, 4, 5, 26, 27, 28, 29, 30, 31, 32, 33, 34, 35, 36, 37, 38, 39, 40, 41, 42, 43, 44, 45, 46, 47, 48, 49, 50, 55, 56, 57, 58, 59, 60, 61, 62, 63, 64, 65, 66, 67, 68, 69, 70, 71, 72, 73, 74, 75, 76, 77] (by decide +kernel) (by decide +kernel)
set_option maxRecDepth 20000 in
theorem gX6_gapAbove_X6_low : GoodIn wsX6_gapAbove (wsV RX6 148 RX6 yX6_low wsX6_low) := goodIn_app (goodIn_of _ (by decide +kernel)) ggX6_gapAbove_X6_low
theorem dX6_gapAbove_0 : decode cX6_gapAbove 0 = .ok (.iload_n 1, 1) := by decide +kernel
theorem dX6_gapAbove_1 : decode cX6_gapAbove 1 = .ok (.iconst 1, 1) := by decide +kernel
theorem dX6_gapAbove_2 : decode cX6_gapAbove 2 = .ok (.isub, 1) := by decide +kernel
theorem dX6_gapAbove_3 : decode cX6_gapAbove 3 = .ok (.istore_n 2, 1) := by decide +kernel
theorem dX6_gapAbove_4 : decode cX6_gapAbove 4 = .ok (.aload_n 0, 1) := by decide +kernel
theorem dX6_gapAbove_5 : decode cX6_gapAbove 5 = .ok (.iload_n 2, 1) := by decide +kernel
theorem dX6_gapAbove_6 : decode cX6_gapAbove 6 = .ok (.invokevirtual 155, 3) := by decide +kernel
theorem dX6_gapAbove_9 : decode cX6_gapAbove 9 = .ok (.ifCond .eq 9, 3) := by decide +kernel
theorem dX6_gapAbove_12 : decode cX6_gapAbove 12 = .ok (.iinc 2 (-1), 3) := by decide +kernel
theorem dX6_gapAbove_15 : decode cX6_gapAbove 15 = .ok (.goto (-11), 3) := by decide +kernel
theorem dX6_gapAbove_18 : decode cX6_gapAbove 18 = .ok (.aload_n 0, 1) := by decide +kernel
theorem dX6_gapAbove_19 : decode cX6_gapAbove 19 = .ok (.getfield 50, 3) := by decide +kernel
theorem dX6_gapAbove_22 : decode cX6_gapAbove 22 = .ok (.aload_n 0, 1) := by decide +kernel
theorem dX6_gapAbove_23 : decode cX6_gapAbove 23 = .ok (.getfield 46, 3) := by decide +kernel
theorem dX6_gapAbove_26 : decode cX6_gapAbove 26 = .ok (.if_icmp .le 10, 3) := by decide +kernel
theorem dX6_gapAbove_29 : decode cX6_gapAbove 29 = .ok (.aload_n 0, 1) := by decide +kernel
theorem dX6_gapAbove_30 : decode cX6_gapAbove 30 = .ok (.getfield 50, 3) := by decide +kernel
theorem dX6_gapAbove_33 : decode cX6_gapAbove 33 = .ok (.goto 7, 3) := by decide +kernel
theorem dX6_gapAbove_36 : decode cX6_gapAbove 36 = .ok (.aload_n 0, 1) := by decide +kernel
theorem dX6_gapAbove_37 : decode cX6_gapAbove 37 = .ok (.getfield 46, 3) := by decide +kernel
theorem dX6_gapAbove_40 : decode cX6_gapAbove 40 = .ok (.istore_n 3, 1) := by decide +kernel
theorem dX6_gapAbove_41 : decode cX6_gapAbove 41 = .ok (.iconst 0, 1) := by decide +kernel
theorem dX6_gapAbove_42 : decode cX6_gapAbove 42 = .ok (.istore 4, 2) := by decide +kernel
theorem dX6_gapAbove_44 : decode cX6_gapAbove 44 = .ok (.iload 4, 2) := by decide +kernel
theorem dX6_gapAbove_46 : decode cX6_gapAbove 46 = .ok (.aload_n 0, 1) := by decide +kernel
theorem dX6_gapAbove_47 : decode cX6_gapAbove 47 = .ok (.getfield 76, 3) := by decide +kernel
theorem dX6_gapAbove_50 : decode cX6_gapAbove 50 = .ok (.if_icmp .ge 90, 3) := by decide +kernel
theorem dX6_gapAbove_53 : decode cX6_gapAbove 53 = .ok (.aload_n 0, 1) := by decide +kernel
theorem dX6_gapAbove_54 : decode cX6_gapAbove 54 = .ok (.getfield 28, 3) := by decide +kernel
theorem dX6_gapAbove_57 : decode cX6_gapAbove 57 = .ok (.iload 4, 2) := by decide +kernel
theorem dX6_gapAbove_59 : decode cX6_gapAbove 59 = .ok (.iaload, 1) := by decide +kernel
theorem dX6_gapAbove_60 : decode cX6_gapAbove 60 = .ok (.iload_n 1, 1) := by decide +kernel
theorem dX6_gapAbove_61 : decode cX6_gapAbove 61 = .ok (.if_icmp .eq 14, 3) := by decide +kernel
theorem dX6_gapAbove_64 : decode cX6_gapAbove 64 = .ok (.aload_n 0, 1) := by decide +kernel
theorem dX6_gapAbove_65 : decode cX6_gapAbove 65 = .ok (.getfield 28, 3) := by decide +kernel
theorem dX6_gapAbove_68 : decode cX6_gapAbove 68 = .ok (.iload 4, 2) := by decide +kernel
theorem dX6_gapAbove_70 : decode cX6_gapAbove 70 = .ok (.iaload, 1) := by decide +kernel
theorem dX6_gapAbove_71 : decode cX6_gapAbove 71 = .ok (.iload_n 2, 1) := by decide +kernel
theorem dX6_gapAbove_72 : decode cX6_gapAbove 72 = .ok (.if_icmp .ne 62, 3) := by decide +kernel
theorem dX6_gapAbove_75 : decode cX6_gapAbove 75 = .ok (.aload_n 0, 1) := by decide +kernel
theorem dX6_gapAbove_76 : decode cX6_gapAbove 76 = .ok (.iload 4, 2) := by decide +kernel
theorem dX6_gapAbove_78 : decode cX6_gapAbove 78 = .ok (.iload_n 1, 1) := by decide +kernel
theorem dX6_gapAbove_79 : decode cX6_gapAbove 79 = .ok (.iload_n 2, 1) := by decide +kernel
theorem dX6_gapAbove_80 : decode cX6_gapAbove 80 = .ok (.invokevirtual 158, 3) := by decide +kernel
theorem dX6_gapAbove_83 : decode cX6_gapAbove 83 = .ok (.ifCond .eq 51, 3) := by decide +kernel
theorem dX6_gapAbove_86 : decode cX6_gapAbove 86 = .ok (.aload_n 0, 1) := by decide +kernel
theorem dX6_gapAbove_87 : decode cX6_gapAbove 87 = .ok (.iload_n 1, 1) := by decide +kernel
theorem dX6_gapAbove_88 : decode cX6_gapAbove 88 = .ok (.aload_n 0, 1) := by decide +kernel
theorem dX6_gapAbove_89 : decode cX6_gapAbove 89 = .ok (.getfield 34, 3) := by decide +kernel
theorem dX6_gapAbove_92 : decode cX6_gapAbove 92 = .ok (.iload 4, 2) := by decide +kernel
theorem dX6_gapAbove_94 : decode cX6_gapAbove 94 = .ok (.iaload, 1) := by decide +kernel
theorem dX6_gapAbove_95 : decode cX6_gapAbove 95 = .ok (.invokevirtual 144, 3) := by decide +kernel
theorem dX6_gapAbove_98 : decode cX6_gapAbove 98 = .ok (.bipush 8, 2) := by decide +kernel
theorem dX6_gapAbove_100 : decode cX6_gapAbove 100 = .ok (.isub, 1) := by decide +kernel
theorem dX6_gapAbove_101 : decode cX6_gapAbove 101 = .ok (.aload_n 0, 1) := by decide +kernel
theorem dX6_gapAbove_102 : decode cX6_gapAbove 102 = .ok (.iload_n 2, 1) := by decide +kernel
theorem dX6_gapAbove_103 : decode cX6_gapAbove 103 = .ok (.aload_n 0, 1) := by decide +kernel
theorem dX6_gapAbove_104 : decode cX6_gapAbove 104 = .ok (.getfield 34, 3) := by decide +kernel
theorem dX6_gapAbove_107 : decode cX6_gapAbove 107 = .ok (.iload 4, 2) := by decide +kernel
theorem dX6_gapAbove_109 : decode cX6_gapAbove 109 = .ok (.iaload, 1) := by decide +kernel
theorem dX6_gapAbove_110 : decode cX6_gapAbove 110 = .ok (.invokevirtual 148, 3) := by decide +kernel
theorem dX6_gapAbove_113 : decode cX6_gapAbove 113 = .ok (.isub, 1) := by decide +kernel
theorem dX6_gapAbove_114 : decode cX6_gapAbove 114 = .ok (.aload_n 0, 1) := by decide +kernel
theorem dX6_gapAbove_115 : decode cX6_gapAbove 115 = .ok (.getfield 46, 3) := by decide +kernel
theorem dX6_gapAbove_118 : decode cX6_gapAbove 118 = .ok (.iadd, 1) := by decide +kernel
theorem dX6_gapAbove_119 : decode cX6_gapAbove 119 = .ok (.istore 5, 2) := by decide +kernel
theorem dX6_gapAbove_121 : decode cX6_gapAbove 121 = .ok (.iload 5, 2) := by decide +kernel
theorem dX6_gapAbove_123 : decode cX6_gapAbove 123 = .ok (.iload_n 3, 1) := by decide +kernel
theorem dX6_gapAbove_124 : decode cX6_gapAbove 124 = .ok (.if_icmp .le 8, 3) := by decide +kernel
theorem dX6_gapAbove_127 : decode cX6_gapAbove 127 = .ok (.iload 5, 2) := by decide +kernel
theorem dX6_gapAbove_129 : decode cX6_gapAbove 129 = .ok (.goto 4, 3) := by decide +kernel
theorem dX6_gapAbove_132 : decode cX6_gapAbove 132 = .ok (.iload_n 3, 1) := by decide +kernel
theorem dX6_gapAbove_133 : decode cX6_gapAbove 133 = .ok (.istore_n 3, 1) := by decide +kernel
theorem dX6_gapAbove_134 : decode cX6_gapAbove 134 = .ok (.iinc 4 1, 3) := by decide +kernel
theorem dX6_gapAbove_137 : decode cX6_gapAbove 137 = .ok (.goto (-93), 3) := by decide +kernel
theorem dX6_gapAbove_140 : decode cX6_gapAbove 140 = .ok (.iload_n 3, 1) := by decide +kernel
theorem dX6_gapAbove_141 : decode cX6_gapAbove 141 = .ok (.ireturn, 1) := by decide +kernel
theorem dX6_isFirstAt_0 : decode cX6_isFirstAt 0 = .ok (.iconst 0, 1) := by decide +kernel
theorem dX6_isFirstAt_1 : decode cX6_isFirstAt 1 = .ok (.istore 4, 2) := by decide +kernel
theorem dX6_isFirstAt_3 : decode cX6_isFirstAt 3 = .ok (.iload 4, 2) := by decide +kernel
theorem dX6_isFirstAt_5 : decode cX6_isFirstAt 5 = .ok (.iload_n 1, 1) := by decide +kernel
theorem dX6_isFirstAt_6 : decode cX6_isFirstAt 6 = .ok (.if_icmp .ge 49, 3) := by decide +kernel
theorem dX6_isFirstAt_9 : decode cX6_isFirstAt 9 = .ok (.aload_n 0, 1) := by decide +kernel
theorem dX6_isFirstAt_10 : decode cX6_isFirstAt 10 = .ok (.getfield 34, 3) := by decide +kernel
theorem dX6_isFirstAt_13 : decode cX6_isFirstAt 13 = .ok (.iload 4, 2) := by decide +kernel
theorem dX6_isFirstAt_15 : decode cX6_isFirstAt 15 = .ok (.iaload, 1) := by decide +kernel
theorem dX6_isFirstAt_16 : decode cX6_isFirstAt 16 = .ok (.aload_n 0, 1) := by decide +kernel
theorem dX6_isFirstAt_17 : decode cX6_isFirstAt 17 = .ok (.getfield 34, 3) := by decide +kernel
theorem dX6_isFirstAt_20 : decode cX6_isFirstAt 20 = .ok (.iload_n 1, 1) := by decide +kernel
theorem dX6_isFirstAt_21 : decode cX6_isFirstAt 21 = .ok (.iaload, 1) := by decide +kernel
theorem dX6_isFirstAt_22 : decode cX6_isFirstAt 22 = .ok (.if_icmp .ne 27, 3) := by decide +kernel
theorem dX6_isFirstAt_25 : decode cX6_isFirstAt 25 = .ok (.aload_n 0, 1) := by decide +kernel
theorem dX6_isFirstAt_26 : decode cX6_isFirstAt 26 = .ok (.getfield 28, 3) := by decide +kernel
theorem dX6_isFirstAt_29 : decode cX6_isFirstAt 29 = .ok (.iload 4, 2) := by decide +kernel
theorem dX6_isFirstAt_31 : decode cX6_isFirstAt 31 = .ok (.iaload, 1) := by decide +kernel
theorem dX6_isFirstAt_32 : decode cX6_isFirstAt 32 = .ok (.iload_n 2, 1) := by decide +kernel
theorem dX6_isFirstAt_33 : decode cX6_isFirstAt 33 = .ok (.if_icmp .eq 14, 3) := by decide +kernel
theorem dX6_isFirstAt_36 : decode cX6_isFirstAt 36 = .ok (.aload_n 0, 1) := by decide +kernel
theorem dX6_isFirstAt_37 : decode cX6_isFirstAt 37 = .ok (.getfield 28, 3) := by decide +kernel
theorem dX6_isFirstAt_40 : decode cX6_isFirstAt 40 = .ok (.iload 4, 2) := by decide +kernel
theorem dX6_isFirstAt_42 : decode cX6_isFirstAt 42 = .ok (.iaload, 1) := by decide +kernel
theorem dX6_isFirstAt_43 : decode cX6_isFirstAt 43 = .ok (.iload_n 3, 1) := by decide +kernel
theorem dX6_isFirstAt_44 : decode cX6_isFirstAt 44 = .ok (.if_icmp .ne 5, 3) := by decide +kernel
theorem dX6_isFirstAt_47 : decode cX6_isFirstAt 47 = .ok (.iconst 0, 1) := by decide +kernel
theorem dX6_isFirstAt_48 : decode cX6_isFirstAt 48 = .ok (.ireturn, 1) := by decide +kernel
theorem dX6_isFirstAt_49 : decode cX6_isFirstAt 49 = .ok (.iinc 4 1, 3) := by decide +kernel
theorem dX6_isFirstAt_52 : decode cX6_isFirstAt 52 = .ok (.goto (-49), 3) := by decide +kernel
theorem dX6_isFirstAt_55 : decode cX6_isFirstAt 55 = .ok (.iconst 1, 1) := by decide +kernel
theorem dX6_isFirstAt_56 : decode cX6_isFirstAt 56 = .ok (.ireturn, 1) := by decide +kernel
set_option maxRecDepth 20000 in
theorem ggX6_placeOf_X6_isHidden : GoodIn wsX6_placeOf wsX6_isHidden := goodIn_r _ [6, 7, 8, 9, 60, 61, 62, 63, 64, 65, 66, 67, 68, 69, 70, 71, 72, 73, 74, 75, 76, 77, 78, 79, 80, 81, 82] (by decide +kernel) (by decide +kernel)
set_option maxRecDepth 20000 in
theorem gX6_placeOf_X6_isHidden : GoodIn wsX6_placeOf (wsV RX6 155 RX6 yX6_isHidden wsX6_isHidden) := goodIn_app (goodIn_of _ (by decide +kernel)) ggX6_placeOf_X6_isHidden
set_option maxRecDepth 20000 in
theorem ggX6_placeOf_X6_gapAbove : GoodIn wsX6_placeOf wsX6_gapAbove := goodIn_r _ [13, 14, 15, 8, 9, 16, 2, 3, 4, 5, 6, 7, 17, 18, 19, 20, 21, 22, 23, 24, 25, 26, 27, 28, 29, 30, 31, 32, 33, 34, 35, 36, 37, 38, 39, 40, 41, 42, 43, 44, 45, 46, 47, 48, 49, 50, 51, 52, 53, 54, 55, 56, 57, 58, 59, 60, 61, 62, 63, 64, 65, 66, 67, 68, 69, 70, 71, 72, 73, 74, 75, 76, 77, 78, 79, 80, 81, 82] (by decide +kernel) (by decide +kernel)
set_option maxRecDepth 20000 in
theorem gX6_placeOf_X6_gapAbove : GoodIn wsX6_placeOf (wsV RX6 161 RX6 yX6_gapAbove wsX6_gapAbove) := goodIn_app (goodIn_of _ (by decide +kernel)) ggX6_placeOf_X6_gapAbove
theorem dX6_placeOf_0 : decode cX6_placeOf 0 = .ok (.lconst 0, 1) := by decide +kernel
theorem dX6_placeOf_1 : decode cX6_placeOf 1 = .ok (.lstore_n 2, 1) := by decide +kernel
theorem dX6_placeOf_2 : decode cX6_placeOf 2 = .ok (.iconst 1, 1) := by decide +kernel
theorem dX6_placeOf_3 : decode cX6_placeOf 3 = .ok (.istore 4, 2) := by decide +kernel
theorem dX6_placeOf_5 : decode cX6_placeOf 5 = .ok (.iload 4, 2) := by decide +kernel
theorem dX6_placeOf_7 : decode cX6_placeOf 7 = .ok (.iload_n 1, 1) := by decide +kernel
theorem dX6_placeOf_8 : decode cX6_placeOf 8 = .ok (.if_icmp .gt 35, 3) := by decide +kernel
theorem dX6_placeOf_11 : decode cX6_placeOf 11 = .ok (.lload_n 2, 1) := by decide +kernel
theorem dX6_placeOf_12 : decode cX6_placeOf 12 = .ok (.aload_n 0, 1) := by decide +kernel
theorem dX6_placeOf_13 : decode cX6_placeOf 13 = .ok (.iload 4, 2) := by decide +kernel
theorem dX6_placeOf_15 : decode cX6_placeOf 15 = .ok (.invokevirtual 155, 3) := by decide +kernel
theorem dX6_placeOf_18 : decode cX6_placeOf 18 = .ok (.ifCond .eq 7, 3) := by decide +kernel
theorem dX6_placeOf_21 : decode cX6_placeOf 21 = .ok (.lconst 0, 1) := by decide +kernel
theorem dX6_placeOf_22 : decode cX6_placeOf 22 = .ok (.goto 13, 3) := by decide +kernel
theorem dX6_placeOf_25 : decode cX6_placeOf 25 = .ok (.aload_n 0, 1) := by decide +kernel
theorem dX6_placeOf_26 : decode cX6_placeOf 26 = .ok (.iload 4, 2) := by decide +kernel
theorem dX6_placeOf_28 : decode cX6_placeOf 28 = .ok (.invokevirtual 161, 3) := by decide +kernel
theorem dX6_placeOf_31 : decode cX6_placeOf 31 = .ok (.bipush 8, 2) := by decide +kernel
theorem dX6_placeOf_33 : decode cX6_placeOf 33 = .ok (.iadd, 1) := by decide +kernel
theorem dX6_placeOf_34 : decode cX6_placeOf 34 = .ok (.i2l, 1) := by decide +kernel
theorem dX6_placeOf_35 : decode cX6_placeOf 35 = .ok (.ladd, 1) := by decide +kernel
theorem dX6_placeOf_36 : decode cX6_placeOf 36 = .ok (.lstore_n 2, 1) := by decide +kernel
theorem dX6_placeOf_37 : decode cX6_placeOf 37 = .ok (.iinc 4 1, 3) := by decide +kernel
theorem dX6_placeOf_40 : decode cX6_placeOf 40 = .ok (.goto (-35), 3) := by decide +kernel
theorem dX6_placeOf_43 : decode cX6_placeOf 43 = .ok (.aload_n 0, 1) := by decide +kernel
theorem dX6_placeOf_44 : decode cX6_placeOf 44 = .ok (.getfield 66, 3) := by decide +kernel
theorem dX6_placeOf_47 : decode cX6_placeOf 47 = .ok (.i2l, 1) := by decide +kernel
theorem dX6_placeOf_48 : decode cX6_placeOf 48 = .ok (.lload_n 2, 1) := by decide +kernel
theorem dX6_placeOf_49 : decode cX6_placeOf 49 = .ok (.lmul, 1) := by decide +kernel
theorem dX6_placeOf_50 : decode cX6_placeOf 50 = .ok (.lreturn, 1) := by decide +kernel
set_option maxRecDepth 20000 in
theorem ggX6_gap_X6_isStaff : GoodIn wsX6_gap wsX6_isStaff := goodIn_r _ [5, 6, 7, 4, 8] (by decide +kernel) (by decide +kernel)
set_option maxRecDepth 20000 in
theorem gX6_gap_X6_isStaff : GoodIn wsX6_gap (va_wsS RX6 79 yX6_isStaff wsX6_isStaff) := goodIn_app (goodIn_of _ (by decide +kernel)) ggX6_gap_X6_isStaff
set_option maxRecDepth 20000 in
theorem ggX6_gap_X6_reckon : GoodIn wsX6_gap wsX6_reckon := goodIn_r _ [12, 13, 14, 15, 16, 17, 4, 18, 19, 20, 21, 22, 23, 24, 25, 26, 27, 28, 6, 7, 8, 82, 83, 84, 85, 86, 87, 88, 89, 90, 91, 92, 93, 94, 95, 96, 97, 98, 99, 100, 101, 102, 103, 104] (by decide +kernel) (by decide +kernel)
set_option maxRecDepth 20000 in
theorem gX6_gap_X6_reckon : GoodIn wsX6_gap (wsV RX6 134 RX6 yX6_reckon wsX6_reckon) := goodIn_app (goodIn_of _ (by decide +kernel)) ggX6_gap_X6_reckon
set_option maxRecDepth 20000 in
theorem ggX6_gap_X6_isHidden : GoodIn wsX6_gap wsX6_isHidden := goodIn_r _ [32, 33, 13, 19, 82, 83, 84, 85, 86, 87, 88, 89, 90, 91, 92, 93, 94, 95, 96, 97, 98, 99, 100, 101, 102, 103, 104] (by decide +kernel) (by decide +kernel)
set_option maxRecDepth 20000 in
theorem gX6_gap_X6_isHidden : GoodIn wsX6_gap (wsV RX6 155 RX6 yX6_isHidden wsX6_isHidden) := goodIn_app (goodIn_of _ (by decide +kernel)) ggX6_gap_X6_isHidden
set_option maxRecDepth 20000 in
theorem ggX6_gap_X6_gapAbove : GoodIn wsX6_gap wsX6_gapAbove := goodIn_r _ [37, 38, 39, 13, 19, 23, 29, 30, 31, 4, 32, 33, 40, 41, 42, 43, 44, 45, 46, 47, 48, 49, 50, 51, 52, 53, 54, 55, 56, 57, 14, 58, 59, 60, 61, 62, 63, 64, 65, 66, 67, 68, 69, 70, 71, 72, 73, 74, 75, 76, 77, 78, 79, 80, 81, 82, 83, 84, 85, 86, 87, 88, 89, 90, 91, 92, 93, 94, 95, 96, 97, 98, 99, 100, 101, 102, 103, 104] (by decide +kernel) (by decide +kernel)
set_option maxRecDepth 20000 in
theorem gX6_gap_X6_gapAbove : GoodIn wsX6_gap (wsV RX6 161 RX6 yX6_gapAbove wsX6_gapAbove) := goodIn_app (goodIn_of _ (by decide +kernel)) ggX6_gap_X6_gapAbove
theorem dX6_gap_0 : decode cX6_gap 0 = .ok (.aload_n 0, 1) := by decide +kernel
theorem dX6_gap_1 : decode cX6_gap 1 = .ok (.iconst 0, 1) := by decide +kernel
theorem dX6_gap_2 : decode cX6_gap 2 = .ok (.putfield 69, 3) := by decide +kernel
theorem dX6_gap_5 : decode cX6_gap 5 = .ok (.iload_n 1, 1) := by decide +kernel
theorem dX6_gap_6 : decode cX6_gap 6 = .ok (.invokestatic 79, 3) := by decide +kernel
theorem dX6_gap_9 : decode cX6_gap 9 = .ok (.ifCond .ne 7, 3) := by decide +kernel
theorem dX6_gap_12 : decode cX6_gap 12 = .ok (.sipush (-1001), 3) := by decide +kernel
theorem dX6_gap_15 : decode cX6_gap 15 = .ok (.ireturn, 1) := by decide +kernel
theorem dX6_gap_16 : decode cX6_gap 16 = .ok (.aload_n 0, 1) := by decide +kernel
theorem dX6_gap_17 : decode cX6_gap 17 = .ok (.invokevirtual 134, 3) := by decide +kernel
theorem dX6_gap_20 : decode cX6_gap 20 = .ok (.iload_n 1, 1) := by decide +kernel
theorem dX6_gap_21 : decode cX6_gap 21 = .ok (.ifCond .eq 11, 3) := by decide +kernel
theorem dX6_gap_24 : decode cX6_gap 24 = .ok (.aload_n 0, 1) := by decide +kernel
theorem dX6_gap_25 : decode cX6_gap 25 = .ok (.iload_n 1, 1) := by decide +kernel
theorem dX6_gap_26 : decode cX6_gap 26 = .ok (.invokevirtual 155, 3) := by decide +kernel
theorem dX6_gap_29 : decode cX6_gap 29 = .ok (.ifCond .eq 9, 3) := by decide +kernel
theorem dX6_gap_32 : decode cX6_gap 32 = .ok (.sipush (-1000), 3) := by decide +kernel
theorem dX6_gap_35 : decode cX6_gap 35 = .ok (.goto 8, 3) := by decide +kernel
theorem dX6_gap_38 : decode cX6_gap 38 = .ok (.aload_n 0, 1) := by decide +kernel
theorem dX6_gap_39 : decode cX6_gap 39 = .ok (.iload_n 1, 1) := by decide +kernel
theorem dX6_gap_40 : decode cX6_gap 40 = .ok (.invokevirtual 161, 3) := by decide +kernel
theorem dX6_gap_43 : decode cX6_gap 43 = .ok (.ireturn, 1) := by decide +kernel
set_option maxRecDepth 20000 in
theorem ggX6_place_X6_isStaff : GoodIn wsX6_place wsX6_isStaff := goodIn_r _ [7, 8, 9, 6, 10] (by decide +kernel) (by decide +kernel)
set_option maxRecDepth 20000 in
theorem gX6_place_X6_isStaff : GoodIn wsX6_place (va_wsS RX6 79 yX6_isStaff wsX6_isStaff) := goodIn_app (goodIn_of _ (by decide +kernel)) ggX6_place_X6_isStaff
set_option maxRecDepth 20000 in
theorem ggX6_place_X6_reckon : GoodIn wsX6_place wsX6_reckon := goodIn_r _ [14, 15, 16, 17, 18, 19, 6, 20, 21, 22, 23, 24, 25, 26, 27, 28, 29, 30, 8, 9, 10, 89, 90, 91, 92, 93, 94, 95, 96, 97, 98, 99, 100, 101, 102, 103, 104, 105, 106, 107, 108, 109, 110, 111] (by decide +kernel) (by decide +kernel)
set_option maxRecDepth 20000 in
theorem gX6_place_X6_reckon : GoodIn wsX6_place (wsV RX6 134 RX6 yX6_reckon wsX6_reckon) := goodIn_app (goodIn_of _ (by decide +kernel)) ggX6_place_X6_reckon
set_option maxRecDepth 20000 in
theorem ggX6_place_X6_isHidden : GoodIn wsX6_place wsX6_isHidden := goodIn_r _ [34, 35, 15, 21, 89, 90, 91, 92, 93, 94, 95, 96, 97, 98, 99, 100, 101, 102, 103, 104, 105, 106, 107, 108, 109, 110, 111] (by decide +kernel) (by decide +kernel)
set_option maxRecDepth 20000 in
theorem gX6_place_X6_isHidden : GoodIn wsX6_place (wsV RX6 155 RX6 yX6_isHidden wsX6_isHidden) := goodIn_app (goodIn_of _ (by decide +kernel)) ggX6_place_X6_isHidden
set_option maxRecDepth 20000 in
theorem ggX6_place_X6_placeOf : GoodIn wsX6_place wsX6_placeOf := goodIn_r _ [39, 40, 31, 32, 33, 6, 34, 35, 15, 21, 41, 42, 43, 44, 45, 46, 25, 47, 48, 49, 50, 51, 52, 53, 54, 55, 56, 57, 58, 59, 60, 61, 62, 63, 64, 16, 65, 66, 67, 68, 69, 70, 71, 72, 73, 74, 75, 76, 77, 78, 79, 80, 81, 82, 83, 84, 85, 86, 87, 88, 89, 90, 91, 92, 93, 94, 95, 96, 97, 98, 99, 100, 101, 102, 103, 104, 105, 106, 107, 108, 109, 110, 111] (by decide +kernel) (by decide +kernel)
set_option maxRecDepth 20000 in
theorem gX6_place_X6_placeOf : GoodIn wsX6_place (wsV RX6 168 RX6 yX6_placeOf wsX6_placeOf) := goodIn_app (goodIn_of _ (by decide +kernel)) ggX6_place_X6_placeOf
theorem dX6_place_0 : decode cX6_place 0 = .ok (.aload_n 0, 1) := by decide +kernel
theorem dX6_place_1 : decode cX6_place 1 = .ok (.iconst 0, 1) := by decide +kernel
theorem dX6_place_2 : decode cX6_place 2 = .ok (.putfield 69, 3) := by decide +kernel
theorem dX6_place_5 : decode cX6_place 5 = .ok (.iload_n 1, 1) := by decide +kernel
theorem dX6_place_6 : decode cX6_place 6 = .ok (.invokestatic 79, 3) := by decide +kernel
theorem dX6_place_9 : decode cX6_place 9 = .ok (.ifCond .ne 7, 3) := by decide +kernel
theorem dX6_place_12 : decode cX6_place 12 = .ok (.ldc2_w 164, 3) := by decide +kernel
theorem dX6_place_15 : decode cX6_place 15 = .ok (.lreturn, 1) := by decide +kernel
theorem dX6_place_16 : decode cX6_place 16 = .ok (.aload_n 0, 1) := by decide +kernel
theorem dX6_place_17 : decode cX6_place 17 = .ok (.invokevirtual 134, 3) := by decide +kernel
theorem dX6_place_20 : decode cX6_place 20 = .ok (.aload_n 0, 1) := by decide +kernel
theorem dX6_place_21 : decode cX6_place 21 = .ok (.iload_n 1, 1) := by decide +kernel
theorem dX6_place_22 : decode cX6_place 22 = .ok (.invokevirtual 155, 3) := by decide +kernel
theorem dX6_place_25 : decode cX6_place 25 = .ok (.ifCond .eq 9, 3) := by decide +kernel
theorem dX6_place_28 : decode cX6_place 28 = .ok (.ldc2_w 166, 3) := by decide +kernel
theorem dX6_place_31 : decode cX6_place 31 = .ok (.goto 8, 3) := by decide +kernel
theorem dX6_place_34 : decode cX6_place 34 = .ok (.aload_n 0, 1) := by decide +kernel
theorem dX6_place_35 : decode cX6_place 35 = .ok (.iload_n 1, 1) := by decide +kernel
theorem dX6_place_36 : decode cX6_place 36 = .ok (.invokevirtual 168, 3) := by decide +kernel
theorem dX6_place_39 : decode cX6_place 39 = .ok (.lreturn, 1) := by decide +kernel
set_option maxRecDepth 20000 in
theorem ggX6_height_X6_reckon : GoodIn wsX6_height wsX6_reckon := goodIn_r _ [9, 10, 11, 12, 13, 14, 8, 15, 3, 16, 17, 18, 19, 20, 21, 22, 23, 24, 25, 26, 27, 89, 90, 91, 92, 93, 94, 95, 96, 97, 98, 99, 100, 101, 102, 103, 104, 105, 106, 107, 108, 109, 110, 111] (by decide +kernel) (by decide +kernel)
set_option maxRecDepth 20000 in
theorem gX6_height_X6_reckon : GoodIn wsX6_height (wsV RX6 134 RX6 yX6_reckon wsX6_reckon) := goodIn_app (goodIn_of _ (by decide +kernel)) ggX6_height_X6_reckon
set_option maxRecDepth 20000 in
theorem ggX6_height_X6_isNote : GoodIn wsX6_height wsX6_isNote := goodIn_r _ [31, 10, 25, 26, 8, 27, 89, 90, 91, 92, 93, 94, 95, 96, 97, 98, 99, 100, 101, 102, 103, 104, 105, 106, 107, 108, 109, 110, 111] (by decide +kernel) (by decide +kernel)
set_option maxRecDepth 20000 in
theorem gX6_height_X6_isNote : GoodIn wsX6_height (wsV RX6 86 RX6 yX6_isNote wsX6_isNote) := goodIn_app (goodIn_of _ (by decide +kernel)) ggX6_height_X6_isNote
set_option maxRecDepth 20000 in
theorem ggX6_height_X6_step : GoodIn wsX6_height wsX6_step := goodIn_r _ [35, 11, 89, 90, 91, 92, 93, 94, 95, 96, 97, 98, 99, 100, 101, 102, 103, 104, 105, 106, 107, 108, 109, 110, 111] (by decide +kernel) (by decide +kernel)
set_option maxRecDepth 20000 in
theorem gX6_height_X6_step : GoodIn wsX6_height (wsV RX6 100 RX6 yX6_step wsX6_step) := goodIn_app (goodIn_of _ (by decide +kernel)) ggX6_height_X6_step
set_option maxRecDepth 20000 in
theorem ggX6_height_X6_placeOf : GoodIn wsX6_height wsX6_placeOf := goodIn_r _ [39, 2, 40, 41, 42, 8, 43, 44, 10, 3, 45, 46, 47, 48, 49, 50, 19, 51, 52, 53, 54, 55, 56, 57, 58, 59, 60, 61, 62, 63, 64, 32, 33, 34, 35, 11, 65, 66, 67, 68, 69, 70, 71, 72, 73, 74, 75, 76, 77, 78, 79, 80, 81, 82, 83, 84, 85, 86, 87, 88, 89, 90, 91, 92, 93, 94, 95, 96, 97, 98, 99, 100, 101, 102, 103, 104, 105, 106, 107, 108, 109, 110, 111] (by decide +kernel) (by decide +kernel)
set_option maxRecDepth 20000 in
theorem gX6_height_X6_placeOf : GoodIn wsX6_height (wsV RX6 168 RX6 yX6_placeOf wsX6_placeOf) := goodIn_app (goodIn_of _ (by decide +kernel)) ggX6_height_X6_placeOf
theorem dX6_height_0 : decode cX6_height 0 = .ok (.aload_n 0, 1) := by decide +kernel
theorem dX6_height_1 : decode cX6_height 1 = .ok (.iconst 0, 1) := by decide +kernel
theorem dX6_height_2 : decode cX6_height 2 = .ok (.putfield 69, 3) := by decide +kernel
theorem dX6_height_5 : decode cX6_height 5 = .ok (.aload_n 0, 1) := by decide +kernel
theorem dX6_height_6 : decode cX6_height 6 = .ok (.invokevirtual 134, 3) := by decide +kernel
theorem dX6_height_9 : decode cX6_height 9 = .ok (.aload_n 0, 1) := by decide +kernel
theorem dX6_height_10 : decode cX6_height 10 = .ok (.iload_n 1, 1) := by decide +kernel
theorem dX6_height_11 : decode cX6_height 11 = .ok (.invokevirtual 86, 3) := by decide +kernel
theorem dX6_height_14 : decode cX6_height 14 = .ok (.ifCond .eq 29, 3) := by decide +kernel
theorem dX6_height_17 : decode cX6_height 17 = .ok (.aload_n 0, 1) := by decide +kernel
theorem dX6_height_18 : decode cX6_height 18 = .ok (.getfield 66, 3) := by decide +kernel
theorem dX6_height_21 : decode cX6_height 21 = .ok (.i2l, 1) := by decide +kernel
theorem dX6_height_22 : decode cX6_height 22 = .ok (.aload_n 0, 1) := by decide +kernel
theorem dX6_height_23 : decode cX6_height 23 = .ok (.iload_n 1, 1) := by decide +kernel
theorem dX6_height_24 : decode cX6_height 24 = .ok (.invokevirtual 100, 3) := by decide +kernel
theorem dX6_height_27 : decode cX6_height 27 = .ok (.i2l, 1) := by decide +kernel
theorem dX6_height_28 : decode cX6_height 28 = .ok (.lmul, 1) := by decide +kernel
theorem dX6_height_29 : decode cX6_height 29 = .ok (.aload_n 0, 1) := by decide +kernel
theorem dX6_height_30 : decode cX6_height 30 = .ok (.aload_n 0, 1) := by decide +kernel
theorem dX6_height_31 : decode cX6_height 31 = .ok (.getfield 28, 3) := by decide +kernel
theorem dX6_height_34 : decode cX6_height 34 = .ok (.iload_n 1, 1) := by decide +kernel
theorem dX6_height_35 : decode cX6_height 35 = .ok (.iaload, 1) := by decide +kernel
theorem dX6_height_36 : decode cX6_height 36 = .ok (.invokevirtual 168, 3) := by decide +kernel
theorem dX6_height_39 : decode cX6_height 39 = .ok (.lsub, 1) := by decide +kernel
theorem dX6_height_40 : decode cX6_height 40 = .ok (.goto 6, 3) := by decide +kernel
theorem dX6_height_43 : decode cX6_height 43 = .ok (.ldc2_w 164, 3) := by decide +kernel
theorem dX6_height_46 : decode cX6_height 46 = .ok (.lreturn, 1) := by decide +kernel
set_option maxRecDepth 20000 in
theorem ggX6_crowded_X6_isStaff : GoodIn wsX6_crowded wsX6_isStaff := goodIn_r _ [6, 7, 8, 5, 9] (by decide +kernel) (by decide +kernel)
set_option maxRecDepth 20000 in
theorem gX6_crowded_X6_isStaff : GoodIn wsX6_crowded (va_wsS RX6 79 yX6_isStaff wsX6_isStaff) := goodIn_app (goodIn_of _ (by decide +kernel)) ggX6_crowded_X6_isStaff
set_option maxRecDepth 20000 in
theorem ggX6_crowded_X6_reckon : GoodIn wsX6_crowded wsX6_reckon := goodIn_r _ [13, 14, 15, 16, 17, 18, 5, 19, 20, 21, 22, 23, 24, 25, 26, 27, 28, 29, 7, 8, 9, 82, 83, 84, 85, 86, 87, 88, 89, 90, 91, 92, 93, 94, 95, 96, 97, 98, 99, 100, 101, 102, 103, 104] (by decide +kernel) (by decide +kernel)
set_option maxRecDepth 20000 in
theorem gX6_crowded_X6_reckon : GoodIn wsX6_crowded (wsV RX6 134 RX6 yX6_reckon wsX6_reckon) := goodIn_app (goodIn_of _ (by decide +kernel)) ggX6_crowded_X6_reckon
set_option maxRecDepth 20000 in
theorem ggX6_crowded_X6_many : GoodIn wsX6_crowded wsX6_many := goodIn_r _ [33, 14, 34, 35, 36, 5, 37, 38, 39, 40, 41, 42, 20, 24, 82, 83, 84, 85, 86, 87, 88, 89, 90, 91, 92, 93, 94, 95, 96, 97, 98, 99, 100, 101, 102, 103, 104] (by decide +kernel) (by decide +kernel)
set_option maxRecDepth 20000 in
theorem gX6_crowded_X6_many : GoodIn wsX6_crowded (wsV RX6 103 RX6 yX6_many wsX6_many) := goodIn_app (goodIn_of _ (by decide +kernel)) ggX6_crowded_X6_many
set_option maxRecDepth 20000 in
theorem ggX6_crowded_X6_move : GoodIn wsX6_crowded wsX6_move := goodIn_r _ [46, 2, 14, 47, 34, 35, 36, 5, 37, 38, 39, 40, 41, 42, 20, 24, 48, 49, 50, 51, 52, 53, 54, 55, 56, 57, 58, 59, 30, 31, 32, 33, 60, 61, 62, 63, 64, 65, 66, 67, 15, 68, 69, 70, 71, 72, 73, 74, 75, 76, 77, 78, 79, 80, 81, 82, 83, 84, 85, 86, 87, 88, 89, 90, 91, 92, 93, 94, 95, 96, 97, 98, 99, 100, 101, 102, 103, 104] (by decide +kernel) (by decide +kernel)
set_option maxRecDepth 20000 in
theorem gX6_crowded_X6_move : GoodIn wsX6_crowded (wsV RX6 137 RX6 yX6_move wsX6_move) := goodIn_app (goodIn_of _ (by decide +kernel)) ggX6_crowded_X6_move
theorem dX6_crowded_0 : decode cX6_crowded 0 = .ok (.aload_n 0, 1) := by decide +kernel
theorem dX6_crowded_1 : decode cX6_crowded 1 = .ok (.iconst 0, 1) := by decide +kernel
theorem dX6_crowded_2 : decode cX6_crowded 2 = .ok (.putfield 69, 3) := by decide +kernel
theorem dX6_crowded_5 : decode cX6_crowded 5 = .ok (.iload_n 1, 1) := by decide +kernel
theorem dX6_crowded_6 : decode cX6_crowded 6 = .ok (.invokestatic 79, 3) := by decide +kernel
theorem dX6_crowded_9 : decode cX6_crowded 9 = .ok (.ifCond .ne 7, 3) := by decide +kernel
theorem dX6_crowded_12 : decode cX6_crowded 12 = .ok (.sipush (-1001), 3) := by decide +kernel
theorem dX6_crowded_15 : decode cX6_crowded 15 = .ok (.ireturn, 1) := by decide +kernel
theorem dX6_crowded_16 : decode cX6_crowded 16 = .ok (.iconst 0, 1) := by decide +kernel
theorem dX6_crowded_17 : decode cX6_crowded 17 = .ok (.istore_n 2, 1) := by decide +kernel
theorem dX6_crowded_18 : decode cX6_crowded 18 = .ok (.iconst 0, 1) := by decide +kernel
theorem dX6_crowded_19 : decode cX6_crowded 19 = .ok (.istore_n 3, 1) := by decide +kernel
theorem dX6_crowded_20 : decode cX6_crowded 20 = .ok (.aload_n 0, 1) := by decide +kernel
theorem dX6_crowded_21 : decode cX6_crowded 21 = .ok (.invokevirtual 134, 3) := by decide +kernel
theorem dX6_crowded_24 : decode cX6_crowded 24 = .ok (.iconst 0, 1) := by decide +kernel
theorem dX6_crowded_25 : decode cX6_crowded 25 = .ok (.istore 4, 2) := by decide +kernel
theorem dX6_crowded_27 : decode cX6_crowded 27 = .ok (.iload 4, 2) := by decide +kernel
theorem dX6_crowded_29 : decode cX6_crowded 29 = .ok (.bipush 100, 2) := by decide +kernel
theorem dX6_crowded_31 : decode cX6_crowded 31 = .ok (.if_icmp .ge 83, 3) := by decide +kernel
theorem dX6_crowded_34 : decode cX6_crowded 34 = .ok (.aload_n 0, 1) := by decide +kernel
theorem dX6_crowded_35 : decode cX6_crowded 35 = .ok (.iload_n 1, 1) := by decide +kernel
theorem dX6_crowded_36 : decode cX6_crowded 36 = .ok (.iload 4, 2) := by decide +kernel
theorem dX6_crowded_38 : decode cX6_crowded 38 = .ok (.iconst 0, 1) := by decide +kernel
theorem dX6_crowded_39 : decode cX6_crowded 39 = .ok (.invokevirtual 103, 3) := by decide +kernel
theorem dX6_crowded_42 : decode cX6_crowded 42 = .ok (.aload_n 0, 1) := by decide +kernel
theorem dX6_crowded_43 : decode cX6_crowded 43 = .ok (.iload_n 1, 1) := by decide +kernel
theorem dX6_crowded_44 : decode cX6_crowded 44 = .ok (.iload 4, 2) := by decide +kernel
theorem dX6_crowded_46 : decode cX6_crowded 46 = .ok (.iconst 1, 1) := by decide +kernel
theorem dX6_crowded_47 : decode cX6_crowded 47 = .ok (.invokevirtual 103, 3) := by decide +kernel
theorem dX6_crowded_50 : decode cX6_crowded 50 = .ok (.iadd, 1) := by decide +kernel
theorem dX6_crowded_51 : decode cX6_crowded 51 = .ok (.aload_n 0, 1) := by decide +kernel
theorem dX6_crowded_52 : decode cX6_crowded 52 = .ok (.iload_n 1, 1) := by decide +kernel
theorem dX6_crowded_53 : decode cX6_crowded 53 = .ok (.iload 4, 2) := by decide +kernel
theorem dX6_crowded_55 : decode cX6_crowded 55 = .ok (.iconst 2, 1) := by decide +kernel
theorem dX6_crowded_56 : decode cX6_crowded 56 = .ok (.invokevirtual 103, 3) := by decide +kernel
theorem dX6_crowded_59 : decode cX6_crowded 59 = .ok (.iadd, 1) := by decide +kernel
theorem dX6_crowded_60 : decode cX6_crowded 60 = .ok (.istore 5, 2) := by decide +kernel
theorem dX6_crowded_62 : decode cX6_crowded 62 = .ok (.iload 5, 2) := by decide +kernel
theorem dX6_crowded_64 : decode cX6_crowded 64 = .ok (.ifCond .le 44, 3) := by decide +kernel
theorem dX6_crowded_67 : decode cX6_crowded 67 = .ok (.aload_n 0, 1) := by decide +kernel
theorem dX6_crowded_68 : decode cX6_crowded 68 = .ok (.iload_n 1, 1) := by decide +kernel
theorem dX6_crowded_69 : decode cX6_crowded 69 = .ok (.iload 4, 2) := by decide +kernel
theorem dX6_crowded_71 : decode cX6_crowded 71 = .ok (.invokevirtual 137, 3) := by decide +kernel
theorem dX6_crowded_74 : decode cX6_crowded 74 = .ok (.iinc 2 1, 3) := by decide +kernel
theorem dX6_crowded_77 : decode cX6_crowded 77 = .ok (.iload_n 3, 1) := by decide +kernel
theorem dX6_crowded_78 : decode cX6_crowded 78 = .ok (.aload_n 0, 1) := by decide +kernel
theorem dX6_crowded_79 : decode cX6_crowded 79 = .ok (.getfield 56, 3) := by decide +kernel
theorem dX6_crowded_82 : decode cX6_crowded 82 = .ok (.iconst 0, 1) := by decide +kernel
theorem dX6_crowded_83 : decode cX6_crowded 83 = .ok (.iaload, 1) := by decide +kernel
theorem dX6_crowded_84 : decode cX6_crowded 84 = .ok (.aload_n 0, 1) := by decide +kernel
theorem dX6_crowded_85 : decode cX6_crowded 85 = .ok (.getfield 56, 3) := by decide +kernel
theorem dX6_crowded_88 : decode cX6_crowded 88 = .ok (.iconst 1, 1) := by decide +kernel
theorem dX6_crowded_89 : decode cX6_crowded 89 = .ok (.iaload, 1) := by decide +kernel
theorem dX6_crowded_90 : decode cX6_crowded 90 = .ok (.iadd, 1) := by decide +kernel
theorem dX6_crowded_91 : decode cX6_crowded 91 = .ok (.aload_n 0, 1) := by decide +kernel
theorem dX6_crowded_92 : decode cX6_crowded 92 = .ok (.getfield 56, 3) := by decide +kernel
theorem dX6_crowded_95 : decode cX6_crowded 95 = .ok (.iconst 2, 1) := by decide +kernel
theorem dX6_crowded_96 : decode cX6_crowded 96 = .ok (.iaload, 1) := by decide +kernel
theorem dX6_crowded_97 : decode cX6_crowded 97 = .ok (.iadd, 1) := by decide +kernel
theorem dX6_crowded_98 : decode cX6_crowded 98 = .ok (.ifCond .le 7, 3) := by decide +kernel
theorem dX6_crowded_101 : decode cX6_crowded 101 = .ok (.iconst 1, 1) := by decide +kernel
theorem dX6_crowded_102 : decode cX6_crowded 102 = .ok (.goto 4, 3) := by decide +kernel
theorem dX6_crowded_105 : decode cX6_crowded 105 = .ok (.iconst 0, 1) := by decide +kernel
theorem dX6_crowded_106 : decode cX6_crowded 106 = .ok (.iadd, 1) := by decide +kernel
theorem dX6_crowded_107 : decode cX6_crowded 107 = .ok (.istore_n 3, 1) := by decide +kernel
theorem dX6_crowded_108 : decode cX6_crowded 108 = .ok (.iinc 4 1, 3) := by decide +kernel
theorem dX6_crowded_111 : decode cX6_crowded 111 = .ok (.goto (-84), 3) := by decide +kernel
theorem dX6_crowded_114 : decode cX6_crowded 114 = .ok (.aload_n 0, 1) := by decide +kernel
theorem dX6_crowded_115 : decode cX6_crowded 115 = .ok (.iload_n 2, 1) := by decide +kernel
theorem dX6_crowded_116 : decode cX6_crowded 116 = .ok (.ifCond .ne 7, 3) := by decide +kernel
theorem dX6_crowded_119 : decode cX6_crowded 119 = .ok (.iconst 1, 1) := by decide +kernel
theorem dX6_crowded_120 : decode cX6_crowded 120 = .ok (.goto 4, 3) := by decide +kernel
theorem dX6_crowded_123 : decode cX6_crowded 123 = .ok (.iconst 0, 1) := by decide +kernel
theorem dX6_crowded_124 : decode cX6_crowded 124 = .ok (.putfield 69, 3) := by decide +kernel
theorem dX6_crowded_127 : decode cX6_crowded 127 = .ok (.aload_n 0, 1) := by decide +kernel
theorem dX6_crowded_128 : decode cX6_crowded 128 = .ok (.getfield 69, 3) := by decide +kernel
theorem dX6_crowded_131 : decode cX6_crowded 131 = .ok (.ifCond .le 7, 3) := by decide +kernel
theorem dX6_crowded_134 : decode cX6_crowded 134 = .ok (.iconst 0, 1) := by decide +kernel
theorem dX6_crowded_135 : decode cX6_crowded 135 = .ok (.goto 10, 3) := by decide +kernel
theorem dX6_crowded_138 : decode cX6_crowded 138 = .ok (.sipush 1000, 3) := by decide +kernel
theorem dX6_crowded_141 : decode cX6_crowded 141 = .ok (.iload_n 3, 1) := by decide +kernel
theorem dX6_crowded_142 : decode cX6_crowded 142 = .ok (.imul, 1) := by decide +kernel
theorem dX6_crowded_143 : decode cX6_crowded 143 = .ok (.iload_n 2, 1) := by decide +kernel
theorem dX6_crowded_144 : decode cX6_crowded 144 = .ok (.idiv, 1) := by decide +kernel
theorem dX6_crowded_145 : decode cX6_crowded 145 = .ok (.ireturn, 1) := by decide +kernel
set_option maxRecDepth 20000 in
theorem ggX6_about_X6_isHidden : GoodIn wsX6_about wsX6_isHidden := goodIn_r _ [8, 9, 2, 10, 11, 12, 13, 14, 15, 16, 17, 18, 19, 20, 21, 22, 23, 24, 25, 26, 27, 28, 29, 30, 31, 32, 33] (by decide +kernel) (by decide +kernel)
set_option maxRecDepth 20000 in
theorem gX6_about_X6_isHidden : GoodIn wsX6_about (wsV RX6 155 RX6 yX6_isHidden wsX6_isHidden) := goodIn_app (goodIn_of _ (by decide +kernel)) ggX6_about_X6_isHidden
theorem dX6_about_0 : decode cX6_about 0 = .ok (.aload_n 0, 1) := by decide +kernel
theorem dX6_about_1 : decode cX6_about 1 = .ok (.iconst 0, 1) := by decide +kernel
theorem dX6_about_2 : decode cX6_about 2 = .ok (.putfield 69, 3) := by decide +kernel
theorem dX6_about_5 : decode cX6_about 5 = .ok (.iconst 0, 1) := by decide +kernel
theorem dX6_about_6 : decode cX6_about 6 = .ok (.istore_n 2, 1) := by decide +kernel
theorem dX6_about_7 : decode cX6_about 7 = .ok (.iconst 0, 1) := by decide +kernel
theorem dX6_about_8 : decode cX6_about 8 = .ok (.istore_n 3, 1) := by decide +kernel
theorem dX6_about_9 : decode cX6_about 9 = .ok (.iload_n 3, 1) := by decide +kernel
theorem dX6_about_10 : decode cX6_about 10 = .ok (.iconst 4, 1) := by decide +kernel
theorem dX6_about_11 : decode cX6_about 11 = .ok (.if_icmp .ge 25, 3) := by decide +kernel
theorem dX6_about_14 : decode cX6_about 14 = .ok (.iload_n 2, 1) := by decide +kernel
theorem dX6_about_15 : decode cX6_about 15 = .ok (.aload_n 0, 1) := by decide +kernel
theorem dX6_about_16 : decode cX6_about 16 = .ok (.iload_n 3, 1) := by decide +kernel
theorem dX6_about_17 : decode cX6_about 17 = .ok (.invokevirtual 155, 3) := by decide +kernel
theorem dX6_about_20 : decode cX6_about 20 = .ok (.ifCond .eq 7, 3) := by decide +kernel
theorem dX6_about_23 : decode cX6_about 23 = .ok (.iconst 0, 1) := by decide +kernel
theorem dX6_about_24 : decode cX6_about 24 = .ok (.goto 4, 3) := by decide +kernel
theorem dX6_about_27 : decode cX6_about 27 = .ok (.iconst 1, 1) := by decide +kernel
theorem dX6_about_28 : decode cX6_about 28 = .ok (.iadd, 1) := by decide +kernel
theorem dX6_about_29 : decode cX6_about 29 = .ok (.istore_n 2, 1) := by decide +kernel
theorem dX6_about_30 : decode cX6_about 30 = .ok (.iinc 3 1, 3) := by decide +kernel
theorem dX6_about_33 : decode cX6_about 33 = .ok (.goto (-24), 3) := by decide +kernel
theorem dX6_about_36 : decode cX6_about 36 = .ok (.iload_n 1, 1) := by decide +kernel
theorem dX6_about_37 : decode cX6_about 37 = .ok (.ifCond .ne 10, 3) := by decide +kernel
theorem dX6_about_40 : decode cX6_about 40 = .ok (.aload_n 0, 1) := by decide +kernel
theorem dX6_about_41 : decode cX6_about 41 = .ok (.getfield 76, 3) := by decide +kernel
theorem dX6_about_44 : decode cX6_about 44 = .ok (.goto 27, 3) := by decide +kernel
theorem dX6_about_47 : decode cX6_about 47 = .ok (.iload_n 1, 1) := by decide +kernel
theorem dX6_about_48 : decode cX6_about 48 = .ok (.iconst 1, 1) := by decide +kernel
theorem dX6_about_49 : decode cX6_about 49 = .ok (.if_icmp .ne 10, 3) := by decide +kernel
theorem dX6_about_52 : decode cX6_about 52 = .ok (.aload_n 0, 1) := by decide +kernel
theorem dX6_about_53 : decode cX6_about 53 = .ok (.getfield 83, 3) := by decide +kernel
theorem dX6_about_56 : decode cX6_about 56 = .ok (.goto 15, 3) := by decide +kernel
theorem dX6_about_59 : decode cX6_about 59 = .ok (.iload_n 1, 1) := by decide +kernel
theorem dX6_about_60 : decode cX6_about 60 = .ok (.iconst 2, 1) := by decide +kernel
theorem dX6_about_61 : decode cX6_about 61 = .ok (.if_icmp .ne 7, 3) := by decide +kernel
theorem dX6_about_64 : decode cX6_about 64 = .ok (.iload_n 2, 1) := by decide +kernel
theorem dX6_about_65 : decode cX6_about 65 = .ok (.goto 6, 3) := by decide +kernel
theorem dX6_about_68 : decode cX6_about 68 = .ok (.sipush (-1002), 3) := by decide +kernel
theorem dX6_about_71 : decode cX6_about 71 = .ok (.ireturn, 1) := by decide +kernel
theorem dJ9_abs_0f7a4_0 : decode cJ9_abs_0f7a4 0 = .ok (.iload_n 0, 1) := by decide +kernel
theorem dJ9_abs_0f7a4_1 : decode cJ9_abs_0f7a4 1 = .ok (.ifCond .ge 8, 3) := by decide +kernel
theorem dJ9_abs_0f7a4_4 : decode cJ9_abs_0f7a4 4 = .ok (.iload_n 0, 1) := by decide +kernel
theorem dJ9_abs_0f7a4_5 : decode cJ9_abs_0f7a4 5 = .ok (.ineg, 1) := by decide +kernel
theorem dJ9_abs_0f7a4_6 : decode cJ9_abs_0f7a4 6 = .ok (.goto 4, 3) := by decide +kernel
theorem dJ9_abs_0f7a4_9 : decode cJ9_abs_0f7a4 9 = .ok (.iload_n 0, 1) := by decide +kernel
theorem dJ9_abs_0f7a4_10 : decode cJ9_abs_0f7a4 10 = .ok (.ireturn, 1) := by decide +kernel
theorem dJ9_max_7cf53_0 : decode cJ9_max_7cf53 0 = .ok (.iload_n 0, 1) := by decide +kernel
theorem dJ9_max_7cf53_1 : decode cJ9_max_7cf53 1 = .ok (.iload_n 1, 1) := by decide +kernel
theorem dJ9_max_7cf53_2 : decode cJ9_max_7cf53 2 = .ok (.if_icmp .lt 7, 3) := by decide +kernel
theorem dJ9_max_7cf53_5 : decode cJ9_max_7cf53 5 = .ok (.iload_n 0, 1) := by decide +kernel
theorem dJ9_max_7cf53_6 : decode cJ9_max_7cf53 6 = .ok (.goto 4, 3) := by decide +kernel
theorem dJ9_max_7cf53_9 : decode cJ9_max_7cf53 9 = .ok (.iload_n 1, 1) := by decide +kernel
theorem dJ9_max_7cf53_10 : decode cJ9_max_7cf53 10 = .ok (.ireturn, 1) := by decide +kernel
theorem dJ9_min_7cf53_0 : decode cJ9_min_7cf53 0 = .ok (.iload_n 0, 1) := by decide +kernel
theorem dJ9_min_7cf53_1 : decode cJ9_min_7cf53 1 = .ok (.iload_n 1, 1) := by decide +kernel
theorem dJ9_min_7cf53_2 : decode cJ9_min_7cf53 2 = .ok (.if_icmp .gt 7, 3) := by decide +kernel
theorem dJ9_min_7cf53_5 : decode cJ9_min_7cf53 5 = .ok (.iload_n 0, 1) := by decide +kernel
theorem dJ9_min_7cf53_6 : decode cJ9_min_7cf53 6 = .ok (.goto 4, 3) := by decide +kernel
theorem dJ9_min_7cf53_9 : decode cJ9_min_7cf53 9 = .ok (.iload_n 1, 1) := by decide +kernel
theorem dJ9_min_7cf53_10 : decode cJ9_min_7cf53 10 = .ok (.ireturn, 1) := by decide +kernel
theorem dJ7_fill_53178_0 : decode cJ7_fill_53178 0 = .ok (.iconst 0, 1) := by decide +kernel
theorem dJ7_fill_53178_1 : decode cJ7_fill_53178 1 = .ok (.istore_n 2, 1) := by decide +kernel
theorem dJ7_fill_53178_2 : decode cJ7_fill_53178 2 = .ok (.aload_n 0, 1) := by decide +kernel
theorem dJ7_fill_53178_3 : decode cJ7_fill_53178 3 = .ok (.arraylength, 1) := by decide +kernel
theorem dJ7_fill_53178_4 : decode cJ7_fill_53178 4 = .ok (.istore_n 3, 1) := by decide +kernel
theorem dJ7_fill_53178_5 : decode cJ7_fill_53178 5 = .ok (.iload_n 2, 1) := by decide +kernel
theorem dJ7_fill_53178_6 : decode cJ7_fill_53178 6 = .ok (.iload_n 3, 1) := by decide +kernel
theorem dJ7_fill_53178_7 : decode cJ7_fill_53178 7 = .ok (.if_icmp .ge 13, 3) := by decide +kernel
theorem dJ7_fill_53178_10 : decode cJ7_fill_53178 10 = .ok (.aload_n 0, 1) := by decide +kernel
theorem dJ7_fill_53178_11 : decode cJ7_fill_53178 11 = .ok (.iload_n 2, 1) := by decide +kernel
theorem dJ7_fill_53178_12 : decode cJ7_fill_53178 12 = .ok (.iload_n 1, 1) := by decide +kernel
theorem dJ7_fill_53178_13 : decode cJ7_fill_53178 13 = .ok (.iastore, 1) := by decide +kernel
theorem dJ7_fill_53178_14 : decode cJ7_fill_53178 14 = .ok (.iinc 2 1, 3) := by decide +kernel
theorem dJ7_fill_53178_17 : decode cJ7_fill_53178 17 = .ok (.goto (-12), 3) := by decide +kernel
theorem dJ7_fill_53178_20 : decode cJ7_fill_53178 20 = .ok (.return_, 1) := by decide +kernel
theorem dL_cell_0 : decode cL_cell 0 = .ok (.iload_n 1, 1) := by decide +kernel
theorem dL_cell_1 : decode cL_cell 1 = .ok (.aload_n 0, 1) := by decide +kernel
theorem dL_cell_2 : decode cL_cell 2 = .ok (.arraylength, 1) := by decide +kernel
theorem dL_cell_3 : decode cL_cell 3 = .ok (.if_icmp .ge 9, 3) := by decide +kernel
theorem dL_cell_6 : decode cL_cell 6 = .ok (.aload_n 0, 1) := by decide +kernel
theorem dL_cell_7 : decode cL_cell 7 = .ok (.iload_n 1, 1) := by decide +kernel
theorem dL_cell_8 : decode cL_cell 8 = .ok (.iaload, 1) := by decide +kernel
theorem dL_cell_9 : decode cL_cell 9 = .ok (.goto 4, 3) := by decide +kernel
theorem dL_cell_12 : decode cL_cell 12 = .ok (.iconst 0, 1) := by decide +kernel
theorem dL_cell_13 : decode cL_cell 13 = .ok (.ireturn, 1) := by decide +kernel
set_option maxRecDepth 20000 in
theorem ggL_crowded_X5_crowded : GoodIn wsL_crowded wsX5_crowded := goodIn_ca (goodIn_r _ [6, 7, 8, 9, 10, 11, 12, 13, 14, 15, 5, 16, 17, 18, 19, 20, 21, 22, 23, 24, 25, 26, 27, 28, 29, 30, 31, 32, 33, 34, 35, 36, 37, 38, 39, 40, 41, 42, 43, 44, 45, 46, 47, 48, 49, 50, 51, 52, 53, 54, 55, 56, 57, 58, 59, 60, 61, 62, 63, 64, 65, 66, 67, 68, 69, 70, 71, 72, 73, 74, 75, 76, 77, 78, 79, 80, 81, 82, 83, 84, 85, 86, 87, 88, 89, 90, 91, 92, 93, 94, 95, 96, 97, 98, 99, 100, 101, 102, 103, 104, 105, 106, 107, 108, 109, 110, 111, 112, 113, 114, 115, 116, 117, 118, 119, 120, 121, 122, 123, 124, 125, 126, 127, 128, 129, 130, 131, 132, 133, 134, 135, 136, 137, 138, 139, 140, 141, 142, 143, 144, 145, 146, 147, 148, 149, 150, 151, 152, 153, 154, 155, 156, 157, 158, 159, 160, 161, 162, 163, 164, 165, 166, 167, 168, 169, 170, 171, 172, 173, 174, 175, 176, 177, 178, 179, 180, 181, 182, 183, 184, 185, 186, 187, 188, 189, 190, 191, 192, 193, 194, 195, 196, 197, 198, 199, 200, 201, 202, 203, 204, 205, 206, 207, 208, 209, 210, 211, 212, 213, 214, 215, 216, 217, 218, 219, 220, 221, 222, 223, 224, 225, 226, 227, 228, 229, 230, 231, 232, 233, 234, 235, 236] (by decide +kernel) (by decide +kernel)) (goodIn_sub (fun _ h => List.mem_cons_of_mem _ (List.mem_append_right _ h)) (by decide +kernel))
set_option maxRecDepth 20000 in
theorem gL_crowded_X5_crowded : GoodIn wsL_crowded (wsV RL 7 RX5 yX5_crowded wsX5_crowded) := goodIn_app (goodIn_of _ (by decide +kernel)) ggL_crowded_X5_crowded
theorem dL_crowded_0 : decode cL_crowded 0 = .ok (.aload_n 2, 1) := by decide +kernel
theorem dL_crowded_1 : decode cL_crowded 1 = .ok (.iconst 0, 1) := by decide +kernel
theorem dL_crowded_2 : decode cL_crowded 2 = .ok (.aload_n 0, 1) := by decide +kernel
theorem dL_crowded_3 : decode cL_crowded 3 = .ok (.iload_n 1, 1) := by decide +kernel
theorem dL_crowded_4 : decode cL_crowded 4 = .ok (.invokevirtual 7, 3) := by decide +kernel
theorem dL_crowded_7 : decode cL_crowded 7 = .ok (.i2l, 1) := by decide +kernel
theorem dL_crowded_8 : decode cL_crowded 8 = .ok (.lastore, 1) := by decide +kernel
theorem dL_crowded_9 : decode cL_crowded 9 = .ok (.goto 6, 3) := by decide +kernel
theorem dL_crowded_12 : decode cL_crowded 12 = .ok (.astore_n 3, 1) := by decide +kernel
theorem dL_crowded_13 : decode cL_crowded 13 = .ok (.iconst 1, 1) := by decide +kernel
theorem dL_crowded_14 : decode cL_crowded 14 = .ok (.ireturn, 1) := by decide +kernel
theorem dL_crowded_15 : decode cL_crowded 15 = .ok (.iconst 0, 1) := by decide +kernel
theorem dL_crowded_16 : decode cL_crowded 16 = .ok (.ireturn, 1) := by decide +kernel
set_option maxRecDepth 20000 in
theorem ggL_law_L_cell : GoodIn wsL_law wsL_cell := goodIn_r _ [10] (by decide +kernel) (by decide +kernel)
set_option maxRecDepth 20000 in
theorem gL_law_L_cell : GoodIn wsL_law (va_wsS RL 15 yL_cell wsL_cell) := goodIn_app (goodIn_of _ (by decide +kernel)) ggL_law_L_cell
set_option maxRecDepth 20000 in
theorem ggL_law_X5_init : GoodIn wsL_law wsX5_init := goodIn_r _ [13, 14, 15, 16, 17, 18, 19, 20, 21, 22, 23, 24, 25, 26, 27, 28, 29, 30, 31, 32, 33, 34, 35, 36, 37, 38, 39, 40, 41, 42, 43, 44, 45, 46, 47, 48, 49, 50, 51, 52, 53, 54, 55, 56, 57, 58, 59, 60, 61, 62, 63, 64, 65, 66, 67, 68, 69, 70, 71, 72, 73, 74, 75, 76, 77, 78, 79, 80, 81, 82, 83, 84, 85, 86, 87, 88, 89, 90, 91, 92, 93, 2, 94, 596, 597, 598, 599, 600, 601, 566, 567, 568, 569, 570, 571, 572, 602, 603, 604, 605, 606, 607, 608, 609, 610, 611, 612, 613, 614, 615, 616, 617, 618, 619, 620, 621, 622, 623, 624, 625, 626, 627, 628, 629, 630, 631, 632, 633] (by decide +kernel) (by decide +kernel)
set_option maxRecDepth 20000 in
theorem gL_law_X5_init : GoodIn wsL_law (wsX5_init) := ggL_law_X5_init
set_option maxRecDepth 20000 in
theorem ggL_law_X6_init : GoodIn wsL_law wsX6_init := goodIn_r _ [97, 98, 15, 16, 38, 99, 100, 101, 102, 103, 104, 105, 106, 107, 108, 109, 110, 111, 112, 113, 114, 115, 116, 117, 118, 573, 574, 575, 576, 577, 578, 579, 580, 581, 582, 583, 584, 585, 586, 587, 588, 589, 590, 591, 592, 593, 594, 595] (by decide +kernel) (by decide +kernel)
set_option maxRecDepth 20000 in
theorem gL_law_X6_init : GoodIn wsL_law (wsX6_init) := ggL_law_X6_init
set_option maxRecDepth 20000 in
theorem ggL_law_X5_clef : GoodIn wsL_law wsX5_clef := goodIn_r _ [122, 123, 20, 28, 124, 125, 126, 2, 127, 92, 93, 94, 128, 46, 47, 19, 48, 39, 566, 567, 568, 569, 570, 571, 572, 609, 610, 611, 612, 613, 614, 615, 616, 617, 618, 619, 620, 621, 622, 623, 596, 597, 598, 599, 600, 601] (by decide +kernel) (by decide +kernel)
set_option maxRecDepth 20000 in
theorem gL_law_X5_clef : GoodIn wsL_law (wsV RL 27 RX5 yX5_clef wsX5_clef) := goodIn_app (goodIn_of _ (by decide +kernel)) ggL_law_X5_clef
set_option maxRecDepth 20000 in
theorem ggL_law_X6_clef : GoodIn wsL_law wsX6_clef := goodIn_r _ [132, 133, 99, 100, 134, 135, 5, 136, 137, 138, 139, 573, 574, 575, 576, 577, 578, 579, 580, 581, 582, 583, 584, 585, 586, 587, 588, 589, 590, 591, 592, 593, 594, 595] (by decide +kernel) (by decide +kernel)
set_option maxRecDepth 20000 in
theorem gL_law_X6_clef : GoodIn wsL_law (wsV RL 31 RX6 yX6_clef wsX6_clef) := goodIn_app (goodIn_of _ (by decide +kernel)) ggL_law_X6_clef
set_option maxRecDepth 20000 in
theorem ggL_law_X5_shift : GoodIn wsL_law wsX5_shift := goodIn_r _ [143, 20, 144, 28, 124, 125, 126, 2, 127, 92, 93, 94, 145, 146, 147, 148, 149, 150, 19, 151, 40, 44, 41, 42, 43, 566, 567, 568, 569, 570, 571, 572, 596, 597, 598, 599, 600, 601, 609, 610, 611, 612, 613, 614, 615, 616, 617, 618, 619, 620, 621, 622, 623] (by decide +kernel) (by decide +kernel)
set_option maxRecDepth 20000 in
theorem gL_law_X5_shift : GoodIn wsL_law (wsV RL 32 RX5 yX5_shift wsX5_shift) := goodIn_app (goodIn_of _ (by decide +kernel)) ggL_law_X5_shift
set_option maxRecDepth 20000 in
theorem ggL_law_X6_shift : GoodIn wsL_law wsX6_shift := goodIn_r _ [155, 133, 156, 101, 102, 103, 104, 134, 135, 5, 136, 137, 138, 139, 573, 574, 575, 576, 577, 578, 579, 580, 581, 582, 583, 584, 585, 586, 587, 588, 589, 590, 591, 592, 593, 594, 595] (by decide +kernel) (by decide +kernel)
set_option maxRecDepth 20000 in
theorem gL_law_X6_shift : GoodIn wsL_law (wsV RL 36 RX6 yX6_shift wsX6_shift) := goodIn_app (goodIn_of _ (by decide +kernel)) ggL_law_X6_shift
set_option maxRecDepth 20000 in
theorem ggL_law_X5_plain : GoodIn wsL_law wsX5_plain := goodIn_r _ [160, 20, 144, 28, 124, 566, 567, 568, 569, 570, 571, 572, 596, 597, 598, 599, 600, 601, 609, 610, 611, 612, 613, 614, 615, 616, 617, 618, 619, 620, 621, 622, 623] (by decide +kernel) (by decide +kernel)
set_option maxRecDepth 20000 in
theorem gL_law_X5_plain : GoodIn wsL_law (wsV RL 37 RX5 yX5_plain wsX5_plain) := goodIn_app (goodIn_of _ (by decide +kernel)) ggL_law_X5_plain
set_option maxRecDepth 20000 in
theorem ggL_law_X6_plain : GoodIn wsL_law wsX6_plain := goodIn_r _ [164, 133, 156, 573, 574, 575, 576, 577, 578, 579, 580, 581, 582, 583, 584, 585, 586, 587, 588, 589, 590, 591, 592, 593, 594, 595] (by decide +kernel) (by decide +kernel)
set_option maxRecDepth 20000 in
theorem gL_law_X6_plain : GoodIn wsL_law (wsV RL 41 RX6 yX6_plain wsX6_plain) := goodIn_app (goodIn_of _ (by decide +kernel)) ggL_law_X6_plain
set_option maxRecDepth 20000 in
theorem ggL_law_X5_note : GoodIn wsL_law wsX5_note := goodIn_r _ [168, 24, 169, 28, 124, 125, 126, 2, 127, 92, 93, 94, 145, 146, 147, 170, 171, 172, 173, 174, 175, 23, 176, 52, 58, 53, 54, 55, 56, 57, 566, 567, 568, 569, 570, 571, 572, 602, 603, 604, 605, 606, 607, 608, 609, 610, 611, 612, 613, 614, 615, 616, 617, 618, 619, 620, 621, 622, 623] (by decide +kernel) (by decide +kernel)
set_option maxRecDepth 20000 in
theorem gL_law_X5_note : GoodIn wsL_law (wsV RL 42 RX5 yX5_note wsX5_note) := goodIn_app (goodIn_of _ (by decide +kernel)) ggL_law_X5_note
set_option maxRecDepth 20000 in
theorem ggL_law_X6_note : GoodIn wsL_law wsX6_note := goodIn_r _ [180, 133, 181, 105, 106, 107, 108, 109, 110, 134, 135, 5, 136, 137, 138, 139, 573, 574, 575, 576, 577, 578, 579, 580, 581, 582, 583, 584, 585, 586, 587, 588, 589, 590, 591, 592, 593, 594, 595] (by decide +kernel) (by decide +kernel)
set_option maxRecDepth 20000 in
theorem gL_law_X6_note : GoodIn wsL_law (wsV RL 46 RX6 yX6_note wsX6_note) := goodIn_app (goodIn_of _ (by decide +kernel)) ggL_law_X6_note
set_option maxRecDepth 20000 in
theorem ggL_law_X5_drop : GoodIn wsL_law wsX5_drop := goodIn_r _ [185, 24, 28, 124, 169, 186, 187, 188, 23, 189, 58, 93, 2, 94, 190, 191, 192, 193, 52, 53, 54, 55, 56, 57, 566, 567, 568, 569, 570, 571, 572, 609, 610, 611, 612, 613, 614, 615, 616, 617, 618, 619, 620, 621, 622, 623, 602, 603, 604, 605, 606, 607, 608] (by decide +kernel) (by decide +kernel)
set_option maxRecDepth 20000 in
theorem gL_law_X5_drop : GoodIn wsL_law (wsV RL 47 RX5 yX5_drop wsX5_drop) := goodIn_app (goodIn_of _ (by decide +kernel)) ggL_law_X5_drop
set_option maxRecDepth 20000 in
theorem ggL_law_X6_drop : GoodIn wsL_law wsX6_drop := goodIn_r _ [197, 133, 181, 105, 106, 107, 108, 109, 110, 198, 199, 200, 5, 201, 137, 138, 139, 573, 574, 575, 576, 577, 578, 579, 580, 581, 582, 583, 584, 585, 586, 587, 588, 589, 590, 591, 592, 593, 594, 595] (by decide +kernel) (by decide +kernel)
set_option maxRecDepth 20000 in
theorem gL_law_X6_drop : GoodIn wsL_law (wsV RL 50 RX6 yX6_drop wsX6_drop) := goodIn_app (goodIn_of _ (by decide +kernel)) ggL_law_X6_drop
set_option maxRecDepth 20000 in
theorem ggL_law_X5_of : GoodIn wsL_law wsX5_of := goodIn_r _ [205, 24, 28, 20, 206, 207, 208, 209, 210, 211, 186, 187, 188, 23, 189, 58, 93, 2, 94, 212, 213, 214, 27, 215, 62, 216, 63, 217, 218, 219, 71, 220, 221, 222, 223, 68, 69, 70, 72, 73, 74, 224, 225, 226, 227, 228, 229, 230, 19, 231, 44, 40, 41, 42, 43, 39, 232, 233, 234, 235, 236, 237, 78, 65, 238, 82, 239, 240, 241, 242, 243, 244, 245, 246, 247, 248, 77, 249, 250, 251, 252, 253, 254, 255, 81, 256, 257, 258, 259, 260, 261, 52, 54, 262, 263, 264, 265, 266, 267, 268, 269, 270, 271, 272, 273, 274, 86, 275, 276, 277, 278, 90, 279, 280, 281, 282, 283, 64, 284, 285, 286, 287, 288, 289, 290, 291, 292, 293, 294, 295, 296, 297, 298, 299, 300, 301, 302, 303, 304, 305, 306, 307, 308, 309, 310, 311, 312, 313, 314, 315, 316, 317, 318, 319, 320, 321, 322, 323, 324, 325, 326, 66, 67, 327, 328, 329, 330, 331, 332, 333, 334, 335, 336, 337, 338, 339, 340, 91, 341, 342, 343, 344, 345, 346, 347, 348, 349, 350, 351, 566, 567, 568, 569, 570, 571, 572, 609, 610, 611, 612, 613, 614, 615, 616, 617, 618, 619, 620, 621, 622, 623, 602, 603, 604, 605, 606, 607, 608, 596, 597, 598, 599, 600, 601, 624, 625, 626, 627, 628, 629, 630, 631, 632, 633] (by decide +kernel) (by decide +kernel)
set_option maxRecDepth 20000 in
theorem gL_law_X5_of : GoodIn wsL_law (wsV RL 51 RX5 yX5_of wsX5_of) := goodIn_app (goodIn_of _ (by decide +kernel)) ggL_law_X5_of
set_option maxRecDepth 20000 in
theorem ggL_law_X6_of : GoodIn wsL_law wsX6_of := goodIn_r _ [355, 133, 105, 107, 115, 116, 114, 106, 198, 199, 200, 5, 201, 181, 137, 138, 139, 356, 357, 358, 359, 113, 360, 361, 362, 363, 99, 156, 101, 102, 103, 104, 108, 100, 364, 365, 366, 367, 368, 369, 370, 371, 372, 373, 374, 375, 376, 377, 378, 379, 380, 381, 382, 383, 384, 385, 386, 387, 388, 389, 390, 391, 392, 393, 394, 395, 396, 397, 398, 399, 400, 401, 402, 403, 404, 405, 406, 407, 408, 409, 410, 411, 110, 109, 412, 413, 414, 415, 416, 417, 418, 419, 573, 574, 575, 576, 577, 578, 579, 580, 581, 582, 583, 584, 585, 586, 587, 588, 589, 590, 591, 592, 593, 594, 595] (by decide +kernel) (by decide +kernel)
set_option maxRecDepth 20000 in
theorem gL_law_X6_of : GoodIn wsL_law (wsV RL 55 RX6 yX6_of wsX6_of) := goodIn_app (goodIn_of _ (by decide +kernel)) ggL_law_X6_of
set_option maxRecDepth 20000 in
theorem ggL_law_X5_height : GoodIn wsL_law wsX5_height := goodIn_r _ [423, 24, 424, 28, 20, 33, 206, 425, 186, 187, 188, 23, 189, 58, 93, 2, 94, 212, 213, 214, 27, 215, 62, 216, 63, 217, 218, 219, 71, 220, 221, 222, 223, 68, 69, 70, 72, 73, 74, 224, 225, 226, 227, 228, 229, 230, 19, 231, 44, 40, 41, 42, 43, 39, 232, 233, 234, 235, 236, 237, 78, 65, 238, 82, 239, 240, 241, 242, 243, 244, 245, 246, 247, 248, 77, 249, 250, 251, 252, 253, 254, 255, 81, 256, 257, 258, 259, 260, 261, 52, 54, 262, 263, 264, 265, 266, 267, 268, 269, 270, 271, 272, 273, 274, 86, 275, 276, 277, 278, 90, 279, 280, 281, 282, 283, 64, 284, 285, 286, 287, 288, 289, 290, 291, 292, 293, 294, 295, 296, 297, 298, 299, 300, 301, 302, 303, 304, 305, 306, 307, 308, 309, 310, 311, 312, 313, 314, 315, 316, 317, 318, 319, 320, 321, 322, 323, 324, 325, 326, 66, 67, 327, 328, 329, 330, 331, 332, 333, 334, 335, 336, 337, 338, 339, 340, 91, 341, 342, 343, 344, 345, 346, 347, 348, 349, 350, 351, 426, 427, 428, 429, 430, 431, 432, 433, 31, 434, 435, 436, 437, 438, 439, 440, 441, 442, 443, 444, 445, 30, 446, 447, 29, 448, 449, 566, 567, 568, 569, 570, 571, 572, 609, 610, 611, 612, 613, 614, 615, 616, 617, 618, 619, 620, 621, 622, 623, 602, 603, 604, 605, 606, 607, 608, 596, 597, 598, 599, 600, 601, 624, 625, 626, 627, 628, 629, 630, 631, 632, 633] (by decide +kernel) (by decide +kernel)
set_option maxRecDepth 20000 in
theorem gL_law_X5_height : GoodIn wsL_law (wsV RL 56 RX5 yX5_height wsX5_height) := goodIn_app (goodIn_of _ (by decide +kernel)) ggL_law_X5_height
set_option maxRecDepth 20000 in
theorem ggL_law_X6_height : GoodIn wsL_law wsX6_height := goodIn_r _ [453, 133, 118, 105, 454, 356, 357, 358, 5, 359, 181, 113, 360, 361, 362, 363, 99, 156, 101, 107, 102, 103, 104, 108, 100, 137, 138, 139, 198, 199, 200, 201, 364, 365, 366, 367, 455, 456, 457, 458, 459, 460, 461, 462, 463, 464, 465, 466, 467, 112, 111, 468, 469, 470, 471, 472, 473, 474, 475, 110, 106, 384, 385, 386, 387, 368, 369, 370, 371, 372, 373, 374, 375, 376, 377, 378, 379, 380, 381, 382, 383, 388, 389, 390, 391, 476, 477, 478, 479, 573, 574, 575, 576, 577, 578, 579, 580, 581, 582, 583, 584, 585, 586, 587, 588, 589, 590, 591, 592, 593, 594, 595] (by decide +kernel) (by decide +kernel)
set_option maxRecDepth 20000 in
theorem gL_law_X6_height : GoodIn wsL_law (wsV RL 60 RX6 yX6_height wsX6_height) := goodIn_app (goodIn_of _ (by decide +kernel)) ggL_law_X6_height
set_option maxRecDepth 20000 in
theorem ggL_law_X5_at : GoodIn wsL_law wsX5_at := goodIn_r _ [483, 28, 24, 20, 447, 446, 484, 485, 486, 125, 126, 2, 127, 92, 93, 94, 145, 146, 147, 212, 213, 214, 27, 215, 62, 216, 63, 217, 218, 219, 71, 220, 221, 222, 223, 68, 69, 70, 72, 73, 74, 224, 225, 226, 227, 228, 229, 230, 19, 231, 44, 40, 41, 42, 43, 39, 232, 233, 234, 235, 236, 237, 78, 65, 238, 82, 239, 240, 241, 242, 243, 244, 245, 246, 247, 248, 77, 249, 250, 251, 252, 253, 254, 255, 81, 256, 257, 258, 259, 260, 23, 261, 52, 54, 262, 263, 264, 265, 266, 267, 268, 269, 270, 271, 272, 273, 274, 86, 275, 276, 277, 278, 90, 279, 280, 281, 282, 283, 64, 284, 285, 286, 287, 288, 289, 290, 291, 292, 293, 294, 295, 296, 297, 298, 299, 300, 301, 302, 303, 304, 305, 306, 307, 308, 309, 310, 311, 312, 313, 314, 315, 316, 317, 318, 319, 320, 321, 322, 323, 324, 325, 326, 66, 67, 327, 328, 329, 330, 331, 332, 333, 334, 335, 336, 337, 338, 339, 340, 91, 341, 342, 343, 344, 345, 346, 347, 348, 349, 350, 351, 449, 566, 567, 568, 569, 570, 571, 572, 609, 610, 611, 612, 613, 614, 615, 616, 617, 618, 619, 620, 621, 622, 623, 602, 603, 604, 605, 606, 607, 608, 596, 597, 598, 599, 600, 601, 624, 625, 626, 627, 628, 629, 630, 631, 632, 633] (by decide +kernel) (by decide +kernel)
set_option maxRecDepth 20000 in
theorem gL_law_X5_at : GoodIn wsL_law (wsV RL 61 RX5 yX5_at wsX5_at) := goodIn_app (goodIn_of _ (by decide +kernel)) ggL_law_X5_at
set_option maxRecDepth 20000 in
theorem ggL_law_X6_at : GoodIn wsL_law wsX6_at := goodIn_r _ [490, 133, 181, 116, 134, 135, 5, 136, 137, 138, 139, 376, 377, 378, 379, 380, 381, 382, 383, 106, 384, 385, 386, 387, 105, 107, 356, 357, 358, 359, 113, 360, 361, 362, 363, 99, 156, 101, 102, 103, 104, 108, 100, 412, 413, 414, 415, 109, 364, 365, 366, 367, 416, 417, 418, 419, 472, 473, 474, 475, 110, 368, 369, 370, 371, 372, 373, 374, 375, 388, 389, 390, 391, 476, 477, 478, 479, 573, 574, 575, 576, 577, 578, 579, 580, 581, 582, 583, 584, 585, 586, 587, 588, 589, 590, 591, 592, 593, 594, 595] (by decide +kernel) (by decide +kernel)
set_option maxRecDepth 20000 in
theorem gL_law_X6_at : GoodIn wsL_law (wsV RL 64 RX6 yX6_at wsX6_at) := goodIn_app (goodIn_of _ (by decide +kernel)) ggL_law_X6_at
set_option maxRecDepth 20000 in
theorem ggL_law_X5_shared : GoodIn wsL_law wsX5_shared := goodIn_r _ [494, 24, 28, 20, 186, 187, 188, 23, 189, 58, 93, 2, 94, 212, 213, 214, 27, 215, 62, 216, 63, 217, 218, 219, 71, 220, 221, 222, 223, 68, 69, 70, 72, 73, 74, 224, 225, 226, 227, 228, 229, 230, 19, 231, 44, 40, 41, 42, 43, 39, 232, 233, 234, 235, 236, 237, 78, 65, 238, 82, 239, 240, 241, 242, 243, 244, 245, 246, 247, 248, 77, 249, 250, 251, 252, 253, 254, 255, 81, 256, 257, 258, 259, 260, 261, 52, 54, 262, 263, 264, 265, 266, 267, 268, 269, 270, 271, 272, 273, 274, 86, 275, 276, 277, 278, 90, 279, 280, 281, 282, 283, 64, 284, 285, 286, 287, 288, 289, 290, 291, 292, 293, 294, 295, 296, 297, 298, 299, 300, 301, 302, 303, 304, 305, 306, 307, 308, 309, 310, 311, 312, 313, 314, 315, 316, 317, 318, 319, 320, 321, 322, 323, 324, 325, 326, 66, 67, 327, 328, 329, 330, 331, 332, 333, 334, 335, 336, 337, 338, 339, 340, 91, 341, 342, 343, 344, 345, 346, 347, 348, 349, 350, 351, 495, 496, 566, 567, 568, 569, 570, 571, 572, 602, 603, 604, 605, 606, 607, 608, 609, 610, 611, 612, 613, 614, 615, 616, 617, 618, 619, 620, 621, 622, 623, 596, 597, 598, 599, 600, 601, 624, 625, 626, 627, 628, 629, 630, 631, 632, 633] (by decide +kernel) (by decide +kernel)
set_option maxRecDepth 20000 in
theorem gL_law_X5_shared : GoodIn wsL_law (wsV RL 65 RX5 yX5_shared wsX5_shared) := goodIn_app (goodIn_of _ (by decide +kernel)) ggL_law_X5_shared
set_option maxRecDepth 20000 in
theorem ggL_law_X6_shared : GoodIn wsL_law wsX6_shared := goodIn_r _ [500, 133, 356, 357, 358, 5, 359, 181, 113, 360, 361, 362, 363, 105, 99, 156, 101, 107, 102, 103, 104, 108, 100, 137, 138, 139, 198, 199, 200, 201, 408, 409, 410, 411, 110, 109, 384, 385, 386, 387, 364, 365, 366, 367, 368, 369, 370, 371, 106, 372, 373, 374, 375, 376, 377, 378, 379, 380, 381, 382, 383, 388, 389, 390, 391, 573, 574, 575, 576, 577, 578, 579, 580, 581, 582, 583, 584, 585, 586, 587, 588, 589, 590, 591, 592, 593, 594, 595] (by decide +kernel) (by decide +kernel)
set_option maxRecDepth 20000 in
theorem gL_law_X6_shared : GoodIn wsL_law (wsV RL 68 RX6 yX6_shared wsX6_shared) := goodIn_app (goodIn_of _ (by decide +kernel)) ggL_law_X6_shared
set_option maxRecDepth 20000 in
theorem ggL_law_X5_setting : GoodIn wsL_law wsX5_setting := goodIn_r _ [504, 29, 30, 92, 93, 2, 94, 566, 567, 568, 569, 570, 571, 572] (by decide +kernel) (by decide +kernel)
set_option maxRecDepth 20000 in
theorem gL_law_X5_setting : GoodIn wsL_law (wsV RL 69 RX5 yX5_setting wsX5_setting) := goodIn_app (goodIn_of _ (by decide +kernel)) ggL_law_X5_setting
set_option maxRecDepth 20000 in
theorem ggL_law_X6_setting : GoodIn wsL_law wsX6_setting := goodIn_r _ [508, 133, 111, 112, 137, 138, 5, 139, 573, 574, 575, 576, 577, 578, 579, 580, 581, 582, 583, 584, 585, 586, 587, 588, 589, 590, 591, 592, 593, 594, 595] (by decide +kernel) (by decide +kernel)
set_option maxRecDepth 20000 in
theorem gL_law_X6_setting : GoodIn wsL_law (wsV RL 72 RX6 yX6_setting wsX6_setting) := goodIn_app (goodIn_of _ (by decide +kernel)) ggL_law_X6_setting
set_option maxRecDepth 20000 in
theorem ggL_law_X5_hides : GoodIn wsL_law wsX5_hides := goodIn_r _ [512, 31, 566, 567, 568, 569, 570, 571, 572] (by decide +kernel) (by decide +kernel)
set_option maxRecDepth 20000 in
theorem gL_law_X5_hides : GoodIn wsL_law (wsV RL 73 RX5 yX5_hides wsX5_hides) := goodIn_app (goodIn_of _ (by decide +kernel)) ggL_law_X5_hides
set_option maxRecDepth 20000 in
theorem ggL_law_X6_hides : GoodIn wsL_law wsX6_hides := goodIn_r _ [516, 133, 463, 573, 574, 575, 576, 577, 578, 579, 580, 581, 582, 583, 584, 585, 586, 587, 588, 589, 590, 591, 592, 593, 594, 595] (by decide +kernel) (by decide +kernel)
set_option maxRecDepth 20000 in
theorem gL_law_X6_hides : GoodIn wsL_law (wsV RL 77 RX6 yX6_hides wsX6_hides) := goodIn_app (goodIn_of _ (by decide +kernel)) ggL_law_X6_hides
set_option maxRecDepth 20000 in
theorem ggL_law_X5_gap : GoodIn wsL_law wsX5_gap := goodIn_r _ [520, 28, 24, 20, 125, 126, 2, 127, 92, 93, 94, 430, 431, 432, 433, 31, 434, 435, 436, 23, 437, 58, 52, 212, 213, 214, 27, 215, 62, 216, 63, 217, 218, 219, 71, 220, 221, 222, 223, 68, 69, 70, 72, 73, 74, 224, 225, 226, 227, 228, 229, 230, 19, 231, 44, 40, 41, 42, 43, 39, 232, 233, 234, 235, 236, 237, 78, 65, 238, 82, 239, 240, 241, 242, 243, 244, 245, 246, 247, 248, 77, 249, 250, 251, 252, 253, 254, 255, 81, 256, 257, 258, 259, 260, 261, 54, 262, 263, 264, 265, 266, 267, 268, 269, 270, 271, 272, 273, 274, 86, 275, 276, 277, 278, 90, 279, 280, 281, 282, 283, 64, 284, 285, 286, 287, 288, 289, 290, 291, 292, 293, 294, 295, 296, 297, 298, 299, 300, 301, 302, 303, 304, 305, 306, 307, 308, 309, 310, 311, 312, 313, 314, 315, 316, 317, 318, 319, 320, 321, 322, 323, 324, 325, 326, 66, 67, 327, 328, 329, 330, 331, 332, 333, 334, 335, 336, 337, 338, 339, 340, 91, 341, 342, 343, 344, 345, 346, 347, 348, 349, 350, 351, 438, 439, 440, 441, 442, 443, 444, 445, 30, 446, 447, 29, 448, 449, 566, 567, 568, 569, 570, 571, 572, 602, 603, 604, 605, 606, 607, 608, 609, 610, 611, 612, 613, 614, 615, 616, 617, 618, 619, 620, 621, 622, 623, 596, 597, 598, 599, 600, 601, 624, 625, 626, 627, 628, 629, 630, 631, 632, 633] (by decide +kernel) (by decide +kernel)
set_option maxRecDepth 20000 in
theorem gL_law_X5_gap : GoodIn wsL_law (wsV RL 78 RX5 yX5_gap wsX5_gap) := goodIn_app (goodIn_of _ (by decide +kernel)) ggL_law_X5_gap
set_option maxRecDepth 20000 in
theorem ggL_law_X6_gap : GoodIn wsL_law wsX6_gap := goodIn_r _ [524, 133, 134, 135, 5, 136, 137, 138, 139, 356, 357, 358, 359, 181, 113, 360, 361, 362, 363, 105, 99, 156, 101, 107, 102, 103, 104, 108, 100, 459, 460, 461, 462, 463, 464, 465, 466, 467, 112, 111, 468, 469, 470, 471, 472, 473, 474, 475, 110, 106, 384, 385, 386, 387, 364, 365, 366, 367, 368, 369, 370, 371, 372, 373, 374, 375, 376, 377, 378, 379, 380, 381, 382, 383, 388, 389, 390, 391, 476, 477, 478, 479, 573, 574, 575, 576, 577, 578, 579, 580, 581, 582, 583, 584, 585, 586, 587, 588, 589, 590, 591, 592, 593, 594, 595] (by decide +kernel) (by decide +kernel)
set_option maxRecDepth 20000 in
theorem gL_law_X6_gap : GoodIn wsL_law (wsV RL 81 RX6 yX6_gap wsX6_gap) := goodIn_app (goodIn_of _ (by decide +kernel)) ggL_law_X6_gap
set_option maxRecDepth 20000 in
theorem ggL_law_X5_place : GoodIn wsL_law wsX5_place := goodIn_r _ [528, 424, 529, 28, 24, 20, 33, 125, 126, 2, 127, 92, 93, 94, 430, 431, 432, 433, 31, 434, 435, 436, 23, 437, 58, 52, 212, 213, 214, 27, 215, 62, 216, 63, 217, 218, 219, 71, 220, 221, 222, 223, 68, 69, 70, 72, 73, 74, 224, 225, 226, 227, 228, 229, 230, 19, 231, 44, 40, 41, 42, 43, 39, 232, 233, 234, 235, 236, 237, 78, 65, 238, 82, 239, 240, 241, 242, 243, 244, 245, 246, 247, 248, 77, 249, 250, 251, 252, 253, 254, 255, 81, 256, 257, 258, 259, 260, 261, 54, 262, 263, 264, 265, 266, 267, 268, 269, 270, 271, 272, 273, 274, 86, 275, 276, 277, 278, 90, 279, 280, 281, 282, 283, 64, 284, 285, 286, 287, 288, 289, 290, 291, 292, 293, 294, 295, 296, 297, 298, 299, 300, 301, 302, 303, 304, 305, 306, 307, 308, 309, 310, 311, 312, 313, 314, 315, 316, 317, 318, 319, 320, 321, 322, 323, 324, 325, 326, 66, 67, 327, 328, 329, 330, 331, 332, 333, 334, 335, 336, 337, 338, 339, 340, 91, 341, 342, 343, 344, 345, 346, 347, 348, 349, 350, 351, 426, 427, 428, 429, 438, 439, 440, 441, 442, 443, 444, 445, 30, 446, 447, 29, 448, 449, 566, 567, 568, 569, 570, 571, 572, 602, 603, 604, 605, 606, 607, 608, 609, 610, 611, 612, 613, 614, 615, 616, 617, 618, 619, 620, 621, 622, 623, 596, 597, 598, 599, 600, 601, 624, 625, 626, 627, 628, 629, 630, 631, 632, 633] (by decide +kernel) (by decide +kernel)
set_option maxRecDepth 20000 in
theorem gL_law_X5_place : GoodIn wsL_law (wsV RL 82 RX5 yX5_place wsX5_place) := goodIn_app (goodIn_of _ (by decide +kernel)) ggL_law_X5_place
set_option maxRecDepth 20000 in
theorem ggL_law_X6_place : GoodIn wsL_law wsX6_place := goodIn_r _ [533, 133, 454, 534, 134, 135, 5, 136, 137, 138, 139, 356, 357, 358, 359, 181, 113, 360, 361, 362, 363, 105, 99, 156, 101, 107, 102, 103, 104, 108, 100, 459, 460, 461, 462, 463, 455, 456, 457, 458, 118, 464, 465, 466, 467, 112, 111, 468, 469, 470, 471, 472, 473, 474, 475, 110, 106, 384, 385, 386, 387, 364, 365, 366, 367, 368, 369, 370, 371, 372, 373, 374, 375, 376, 377, 378, 379, 380, 381, 382, 383, 388, 389, 390, 391, 476, 477, 478, 479, 573, 574, 575, 576, 577, 578, 579, 580, 581, 582, 583, 584, 585, 586, 587, 588, 589, 590, 591, 592, 593, 594, 595] (by decide +kernel) (by decide +kernel)
set_option maxRecDepth 20000 in
theorem gL_law_X6_place : GoodIn wsL_law (wsV RL 85 RX6 yX6_place wsX6_place) := goodIn_app (goodIn_of _ (by decide +kernel)) ggL_law_X6_place
set_option maxRecDepth 20000 in
theorem ggL_law_L_crowded : GoodIn wsL_law wsL_crowded := goodIn_ca (goodIn_r _ [537, 538, 539, 540, 541, 2, 542, 543, 544, 28, 24, 20, 484, 545, 125, 126, 127, 92, 93, 94, 212, 213, 214, 27, 215, 62, 216, 63, 217, 218, 219, 71, 220, 221, 222, 223, 68, 69, 70, 72, 73, 74, 224, 225, 226, 227, 228, 229, 230, 19, 231, 44, 40, 41, 42, 43, 39, 232, 233, 234, 235, 236, 237, 78, 65, 238, 82, 239, 240, 241, 242, 243, 244, 245, 246, 247, 248, 77, 249, 250, 251, 252, 253, 254, 255, 81, 256, 257, 258, 259, 260, 23, 261, 52, 54, 262, 263, 264, 265, 266, 267, 268, 269, 270, 271, 272, 273, 274, 86, 275, 276, 277, 278, 90, 279, 280, 281, 282, 283, 64, 284, 285, 286, 287, 288, 289, 290, 291, 292, 293, 294, 295, 296, 297, 298, 299, 300, 301, 302, 303, 304, 305, 306, 307, 308, 309, 310, 311, 312, 313, 314, 315, 316, 317, 318, 319, 320, 321, 322, 323, 324, 325, 326, 66, 67, 327, 328, 329, 330, 331, 332, 333, 334, 335, 336, 337, 338, 339, 340, 91, 341, 342, 343, 344, 345, 346, 347, 348, 349, 350, 351, 449, 566, 567, 568, 569, 570, 571, 572, 609, 610, 611, 612, 613, 614, 615, 616, 617, 618, 619, 620, 621, 622, 623, 602, 603, 604, 605, 606, 607, 608, 596, 597, 598, 599, 600, 601, 624, 625, 626, 627, 628, 629, 630, 631, 632, 633] (by decide +kernel) (by decide +kernel)) (goodIn_sub (fun _ h => List.mem_append_right _ h) (by decide +kernel))
set_option maxRecDepth 20000 in
theorem gL_law_L_crowded : GoodIn wsL_law (va_wsS RL 86 yL_crowded wsL_crowded) := goodIn_app (goodIn_of _ (by decide +kernel)) ggL_law_L_crowded
set_option maxRecDepth 20000 in
theorem ggL_law_X6_crowded : GoodIn wsL_law wsX6_crowded := goodIn_r _ [549, 133, 114, 134, 135, 5, 136, 137, 138, 139, 356, 357, 358, 359, 181, 113, 360, 361, 362, 363, 105, 99, 156, 101, 107, 102, 103, 104, 108, 100, 376, 377, 378, 379, 380, 381, 382, 383, 106, 384, 385, 386, 387, 400, 401, 402, 403, 115, 392, 393, 394, 395, 368, 369, 370, 371, 372, 373, 374, 375, 388, 389, 390, 391, 364, 365, 366, 367, 396, 397, 398, 399, 404, 405, 406, 407, 408, 409, 410, 411, 110, 109, 573, 574, 575, 576, 577, 578, 579, 580, 581, 582, 583, 584, 585, 586, 587, 588, 589, 590, 591, 592, 593, 594, 595] (by decide +kernel) (by decide +kernel)
set_option maxRecDepth 20000 in
theorem gL_law_X6_crowded : GoodIn wsL_law (wsV RL 89 RX6 yX6_crowded wsX6_crowded) := goodIn_app (goodIn_of _ (by decide +kernel)) ggL_law_X6_crowded
set_option maxRecDepth 20000 in
theorem ggL_law_X6_thrown : GoodIn wsL_law wsX6_thrown := goodIn_r _ [553, 133, 573, 574, 575, 576, 577, 578, 579, 580, 581, 582, 583, 584, 585, 586, 587, 588, 589, 590, 591, 592, 593, 594, 595] (by decide +kernel) (by decide +kernel)
set_option maxRecDepth 20000 in
theorem gL_law_X6_thrown : GoodIn wsL_law (wsV RL 90 RX6 yX6_thrown wsX6_thrown) := goodIn_app (goodIn_of _ (by decide +kernel)) ggL_law_X6_thrown
set_option maxRecDepth 20000 in
theorem ggL_law_X5_about : GoodIn wsL_law wsX5_about := goodIn_r _ [557, 24, 169, 20, 144, 558, 559, 560, 2, 561, 430, 431, 432, 433, 31, 434, 435, 436, 23, 437, 58, 52, 566, 567, 568, 569, 570, 571, 572, 602, 603, 604, 605, 606, 607, 608, 596, 597, 598, 599, 600, 601] (by decide +kernel) (by decide +kernel)
set_option maxRecDepth 20000 in
theorem gL_law_X5_about : GoodIn wsL_law (wsV RL 93 RX5 yX5_about wsX5_about) := goodIn_app (goodIn_of _ (by decide +kernel)) ggL_law_X5_about
set_option maxRecDepth 20000 in
theorem ggL_law_X6_about : GoodIn wsL_law wsX6_about := goodIn_r _ [565, 133, 181, 156, 459, 460, 461, 5, 462, 463, 105, 573, 574, 575, 576, 577, 578, 579, 580, 581, 582, 583, 584, 585, 586, 587, 588, 589, 590, 591, 592, 593, 594, 595] (by decide +kernel) (by decide +kernel)
set_option maxRecDepth 20000 in
theorem gL_law_X6_about : GoodIn wsL_law (wsV RL 96 RX6 yX6_about wsX6_about) := goodIn_app (goodIn_of _ (by decide +kernel)) ggL_law_X6_about
end
section
theorem dL_law_0 : decode cL_law 0 = .ok (.new 8, 3) := by decide +kernel
theorem dL_law_3 : decode cL_law 3 = .ok (.dup, 1) := by decide +kernel
theorem dL_law_4 : decode cL_law 4 = .ok (.aload_n 0, 1) := by decide +kernel
theorem dL_law_5 : decode cL_law 5 = .ok (.iconst 0, 1) := by decide +kernel
theorem dL_law_6 : decode cL_law 6 = .ok (.invokestatic 15, 3) := by decide +kernel
theorem dL_law_9 : decode cL_law 9 = .ok (.invokespecial 21, 3) := by decide +kernel
theorem dL_law_12 : decode cL_law 12 = .ok (.astore_n 1, 1) := by decide +kernel
theorem dL_law_13 : decode cL_law 13 = .ok (.new 24, 3) := by decide +kernel
theorem dL_law_16 : decode cL_law 16 = .ok (.dup, 1) := by decide +kernel
theorem dL_law_17 : decode cL_law 17 = .ok (.aload_n 0, 1) := by decide +kernel
theorem dL_law_18 : decode cL_law 18 = .ok (.iconst 0, 1) := by decide +kernel
theorem dL_law_19 : decode cL_law 19 = .ok (.invokestatic 15, 3) := by decide +kernel
theorem dL_law_22 : decode cL_law 22 = .ok (.invokespecial 26, 3) := by decide +kernel
theorem dL_law_25 : decode cL_law 25 = .ok (.astore_n 2, 1) := by decide +kernel
theorem dL_law_26 : decode cL_law 26 = .ok (.iconst 1, 1) := by decide +kernel
theorem dL_law_27 : decode cL_law 27 = .ok (.newarray .long, 2) := by decide +kernel
theorem dL_law_29 : decode cL_law 29 = .ok (.astore_n 3, 1) := by decide +kernel
theorem dL_law_30 : decode cL_law 30 = .ok (.iconst 1, 1) := by decide +kernel
theorem dL_law_31 : decode cL_law 31 = .ok (.istore 4, 2) := by decide +kernel
theorem dL_law_33 : decode cL_law 33 = .ok (.iload 4, 2) := by decide +kernel
theorem dL_law_35 : decode cL_law 35 = .ok (.aload_n 0, 1) := by decide +kernel
theorem dL_law_36 : decode cL_law 36 = .ok (.arraylength, 1) := by decide +kernel
theorem dL_law_37 : decode cL_law 37 = .ok (.bipush 8, 2) := by decide +kernel
theorem dL_law_39 : decode cL_law 39 = .ok (.isub, 1) := by decide +kernel
theorem dL_law_40 : decode cL_law 40 = .ok (.if_icmp .gt 698, 3) := by decide +kernel
theorem dL_law_43 : decode cL_law 43 = .ok (.aload_n 0, 1) := by decide +kernel
theorem dL_law_44 : decode cL_law 44 = .ok (.iload 4, 2) := by decide +kernel
theorem dL_law_46 : decode cL_law 46 = .ok (.iaload, 1) := by decide +kernel
theorem dL_law_47 : decode cL_law 47 = .ok (.bipush 15, 2) := by decide +kernel
theorem dL_law_49 : decode cL_law 49 = .ok (.iand, 1) := by decide +kernel
theorem dL_law_50 : decode cL_law 50 = .ok (.tableswitch 682 0 14 #[74, 123, 184, 197, 298, 323, 360, 386, 435, 472, 509, 550, 575, 601, 657], 74) := by decide +kernel
theorem dL_law_124 : decode cL_law 124 = .ok (.aload_n 1, 1) := by decide +kernel
theorem dL_law_125 : decode cL_law 125 = .ok (.aload_n 0, 1) := by decide +kernel
theorem dL_law_126 : decode cL_law 126 = .ok (.iload 4, 2) := by decide +kernel
theorem dL_law_128 : decode cL_law 128 = .ok (.iconst 1, 1) := by decide +kernel
theorem dL_law_129 : decode cL_law 129 = .ok (.iadd, 1) := by decide +kernel
theorem dL_law_130 : decode cL_law 130 = .ok (.iaload, 1) := by decide +kernel
theorem dL_law_131 : decode cL_law 131 = .ok (.aload_n 0, 1) := by decide +kernel
theorem dL_law_132 : decode cL_law 132 = .ok (.iload 4, 2) := by decide +kernel
theorem dL_law_134 : decode cL_law 134 = .ok (.iconst 2, 1) := by decide +kernel
theorem dL_law_135 : decode cL_law 135 = .ok (.iadd, 1) := by decide +kernel
theorem dL_law_136 : decode cL_law 136 = .ok (.iaload, 1) := by decide +kernel
theorem dL_law_137 : decode cL_law 137 = .ok (.aload_n 0, 1) := by decide +kernel
theorem dL_law_138 : decode cL_law 138 = .ok (.iload 4, 2) := by decide +kernel
theorem dL_law_140 : decode cL_law 140 = .ok (.iconst 3, 1) := by decide +kernel
theorem dL_law_141 : decode cL_law 141 = .ok (.iadd, 1) := by decide +kernel
theorem dL_law_142 : decode cL_law 142 = .ok (.iaload, 1) := by decide +kernel
theorem dL_law_143 : decode cL_law 143 = .ok (.invokevirtual 27, 3) := by decide +kernel
theorem dL_law_146 : decode cL_law 146 = .ok (.aload_n 2, 1) := by decide +kernel
theorem dL_law_147 : decode cL_law 147 = .ok (.aload_n 0, 1) := by decide +kernel
theorem dL_law_148 : decode cL_law 148 = .ok (.iload 4, 2) := by decide +kernel
theorem dL_law_150 : decode cL_law 150 = .ok (.iconst 1, 1) := by decide +kernel
theorem dL_law_151 : decode cL_law 151 = .ok (.iadd, 1) := by decide +kernel
theorem dL_law_152 : decode cL_law 152 = .ok (.iaload, 1) := by decide +kernel
theorem dL_law_153 : decode cL_law 153 = .ok (.aload_n 0, 1) := by decide +kernel
theorem dL_law_154 : decode cL_law 154 = .ok (.iload 4, 2) := by decide +kernel
theorem dL_law_156 : decode cL_law 156 = .ok (.iconst 2, 1) := by decide +kernel
theorem dL_law_157 : decode cL_law 157 = .ok (.iadd, 1) := by decide +kernel
theorem dL_law_158 : decode cL_law 158 = .ok (.iaload, 1) := by decide +kernel
theorem dL_law_159 : decode cL_law 159 = .ok (.aload_n 0, 1) := by decide +kernel
theorem dL_law_160 : decode cL_law 160 = .ok (.iload 4, 2) := by decide +kernel
theorem dL_law_162 : decode cL_law 162 = .ok (.iconst 3, 1) := by decide +kernel
theorem dL_law_163 : decode cL_law 163 = .ok (.iadd, 1) := by decide +kernel
theorem dL_law_164 : decode cL_law 164 = .ok (.iaload, 1) := by decide +kernel
theorem dL_law_165 : decode cL_law 165 = .ok (.invokevirtual 31, 3) := by decide +kernel
theorem dL_law_168 : decode cL_law 168 = .ok (.if_icmp .eq 564, 3) := by decide +kernel
theorem dL_law_171 : decode cL_law 171 = .ok (.iconst 0, 1) := by decide +kernel
theorem dL_law_172 : decode cL_law 172 = .ok (.ireturn, 1) := by decide +kernel
theorem dL_law_173 : decode cL_law 173 = .ok (.aload_n 1, 1) := by decide +kernel
theorem dL_law_174 : decode cL_law 174 = .ok (.aload_n 0, 1) := by decide +kernel
theorem dL_law_175 : decode cL_law 175 = .ok (.iload 4, 2) := by decide +kernel
theorem dL_law_177 : decode cL_law 177 = .ok (.iconst 1, 1) := by decide +kernel
theorem dL_law_178 : decode cL_law 178 = .ok (.iadd, 1) := by decide +kernel
theorem dL_law_179 : decode cL_law 179 = .ok (.iaload, 1) := by decide +kernel
theorem dL_law_180 : decode cL_law 180 = .ok (.aload_n 0, 1) := by decide +kernel
theorem dL_law_181 : decode cL_law 181 = .ok (.iload 4, 2) := by decide +kernel
theorem dL_law_183 : decode cL_law 183 = .ok (.iconst 2, 1) := by decide +kernel
theorem dL_law_184 : decode cL_law 184 = .ok (.iadd, 1) := by decide +kernel
theorem dL_law_185 : decode cL_law 185 = .ok (.iaload, 1) := by decide +kernel
theorem dL_law_186 : decode cL_law 186 = .ok (.aload_n 0, 1) := by decide +kernel
theorem dL_law_187 : decode cL_law 187 = .ok (.iload 4, 2) := by decide +kernel
theorem dL_law_189 : decode cL_law 189 = .ok (.iconst 3, 1) := by decide +kernel
theorem dL_law_190 : decode cL_law 190 = .ok (.iadd, 1) := by decide +kernel
theorem dL_law_191 : decode cL_law 191 = .ok (.iaload, 1) := by decide +kernel
theorem dL_law_192 : decode cL_law 192 = .ok (.aload_n 0, 1) := by decide +kernel
theorem dL_law_193 : decode cL_law 193 = .ok (.iload 4, 2) := by decide +kernel
theorem dL_law_195 : decode cL_law 195 = .ok (.iconst 4, 1) := by decide +kernel
theorem dL_law_196 : decode cL_law 196 = .ok (.iadd, 1) := by decide +kernel
theorem dL_law_197 : decode cL_law 197 = .ok (.iaload, 1) := by decide +kernel
theorem dL_law_198 : decode cL_law 198 = .ok (.invokevirtual 32, 3) := by decide +kernel
theorem dL_law_201 : decode cL_law 201 = .ok (.aload_n 2, 1) := by decide +kernel
theorem dL_law_202 : decode cL_law 202 = .ok (.aload_n 0, 1) := by decide +kernel
theorem dL_law_203 : decode cL_law 203 = .ok (.iload 4, 2) := by decide +kernel
theorem dL_law_205 : decode cL_law 205 = .ok (.iconst 1, 1) := by decide +kernel
theorem dL_law_206 : decode cL_law 206 = .ok (.iadd, 1) := by decide +kernel
theorem dL_law_207 : decode cL_law 207 = .ok (.iaload, 1) := by decide +kernel
theorem dL_law_208 : decode cL_law 208 = .ok (.aload_n 0, 1) := by decide +kernel
theorem dL_law_209 : decode cL_law 209 = .ok (.iload 4, 2) := by decide +kernel
theorem dL_law_211 : decode cL_law 211 = .ok (.iconst 2, 1) := by decide +kernel
theorem dL_law_212 : decode cL_law 212 = .ok (.iadd, 1) := by decide +kernel
theorem dL_law_213 : decode cL_law 213 = .ok (.iaload, 1) := by decide +kernel
theorem dL_law_214 : decode cL_law 214 = .ok (.aload_n 0, 1) := by decide +kernel
theorem dL_law_215 : decode cL_law 215 = .ok (.iload 4, 2) := by decide +kernel
theorem dL_law_217 : decode cL_law 217 = .ok (.iconst 3, 1) := by decide +kernel
theorem dL_law_218 : decode cL_law 218 = .ok (.iadd, 1) := by decide +kernel
theorem dL_law_219 : decode cL_law 219 = .ok (.iaload, 1) := by decide +kernel
theorem dL_law_220 : decode cL_law 220 = .ok (.aload_n 0, 1) := by decide +kernel
theorem dL_law_221 : decode cL_law 221 = .ok (.iload 4, 2) := by decide +kernel
theorem dL_law_223 : decode cL_law 223 = .ok (.iconst 4, 1) := by decide +kernel
theorem dL_law_224 : decode cL_law 224 = .ok (.iadd, 1) := by decide +kernel
theorem dL_law_225 : decode cL_law 225 = .ok (.iaload, 1) := by decide +kernel
theorem dL_law_226 : decode cL_law 226 = .ok (.invokevirtual 36, 3) := by decide +kernel
theorem dL_law_229 : decode cL_law 229 = .ok (.if_icmp .eq 503, 3) := by decide +kernel
theorem dL_law_232 : decode cL_law 232 = .ok (.iconst 0, 1) := by decide +kernel
theorem dL_law_233 : decode cL_law 233 = .ok (.ireturn, 1) := by decide +kernel
theorem dL_law_234 : decode cL_law 234 = .ok (.aload_n 1, 1) := by decide +kernel
theorem dL_law_235 : decode cL_law 235 = .ok (.invokevirtual 37, 3) := by decide +kernel
theorem dL_law_238 : decode cL_law 238 = .ok (.aload_n 2, 1) := by decide +kernel
theorem dL_law_239 : decode cL_law 239 = .ok (.invokevirtual 41, 3) := by decide +kernel
theorem dL_law_242 : decode cL_law 242 = .ok (.if_icmp .eq 490, 3) := by decide +kernel
theorem dL_law_245 : decode cL_law 245 = .ok (.iconst 0, 1) := by decide +kernel
theorem dL_law_246 : decode cL_law 246 = .ok (.ireturn, 1) := by decide +kernel
theorem dL_law_247 : decode cL_law 247 = .ok (.aload_n 1, 1) := by decide +kernel
theorem dL_law_248 : decode cL_law 248 = .ok (.aload_n 0, 1) := by decide +kernel
theorem dL_law_249 : decode cL_law 249 = .ok (.iload 4, 2) := by decide +kernel
theorem dL_law_251 : decode cL_law 251 = .ok (.iconst 1, 1) := by decide +kernel
theorem dL_law_252 : decode cL_law 252 = .ok (.iadd, 1) := by decide +kernel
theorem dL_law_253 : decode cL_law 253 = .ok (.iaload, 1) := by decide +kernel
theorem dL_law_254 : decode cL_law 254 = .ok (.aload_n 0, 1) := by decide +kernel
theorem dL_law_255 : decode cL_law 255 = .ok (.iload 4, 2) := by decide +kernel
theorem dL_law_257 : decode cL_law 257 = .ok (.iconst 2, 1) := by decide +kernel
theorem dL_law_258 : decode cL_law 258 = .ok (.iadd, 1) := by decide +kernel
theorem dL_law_259 : decode cL_law 259 = .ok (.iaload, 1) := by decide +kernel
theorem dL_law_260 : decode cL_law 260 = .ok (.aload_n 0, 1) := by decide +kernel
theorem dL_law_261 : decode cL_law 261 = .ok (.iload 4, 2) := by decide +kernel
theorem dL_law_263 : decode cL_law 263 = .ok (.iconst 3, 1) := by decide +kernel
theorem dL_law_264 : decode cL_law 264 = .ok (.iadd, 1) := by decide +kernel
theorem dL_law_265 : decode cL_law 265 = .ok (.iaload, 1) := by decide +kernel
theorem dL_law_266 : decode cL_law 266 = .ok (.aload_n 0, 1) := by decide +kernel
theorem dL_law_267 : decode cL_law 267 = .ok (.iload 4, 2) := by decide +kernel
theorem dL_law_269 : decode cL_law 269 = .ok (.iconst 4, 1) := by decide +kernel
theorem dL_law_270 : decode cL_law 270 = .ok (.iadd, 1) := by decide +kernel
theorem dL_law_271 : decode cL_law 271 = .ok (.iaload, 1) := by decide +kernel
theorem dL_law_272 : decode cL_law 272 = .ok (.aload_n 0, 1) := by decide +kernel
theorem dL_law_273 : decode cL_law 273 = .ok (.iload 4, 2) := by decide +kernel
theorem dL_law_275 : decode cL_law 275 = .ok (.iconst 5, 1) := by decide +kernel
theorem dL_law_276 : decode cL_law 276 = .ok (.iadd, 1) := by decide +kernel
theorem dL_law_277 : decode cL_law 277 = .ok (.iaload, 1) := by decide +kernel
theorem dL_law_278 : decode cL_law 278 = .ok (.aload_n 0, 1) := by decide +kernel
theorem dL_law_279 : decode cL_law 279 = .ok (.iload 4, 2) := by decide +kernel
theorem dL_law_281 : decode cL_law 281 = .ok (.bipush 6, 2) := by decide +kernel
theorem dL_law_283 : decode cL_law 283 = .ok (.iadd, 1) := by decide +kernel
theorem dL_law_284 : decode cL_law 284 = .ok (.iaload, 1) := by decide +kernel
theorem dL_law_285 : decode cL_law 285 = .ok (.aload_n 0, 1) := by decide +kernel
theorem dL_law_286 : decode cL_law 286 = .ok (.iload 4, 2) := by decide +kernel
theorem dL_law_288 : decode cL_law 288 = .ok (.bipush 7, 2) := by decide +kernel
theorem dL_law_290 : decode cL_law 290 = .ok (.iadd, 1) := by decide +kernel
theorem dL_law_291 : decode cL_law 291 = .ok (.iaload, 1) := by decide +kernel
theorem dL_law_292 : decode cL_law 292 = .ok (.invokevirtual 42, 3) := by decide +kernel
theorem dL_law_295 : decode cL_law 295 = .ok (.aload_n 2, 1) := by decide +kernel
theorem dL_law_296 : decode cL_law 296 = .ok (.aload_n 0, 1) := by decide +kernel
theorem dL_law_297 : decode cL_law 297 = .ok (.iload 4, 2) := by decide +kernel
theorem dL_law_299 : decode cL_law 299 = .ok (.iconst 1, 1) := by decide +kernel
theorem dL_law_300 : decode cL_law 300 = .ok (.iadd, 1) := by decide +kernel
theorem dL_law_301 : decode cL_law 301 = .ok (.iaload, 1) := by decide +kernel
theorem dL_law_302 : decode cL_law 302 = .ok (.aload_n 0, 1) := by decide +kernel
theorem dL_law_303 : decode cL_law 303 = .ok (.iload 4, 2) := by decide +kernel
theorem dL_law_305 : decode cL_law 305 = .ok (.iconst 2, 1) := by decide +kernel
theorem dL_law_306 : decode cL_law 306 = .ok (.iadd, 1) := by decide +kernel
theorem dL_law_307 : decode cL_law 307 = .ok (.iaload, 1) := by decide +kernel
theorem dL_law_308 : decode cL_law 308 = .ok (.aload_n 0, 1) := by decide +kernel
theorem dL_law_309 : decode cL_law 309 = .ok (.iload 4, 2) := by decide +kernel
theorem dL_law_311 : decode cL_law 311 = .ok (.iconst 3, 1) := by decide +kernel
theorem dL_law_312 : decode cL_law 312 = .ok (.iadd, 1) := by decide +kernel
theorem dL_law_313 : decode cL_law 313 = .ok (.iaload, 1) := by decide +kernel
theorem dL_law_314 : decode cL_law 314 = .ok (.aload_n 0, 1) := by decide +kernel
theorem dL_law_315 : decode cL_law 315 = .ok (.iload 4, 2) := by decide +kernel
theorem dL_law_317 : decode cL_law 317 = .ok (.iconst 4, 1) := by decide +kernel
theorem dL_law_318 : decode cL_law 318 = .ok (.iadd, 1) := by decide +kernel
theorem dL_law_319 : decode cL_law 319 = .ok (.iaload, 1) := by decide +kernel
theorem dL_law_320 : decode cL_law 320 = .ok (.aload_n 0, 1) := by decide +kernel
theorem dL_law_321 : decode cL_law 321 = .ok (.iload 4, 2) := by decide +kernel
theorem dL_law_323 : decode cL_law 323 = .ok (.iconst 5, 1) := by decide +kernel
theorem dL_law_324 : decode cL_law 324 = .ok (.iadd, 1) := by decide +kernel
theorem dL_law_325 : decode cL_law 325 = .ok (.iaload, 1) := by decide +kernel
theorem dL_law_326 : decode cL_law 326 = .ok (.aload_n 0, 1) := by decide +kernel
theorem dL_law_327 : decode cL_law 327 = .ok (.iload 4, 2) := by decide +kernel
theorem dL_law_329 : decode cL_law 329 = .ok (.bipush 6, 2) := by decide +kernel
theorem dL_law_331 : decode cL_law 331 = .ok (.iadd, 1) := by decide +kernel
theorem dL_law_332 : decode cL_law 332 = .ok (.iaload, 1) := by decide +kernel
theorem dL_law_333 : decode cL_law 333 = .ok (.aload_n 0, 1) := by decide +kernel
theorem dL_law_334 : decode cL_law 334 = .ok (.iload 4, 2) := by decide +kernel
theorem dL_law_336 : decode cL_law 336 = .ok (.bipush 7, 2) := by decide +kernel
theorem dL_law_338 : decode cL_law 338 = .ok (.iadd, 1) := by decide +kernel
theorem dL_law_339 : decode cL_law 339 = .ok (.iaload, 1) := by decide +kernel
theorem dL_law_340 : decode cL_law 340 = .ok (.invokevirtual 46, 3) := by decide +kernel
theorem dL_law_343 : decode cL_law 343 = .ok (.if_icmp .eq 389, 3) := by decide +kernel
theorem dL_law_346 : decode cL_law 346 = .ok (.iconst 0, 1) := by decide +kernel
theorem dL_law_347 : decode cL_law 347 = .ok (.ireturn, 1) := by decide +kernel
theorem dL_law_348 : decode cL_law 348 = .ok (.aload_n 1, 1) := by decide +kernel
theorem dL_law_349 : decode cL_law 349 = .ok (.aload_n 0, 1) := by decide +kernel
theorem dL_law_350 : decode cL_law 350 = .ok (.iload 4, 2) := by decide +kernel
theorem dL_law_352 : decode cL_law 352 = .ok (.iconst 1, 1) := by decide +kernel
theorem dL_law_353 : decode cL_law 353 = .ok (.iadd, 1) := by decide +kernel
theorem dL_law_354 : decode cL_law 354 = .ok (.iaload, 1) := by decide +kernel
theorem dL_law_355 : decode cL_law 355 = .ok (.invokevirtual 47, 3) := by decide +kernel
theorem dL_law_358 : decode cL_law 358 = .ok (.aload_n 2, 1) := by decide +kernel
theorem dL_law_359 : decode cL_law 359 = .ok (.aload_n 0, 1) := by decide +kernel
theorem dL_law_360 : decode cL_law 360 = .ok (.iload 4, 2) := by decide +kernel
theorem dL_law_362 : decode cL_law 362 = .ok (.iconst 1, 1) := by decide +kernel
theorem dL_law_363 : decode cL_law 363 = .ok (.iadd, 1) := by decide +kernel
theorem dL_law_364 : decode cL_law 364 = .ok (.iaload, 1) := by decide +kernel
theorem dL_law_365 : decode cL_law 365 = .ok (.invokevirtual 50, 3) := by decide +kernel
theorem dL_law_368 : decode cL_law 368 = .ok (.if_icmp .eq 364, 3) := by decide +kernel
theorem dL_law_371 : decode cL_law 371 = .ok (.iconst 0, 1) := by decide +kernel
theorem dL_law_372 : decode cL_law 372 = .ok (.ireturn, 1) := by decide +kernel
theorem dL_law_373 : decode cL_law 373 = .ok (.aload_n 1, 1) := by decide +kernel
theorem dL_law_374 : decode cL_law 374 = .ok (.aload_n 0, 1) := by decide +kernel
theorem dL_law_375 : decode cL_law 375 = .ok (.iload 4, 2) := by decide +kernel
theorem dL_law_377 : decode cL_law 377 = .ok (.iconst 1, 1) := by decide +kernel
theorem dL_law_378 : decode cL_law 378 = .ok (.iadd, 1) := by decide +kernel
theorem dL_law_379 : decode cL_law 379 = .ok (.iaload, 1) := by decide +kernel
theorem dL_law_380 : decode cL_law 380 = .ok (.aload_n 0, 1) := by decide +kernel
theorem dL_law_381 : decode cL_law 381 = .ok (.iload 4, 2) := by decide +kernel
theorem dL_law_383 : decode cL_law 383 = .ok (.iconst 2, 1) := by decide +kernel
theorem dL_law_384 : decode cL_law 384 = .ok (.iadd, 1) := by decide +kernel
theorem dL_law_385 : decode cL_law 385 = .ok (.iaload, 1) := by decide +kernel
theorem dL_law_386 : decode cL_law 386 = .ok (.invokevirtual 51, 3) := by decide +kernel
theorem dL_law_389 : decode cL_law 389 = .ok (.aload_n 2, 1) := by decide +kernel
theorem dL_law_390 : decode cL_law 390 = .ok (.aload_n 0, 1) := by decide +kernel
theorem dL_law_391 : decode cL_law 391 = .ok (.iload 4, 2) := by decide +kernel
theorem dL_law_393 : decode cL_law 393 = .ok (.iconst 1, 1) := by decide +kernel
theorem dL_law_394 : decode cL_law 394 = .ok (.iadd, 1) := by decide +kernel
theorem dL_law_395 : decode cL_law 395 = .ok (.iaload, 1) := by decide +kernel
theorem dL_law_396 : decode cL_law 396 = .ok (.aload_n 0, 1) := by decide +kernel
theorem dL_law_397 : decode cL_law 397 = .ok (.iload 4, 2) := by decide +kernel
theorem dL_law_399 : decode cL_law 399 = .ok (.iconst 2, 1) := by decide +kernel
theorem dL_law_400 : decode cL_law 400 = .ok (.iadd, 1) := by decide +kernel
theorem dL_law_401 : decode cL_law 401 = .ok (.iaload, 1) := by decide +kernel
theorem dL_law_402 : decode cL_law 402 = .ok (.invokevirtual 55, 3) := by decide +kernel
theorem dL_law_405 : decode cL_law 405 = .ok (.if_icmp .eq 327, 3) := by decide +kernel
theorem dL_law_408 : decode cL_law 408 = .ok (.iconst 0, 1) := by decide +kernel
theorem dL_law_409 : decode cL_law 409 = .ok (.ireturn, 1) := by decide +kernel
theorem dL_law_410 : decode cL_law 410 = .ok (.aload_n 1, 1) := by decide +kernel
theorem dL_law_411 : decode cL_law 411 = .ok (.aload_n 0, 1) := by decide +kernel
theorem dL_law_412 : decode cL_law 412 = .ok (.iload 4, 2) := by decide +kernel
theorem dL_law_414 : decode cL_law 414 = .ok (.iconst 1, 1) := by decide +kernel
theorem dL_law_415 : decode cL_law 415 = .ok (.iadd, 1) := by decide +kernel
theorem dL_law_416 : decode cL_law 416 = .ok (.iaload, 1) := by decide +kernel
theorem dL_law_417 : decode cL_law 417 = .ok (.invokevirtual 56, 3) := by decide +kernel
theorem dL_law_420 : decode cL_law 420 = .ok (.aload_n 2, 1) := by decide +kernel
theorem dL_law_421 : decode cL_law 421 = .ok (.aload_n 0, 1) := by decide +kernel
theorem dL_law_422 : decode cL_law 422 = .ok (.iload 4, 2) := by decide +kernel
theorem dL_law_424 : decode cL_law 424 = .ok (.iconst 1, 1) := by decide +kernel
theorem dL_law_425 : decode cL_law 425 = .ok (.iadd, 1) := by decide +kernel
theorem dL_law_426 : decode cL_law 426 = .ok (.iaload, 1) := by decide +kernel
theorem dL_law_427 : decode cL_law 427 = .ok (.invokevirtual 60, 3) := by decide +kernel
theorem dL_law_430 : decode cL_law 430 = .ok (.lcmp, 1) := by decide +kernel
theorem dL_law_431 : decode cL_law 431 = .ok (.ifCond .eq 301, 3) := by decide +kernel
theorem dL_law_434 : decode cL_law 434 = .ok (.iconst 0, 1) := by decide +kernel
theorem dL_law_435 : decode cL_law 435 = .ok (.ireturn, 1) := by decide +kernel
theorem dL_law_436 : decode cL_law 436 = .ok (.aload_n 1, 1) := by decide +kernel
theorem dL_law_437 : decode cL_law 437 = .ok (.aload_n 0, 1) := by decide +kernel
theorem dL_law_438 : decode cL_law 438 = .ok (.iload 4, 2) := by decide +kernel
theorem dL_law_440 : decode cL_law 440 = .ok (.iconst 1, 1) := by decide +kernel
theorem dL_law_441 : decode cL_law 441 = .ok (.iadd, 1) := by decide +kernel
theorem dL_law_442 : decode cL_law 442 = .ok (.iaload, 1) := by decide +kernel
theorem dL_law_443 : decode cL_law 443 = .ok (.aload_n 0, 1) := by decide +kernel
theorem dL_law_444 : decode cL_law 444 = .ok (.iload 4, 2) := by decide +kernel
theorem dL_law_446 : decode cL_law 446 = .ok (.iconst 2, 1) := by decide +kernel
theorem dL_law_447 : decode cL_law 447 = .ok (.iadd, 1) := by decide +kernel
theorem dL_law_448 : decode cL_law 448 = .ok (.iaload, 1) := by decide +kernel
theorem dL_law_449 : decode cL_law 449 = .ok (.aload_n 0, 1) := by decide +kernel
theorem dL_law_450 : decode cL_law 450 = .ok (.iload 4, 2) := by decide +kernel
theorem dL_law_452 : decode cL_law 452 = .ok (.iconst 3, 1) := by decide +kernel
theorem dL_law_453 : decode cL_law 453 = .ok (.iadd, 1) := by decide +kernel
theorem dL_law_454 : decode cL_law 454 = .ok (.iaload, 1) := by decide +kernel
theorem dL_law_455 : decode cL_law 455 = .ok (.invokevirtual 61, 3) := by decide +kernel
theorem dL_law_458 : decode cL_law 458 = .ok (.aload_n 2, 1) := by decide +kernel
theorem dL_law_459 : decode cL_law 459 = .ok (.aload_n 0, 1) := by decide +kernel
theorem dL_law_460 : decode cL_law 460 = .ok (.iload 4, 2) := by decide +kernel
theorem dL_law_462 : decode cL_law 462 = .ok (.iconst 1, 1) := by decide +kernel
theorem dL_law_463 : decode cL_law 463 = .ok (.iadd, 1) := by decide +kernel
theorem dL_law_464 : decode cL_law 464 = .ok (.iaload, 1) := by decide +kernel
theorem dL_law_465 : decode cL_law 465 = .ok (.aload_n 0, 1) := by decide +kernel
theorem dL_law_466 : decode cL_law 466 = .ok (.iload 4, 2) := by decide +kernel
theorem dL_law_468 : decode cL_law 468 = .ok (.iconst 2, 1) := by decide +kernel
theorem dL_law_469 : decode cL_law 469 = .ok (.iadd, 1) := by decide +kernel
theorem dL_law_470 : decode cL_law 470 = .ok (.iaload, 1) := by decide +kernel
theorem dL_law_471 : decode cL_law 471 = .ok (.aload_n 0, 1) := by decide +kernel
theorem dL_law_472 : decode cL_law 472 = .ok (.iload 4, 2) := by decide +kernel
theorem dL_law_474 : decode cL_law 474 = .ok (.iconst 3, 1) := by decide +kernel
theorem dL_law_475 : decode cL_law 475 = .ok (.iadd, 1) := by decide +kernel
theorem dL_law_476 : decode cL_law 476 = .ok (.iaload, 1) := by decide +kernel
theorem dL_law_477 : decode cL_law 477 = .ok (.invokevirtual 64, 3) := by decide +kernel
theorem dL_law_480 : decode cL_law 480 = .ok (.if_icmp .eq 252, 3) := by decide +kernel
theorem dL_law_483 : decode cL_law 483 = .ok (.iconst 0, 1) := by decide +kernel
theorem dL_law_484 : decode cL_law 484 = .ok (.ireturn, 1) := by decide +kernel
theorem dL_law_485 : decode cL_law 485 = .ok (.aload_n 1, 1) := by decide +kernel
theorem dL_law_486 : decode cL_law 486 = .ok (.aload_n 0, 1) := by decide +kernel
theorem dL_law_487 : decode cL_law 487 = .ok (.iload 4, 2) := by decide +kernel
theorem dL_law_489 : decode cL_law 489 = .ok (.iconst 1, 1) := by decide +kernel
theorem dL_law_490 : decode cL_law 490 = .ok (.iadd, 1) := by decide +kernel
theorem dL_law_491 : decode cL_law 491 = .ok (.iaload, 1) := by decide +kernel
theorem dL_law_492 : decode cL_law 492 = .ok (.aload_n 0, 1) := by decide +kernel
theorem dL_law_493 : decode cL_law 493 = .ok (.iload 4, 2) := by decide +kernel
theorem dL_law_495 : decode cL_law 495 = .ok (.iconst 2, 1) := by decide +kernel
theorem dL_law_496 : decode cL_law 496 = .ok (.iadd, 1) := by decide +kernel
theorem dL_law_497 : decode cL_law 497 = .ok (.iaload, 1) := by decide +kernel
theorem dL_law_498 : decode cL_law 498 = .ok (.invokevirtual 65, 3) := by decide +kernel
theorem dL_law_501 : decode cL_law 501 = .ok (.aload_n 2, 1) := by decide +kernel
theorem dL_law_502 : decode cL_law 502 = .ok (.aload_n 0, 1) := by decide +kernel
theorem dL_law_503 : decode cL_law 503 = .ok (.iload 4, 2) := by decide +kernel
theorem dL_law_505 : decode cL_law 505 = .ok (.iconst 1, 1) := by decide +kernel
theorem dL_law_506 : decode cL_law 506 = .ok (.iadd, 1) := by decide +kernel
theorem dL_law_507 : decode cL_law 507 = .ok (.iaload, 1) := by decide +kernel
theorem dL_law_508 : decode cL_law 508 = .ok (.aload_n 0, 1) := by decide +kernel
theorem dL_law_509 : decode cL_law 509 = .ok (.iload 4, 2) := by decide +kernel
theorem dL_law_511 : decode cL_law 511 = .ok (.iconst 2, 1) := by decide +kernel
theorem dL_law_512 : decode cL_law 512 = .ok (.iadd, 1) := by decide +kernel
theorem dL_law_513 : decode cL_law 513 = .ok (.iaload, 1) := by decide +kernel
theorem dL_law_514 : decode cL_law 514 = .ok (.invokevirtual 68, 3) := by decide +kernel
theorem dL_law_517 : decode cL_law 517 = .ok (.if_icmp .eq 215, 3) := by decide +kernel
theorem dL_law_520 : decode cL_law 520 = .ok (.iconst 0, 1) := by decide +kernel
theorem dL_law_521 : decode cL_law 521 = .ok (.ireturn, 1) := by decide +kernel
theorem dL_law_522 : decode cL_law 522 = .ok (.aload_n 1, 1) := by decide +kernel
theorem dL_law_523 : decode cL_law 523 = .ok (.aload_n 0, 1) := by decide +kernel
theorem dL_law_524 : decode cL_law 524 = .ok (.iload 4, 2) := by decide +kernel
theorem dL_law_526 : decode cL_law 526 = .ok (.iconst 1, 1) := by decide +kernel
theorem dL_law_527 : decode cL_law 527 = .ok (.iadd, 1) := by decide +kernel
theorem dL_law_528 : decode cL_law 528 = .ok (.iaload, 1) := by decide +kernel
theorem dL_law_529 : decode cL_law 529 = .ok (.aload_n 0, 1) := by decide +kernel
theorem dL_law_530 : decode cL_law 530 = .ok (.iload 4, 2) := by decide +kernel
theorem dL_law_532 : decode cL_law 532 = .ok (.iconst 2, 1) := by decide +kernel
theorem dL_law_533 : decode cL_law 533 = .ok (.iadd, 1) := by decide +kernel
theorem dL_law_534 : decode cL_law 534 = .ok (.iaload, 1) := by decide +kernel
theorem dL_law_535 : decode cL_law 535 = .ok (.invokevirtual 69, 3) := by decide +kernel
theorem dL_law_538 : decode cL_law 538 = .ok (.aload_n 2, 1) := by decide +kernel
theorem dL_law_539 : decode cL_law 539 = .ok (.aload_n 0, 1) := by decide +kernel
theorem dL_law_540 : decode cL_law 540 = .ok (.iload 4, 2) := by decide +kernel
theorem dL_law_542 : decode cL_law 542 = .ok (.iconst 1, 1) := by decide +kernel
theorem dL_law_543 : decode cL_law 543 = .ok (.iadd, 1) := by decide +kernel
theorem dL_law_544 : decode cL_law 544 = .ok (.iaload, 1) := by decide +kernel
theorem dL_law_545 : decode cL_law 545 = .ok (.aload_n 0, 1) := by decide +kernel
theorem dL_law_546 : decode cL_law 546 = .ok (.iload 4, 2) := by decide +kernel
theorem dL_law_548 : decode cL_law 548 = .ok (.iconst 2, 1) := by decide +kernel
theorem dL_law_549 : decode cL_law 549 = .ok (.iadd, 1) := by decide +kernel
theorem dL_law_550 : decode cL_law 550 = .ok (.iaload, 1) := by decide +kernel
theorem dL_law_551 : decode cL_law 551 = .ok (.invokevirtual 72, 3) := by decide +kernel
theorem dL_law_554 : decode cL_law 554 = .ok (.if_icmp .eq 178, 3) := by decide +kernel
theorem dL_law_557 : decode cL_law 557 = .ok (.iconst 0, 1) := by decide +kernel
theorem dL_law_558 : decode cL_law 558 = .ok (.ireturn, 1) := by decide +kernel
theorem dL_law_559 : decode cL_law 559 = .ok (.aload_n 1, 1) := by decide +kernel
theorem dL_law_560 : decode cL_law 560 = .ok (.aload_n 0, 1) := by decide +kernel
theorem dL_law_561 : decode cL_law 561 = .ok (.iload 4, 2) := by decide +kernel
theorem dL_law_563 : decode cL_law 563 = .ok (.iconst 1, 1) := by decide +kernel
theorem dL_law_564 : decode cL_law 564 = .ok (.iadd, 1) := by decide +kernel
theorem dL_law_565 : decode cL_law 565 = .ok (.iaload, 1) := by decide +kernel
theorem dL_law_566 : decode cL_law 566 = .ok (.ifCond .eq 7, 3) := by decide +kernel
theorem dL_law_569 : decode cL_law 569 = .ok (.iconst 1, 1) := by decide +kernel
theorem dL_law_570 : decode cL_law 570 = .ok (.goto 4, 3) := by decide +kernel
theorem dL_law_573 : decode cL_law 573 = .ok (.iconst 0, 1) := by decide +kernel
theorem dL_law_574 : decode cL_law 574 = .ok (.invokevirtual 73, 3) := by decide +kernel
theorem dL_law_577 : decode cL_law 577 = .ok (.aload_n 2, 1) := by decide +kernel
theorem dL_law_578 : decode cL_law 578 = .ok (.aload_n 0, 1) := by decide +kernel
theorem dL_law_579 : decode cL_law 579 = .ok (.iload 4, 2) := by decide +kernel
theorem dL_law_581 : decode cL_law 581 = .ok (.iconst 1, 1) := by decide +kernel
theorem dL_law_582 : decode cL_law 582 = .ok (.iadd, 1) := by decide +kernel
theorem dL_law_583 : decode cL_law 583 = .ok (.iaload, 1) := by decide +kernel
theorem dL_law_584 : decode cL_law 584 = .ok (.ifCond .eq 7, 3) := by decide +kernel
theorem dL_law_587 : decode cL_law 587 = .ok (.iconst 1, 1) := by decide +kernel
theorem dL_law_588 : decode cL_law 588 = .ok (.goto 4, 3) := by decide +kernel
theorem dL_law_591 : decode cL_law 591 = .ok (.iconst 0, 1) := by decide +kernel
theorem dL_law_592 : decode cL_law 592 = .ok (.invokevirtual 77, 3) := by decide +kernel
theorem dL_law_595 : decode cL_law 595 = .ok (.if_icmp .eq 137, 3) := by decide +kernel
theorem dL_law_598 : decode cL_law 598 = .ok (.iconst 0, 1) := by decide +kernel
theorem dL_law_599 : decode cL_law 599 = .ok (.ireturn, 1) := by decide +kernel
theorem dL_law_600 : decode cL_law 600 = .ok (.aload_n 1, 1) := by decide +kernel
theorem dL_law_601 : decode cL_law 601 = .ok (.aload_n 0, 1) := by decide +kernel
theorem dL_law_602 : decode cL_law 602 = .ok (.iload 4, 2) := by decide +kernel
theorem dL_law_604 : decode cL_law 604 = .ok (.iconst 1, 1) := by decide +kernel
theorem dL_law_605 : decode cL_law 605 = .ok (.iadd, 1) := by decide +kernel
theorem dL_law_606 : decode cL_law 606 = .ok (.iaload, 1) := by decide +kernel
theorem dL_law_607 : decode cL_law 607 = .ok (.invokevirtual 78, 3) := by decide +kernel
theorem dL_law_610 : decode cL_law 610 = .ok (.aload_n 2, 1) := by decide +kernel
theorem dL_law_611 : decode cL_law 611 = .ok (.aload_n 0, 1) := by decide +kernel
theorem dL_law_612 : decode cL_law 612 = .ok (.iload 4, 2) := by decide +kernel
theorem dL_law_614 : decode cL_law 614 = .ok (.iconst 1, 1) := by decide +kernel
theorem dL_law_615 : decode cL_law 615 = .ok (.iadd, 1) := by decide +kernel
theorem dL_law_616 : decode cL_law 616 = .ok (.iaload, 1) := by decide +kernel
theorem dL_law_617 : decode cL_law 617 = .ok (.invokevirtual 81, 3) := by decide +kernel
theorem dL_law_620 : decode cL_law 620 = .ok (.if_icmp .eq 112, 3) := by decide +kernel
theorem dL_law_623 : decode cL_law 623 = .ok (.iconst 0, 1) := by decide +kernel
theorem dL_law_624 : decode cL_law 624 = .ok (.ireturn, 1) := by decide +kernel
theorem dL_law_625 : decode cL_law 625 = .ok (.aload_n 1, 1) := by decide +kernel
theorem dL_law_626 : decode cL_law 626 = .ok (.aload_n 0, 1) := by decide +kernel
theorem dL_law_627 : decode cL_law 627 = .ok (.iload 4, 2) := by decide +kernel
theorem dL_law_629 : decode cL_law 629 = .ok (.iconst 1, 1) := by decide +kernel
theorem dL_law_630 : decode cL_law 630 = .ok (.iadd, 1) := by decide +kernel
theorem dL_law_631 : decode cL_law 631 = .ok (.iaload, 1) := by decide +kernel
theorem dL_law_632 : decode cL_law 632 = .ok (.invokevirtual 82, 3) := by decide +kernel
theorem dL_law_635 : decode cL_law 635 = .ok (.aload_n 2, 1) := by decide +kernel
theorem dL_law_636 : decode cL_law 636 = .ok (.aload_n 0, 1) := by decide +kernel
theorem dL_law_637 : decode cL_law 637 = .ok (.iload 4, 2) := by decide +kernel
theorem dL_law_639 : decode cL_law 639 = .ok (.iconst 1, 1) := by decide +kernel
theorem dL_law_640 : decode cL_law 640 = .ok (.iadd, 1) := by decide +kernel
theorem dL_law_641 : decode cL_law 641 = .ok (.iaload, 1) := by decide +kernel
theorem dL_law_642 : decode cL_law 642 = .ok (.invokevirtual 85, 3) := by decide +kernel
theorem dL_law_645 : decode cL_law 645 = .ok (.lcmp, 1) := by decide +kernel
theorem dL_law_646 : decode cL_law 646 = .ok (.ifCond .eq 86, 3) := by decide +kernel
theorem dL_law_649 : decode cL_law 649 = .ok (.iconst 0, 1) := by decide +kernel
theorem dL_law_650 : decode cL_law 650 = .ok (.ireturn, 1) := by decide +kernel
theorem dL_law_651 : decode cL_law 651 = .ok (.aload_n 1, 1) := by decide +kernel
theorem dL_law_652 : decode cL_law 652 = .ok (.aload_n 0, 1) := by decide +kernel
theorem dL_law_653 : decode cL_law 653 = .ok (.iload 4, 2) := by decide +kernel
theorem dL_law_655 : decode cL_law 655 = .ok (.iconst 1, 1) := by decide +kernel
theorem dL_law_656 : decode cL_law 656 = .ok (.iadd, 1) := by decide +kernel
theorem dL_law_657 : decode cL_law 657 = .ok (.iaload, 1) := by decide +kernel
theorem dL_law_658 : decode cL_law 658 = .ok (.aload_n 3, 1) := by decide +kernel
theorem dL_law_659 : decode cL_law 659 = .ok (.invokestatic 86, 3) := by decide +kernel
theorem dL_law_662 : decode cL_law 662 = .ok (.istore 5, 2) := by decide +kernel
theorem dL_law_664 : decode cL_law 664 = .ok (.aload_n 2, 1) := by decide +kernel
theorem dL_law_665 : decode cL_law 665 = .ok (.aload_n 0, 1) := by decide +kernel
theorem dL_law_666 : decode cL_law 666 = .ok (.iload 4, 2) := by decide +kernel
theorem dL_law_668 : decode cL_law 668 = .ok (.iconst 1, 1) := by decide +kernel
theorem dL_law_669 : decode cL_law 669 = .ok (.iadd, 1) := by decide +kernel
theorem dL_law_670 : decode cL_law 670 = .ok (.iaload, 1) := by decide +kernel
theorem dL_law_671 : decode cL_law 671 = .ok (.invokevirtual 89, 3) := by decide +kernel
theorem dL_law_674 : decode cL_law 674 = .ok (.istore 6, 2) := by decide +kernel
theorem dL_law_676 : decode cL_law 676 = .ok (.aload_n 2, 1) := by decide +kernel
theorem dL_law_677 : decode cL_law 677 = .ok (.invokevirtual 90, 3) := by decide +kernel
theorem dL_law_680 : decode cL_law 680 = .ok (.iload 5, 2) := by decide +kernel
theorem dL_law_682 : decode cL_law 682 = .ok (.if_icmp .eq 5, 3) := by decide +kernel
theorem dL_law_685 : decode cL_law 685 = .ok (.iconst 0, 1) := by decide +kernel
theorem dL_law_686 : decode cL_law 686 = .ok (.ireturn, 1) := by decide +kernel
theorem dL_law_687 : decode cL_law 687 = .ok (.iload 5, 2) := by decide +kernel
theorem dL_law_689 : decode cL_law 689 = .ok (.ifCond .ne 15, 3) := by decide +kernel
theorem dL_law_692 : decode cL_law 692 = .ok (.aload_n 3, 1) := by decide +kernel
theorem dL_law_693 : decode cL_law 693 = .ok (.iconst 0, 1) := by decide +kernel
theorem dL_law_694 : decode cL_law 694 = .ok (.laload, 1) := by decide +kernel
theorem dL_law_695 : decode cL_law 695 = .ok (.iload 6, 2) := by decide +kernel
theorem dL_law_697 : decode cL_law 697 = .ok (.i2l, 1) := by decide +kernel
theorem dL_law_698 : decode cL_law 698 = .ok (.lcmp, 1) := by decide +kernel
theorem dL_law_699 : decode cL_law 699 = .ok (.ifCond .eq 5, 3) := by decide +kernel
theorem dL_law_702 : decode cL_law 702 = .ok (.iconst 0, 1) := by decide +kernel
theorem dL_law_703 : decode cL_law 703 = .ok (.ireturn, 1) := by decide +kernel
theorem dL_law_704 : decode cL_law 704 = .ok (.goto 28, 3) := by decide +kernel
theorem dL_law_707 : decode cL_law 707 = .ok (.aload_n 1, 1) := by decide +kernel
theorem dL_law_708 : decode cL_law 708 = .ok (.aload_n 0, 1) := by decide +kernel
theorem dL_law_709 : decode cL_law 709 = .ok (.iload 4, 2) := by decide +kernel
theorem dL_law_711 : decode cL_law 711 = .ok (.iconst 1, 1) := by decide +kernel
theorem dL_law_712 : decode cL_law 712 = .ok (.iadd, 1) := by decide +kernel
theorem dL_law_713 : decode cL_law 713 = .ok (.iaload, 1) := by decide +kernel
theorem dL_law_714 : decode cL_law 714 = .ok (.invokevirtual 93, 3) := by decide +kernel
theorem dL_law_717 : decode cL_law 717 = .ok (.aload_n 2, 1) := by decide +kernel
theorem dL_law_718 : decode cL_law 718 = .ok (.aload_n 0, 1) := by decide +kernel
theorem dL_law_719 : decode cL_law 719 = .ok (.iload 4, 2) := by decide +kernel
theorem dL_law_721 : decode cL_law 721 = .ok (.iconst 1, 1) := by decide +kernel
theorem dL_law_722 : decode cL_law 722 = .ok (.iadd, 1) := by decide +kernel
theorem dL_law_723 : decode cL_law 723 = .ok (.iaload, 1) := by decide +kernel
theorem dL_law_724 : decode cL_law 724 = .ok (.invokevirtual 96, 3) := by decide +kernel
theorem dL_law_727 : decode cL_law 727 = .ok (.if_icmp .eq 5, 3) := by decide +kernel
theorem dL_law_730 : decode cL_law 730 = .ok (.iconst 0, 1) := by decide +kernel
theorem dL_law_731 : decode cL_law 731 = .ok (.ireturn, 1) := by decide +kernel
theorem dL_law_732 : decode cL_law 732 = .ok (.iinc 4 8, 3) := by decide +kernel
theorem dL_law_735 : decode cL_law 735 = .ok (.goto (-702), 3) := by decide +kernel
theorem dL_law_738 : decode cL_law 738 = .ok (.iconst 1, 1) := by decide +kernel
theorem dL_law_739 : decode cL_law 739 = .ok (.ireturn, 1) := by decide +kernel
abbrev vwCl : List vw_C := [(RX0, TX0, 7), (RX1, TX1, 15), (RX2, TX2, 7), (RX3, TX3, 3), (RX4, TX4, 6), (RX5, TX5, 7), (RX6, TX6, 23)]
end
section
/-! ROWS: short forms of the kit's rows, for texts that a program writes -/
/-- a truth as an int -/
def bv (P : Prop) [Decidable P] : Int32 := if P then 1 else 0
theorem bv_t {P : Prop} [Decidable P] (h : P) : bv P = 1 := if_pos h
theorem bv_f {P : Prop} [Decidable P] (h : ¬ P) : bv P = 0 := if_neg h
theorem bv_eq0 {P : Prop} [Decidable P] : bv P = 0 ↔ ¬ P := by
  by_cases h : P
  · simp [bv, h]
  · simp [bv, h]
theorem bv_eq1 {P : Prop} [Decidable P] : bv P = 1 ↔ P := by
  by_cases h : P
  · simp [bv, h]
  · simp [bv, h]
theorem bv_iff {P P' : Prop} [Decidable P] [Decidable P'] (h : P ↔ P') : bv P = bv P' := by
  by_cases q : P
  · rw [bv_t q, bv_t (h.mp q)]
  · rw [bv_f q, bv_f (fun z => q (h.mpr z))]
theorem bv_nar {P : Prop} [Decidable P] : narrow .boolean (.int (bv P)) = .int (bv P) := by
  by_cases h : P
  · rw [bv_t h]; rfl
  · rw [bv_f h]; rfl
theorem bv_fits {P : Prop} [Decidable P] : fits .boolean (.int (bv P)) = true := by
  by_cases h : P
  · rw [bv_t h]; rfl
  · rw [bv_f h]; rfl
theorem bv_01 {P : Prop} [Decidable P] : bv P = 0 ∨ bv P = 1 := by
  by_cases h : P
  · exact Or.inr (bv_t h)
  · exact Or.inl (bv_f h)
theorem x_inc (k : Nat) : nI k + Int32.ofInt 1 = nI (k + 1) := nI_1 k
/-- the words of the nest, that are carried -/
def nW (U : State) : Prop := va_Nw (.methodLinkNest RX5 18 yX2_init RX5) U ∧ va_Nw (.methodLinkNest RX5 25 yX1_init RX5) U ∧ va_Nw (.methodLinkNest RX1 54 yX0_init RX5) U ∧ va_Nw (.methodLinkNest RX1 61 yX3_init RX5) U ∧ va_Nw (.methodLinkNest RX1 90 yX5_cellOf RX5) U ∧ va_Nw (.methodLinkNest RX2 34 yX5_within RX5) U ∧ va_Nw (.methodLinkNest RX4 38 yX5_within RX5) U ∧ va_Nw (.fieldLinkNest RX4 35 RX5 "CLEF_NUMBERS" "[I" RX5) U
theorem nW.warm {s U : State} (hW : s.WarmedH U.vm) (h : nW s) : nW U := by
  obtain ⟨h1, h2, h3, h4, h5, h6, h7, h8⟩ := h
  exact ⟨h1.warmM hW, h2.warmM hW, h3.warmM hW, h4.warmM hW, h5.warmM hW, h6.warmM hW, h7.warmM hW, h8.warmF hW⟩
theorem nW.same {s U : State} (hv : s.vm = U.vm) (h : nW s) : nW U := by
  obtain ⟨h1, h2, h3, h4, h5, h6, h7, h8⟩ := h
  exact ⟨h1.same rfl hv, h2.same rfl hv, h3.same rfl hv, h4.same rfl hv, h5.same rfl hv, h6.same rfl hv, h7.same rfl hv, h8.same rfl hv⟩
/-- what the tables give, all that is carried from call to call -/
def kK (D : va_G) (tys : List (ClassId × FieldType)) (U : State) : Prop := va_K D vwCl tys U ∧ nW U
theorem kK.warm {D : va_G} {tys : List (ClassId × FieldType)} {s U : State} (hW : s.WarmedH U.vm) (h : kK D tys s) : kK D tys U := ⟨va_K.moved hW.alike h.1, h.2.warm hW⟩
/-- the start of a method that only reads -/
def rPc (D : va_G) (wd : va_W) (tys : List (ClassId × FieldType)) (av : List Value) : Array Value → State → Prop := va_Pc av (fun U => va_P D vwCl wd U.heap ∧ kK D tys U)
theorem rPc_blind {D : va_G} {wd : va_W} {tys : List (ClassId × FieldType)} {av : List Value} : FrameBlind (rPc D wd tys av) := by
  intro a U g mk q
  obtain ⟨q0, qP, qK, qN⟩ := q
  exact ⟨q0, qP, va_K.moved (u := U) (U := U.calling g mk a) (Vm.Alike.refl U.vm) qK, nW.same (s := U) (U := U.calling g mk a) rfl qN⟩
/-- the start of a method that writes its world -/
def wPc (D : va_G) (wd : va_W) (tys : List (ClassId × FieldType)) (sz : Nat) (av : List Value) : Array Value → State → Prop := va_Pc av (fun U => U.heap.size = sz ∧ va_P D vwCl wd U.heap ∧ va_D (fun _ => True) wd ∧ kK D tys U)
theorem wPc_blind {D : va_G} {wd : va_W} {tys : List (ClassId × FieldType)} {sz : Nat} {av : List Value} : FrameBlind (wPc D wd tys sz av) := by
  intro a U g mk q
  obtain ⟨q0, q1, qP, qD, qK, qN⟩ := q
  exact ⟨q0, q1, qP, qD, va_K.moved (u := U) (U := U.calling g mk a) (Vm.Alike.refl U.vm) qK, nW.same (s := U) (U := U.calling g mk a) rfl qN⟩
/-- the world behind a method, its state u a value of any kind -/
abbrev wB {S : Type} (D : va_G) (wd : va_W) (sz : Nat) (w1 : S → va_W) : S → State → Prop := fun u t => va_P D vwCl (w1 u) t.heap ∧ va_D (va_A wd sz) (w1 u)
section
variable {p : Program} {l : Launch} {e : Env} {R : Room} {s : State} {m : MethodId} {args : Array Value} {below : List Frame} {meth : Method} {c : Code} {H : Heap} {locs : List Loc} {cells slots : Nat} {Q : State → Prop} {cc : ByteArray} {pc : Nat} {ls : Array Slot} {rest st0 : List Value} {D : va_G} {tys : List (ClassId × FieldType)} {A : Nat → Prop} {ws : va_W}
theorem x_tp {x y : Int32} (h : x = y) (k : W p l e R s m args below meth c H locs cells slots Q (F0 m pc ls (.int y :: rest))) : W p l e R s m args below meth c H locs cells slots Q (F0 m pc ls (.int x :: rest)) := by rw [h]; exact k
theorem x_tpl {x y : Int64} (h : x = y) (k : W p l e R s m args below meth c H locs cells slots Q (F0 m pc ls (.long y :: rest))) : W p l e R s m args below meth c H locs cells slots Q (F0 m pc ls (.long x :: rest)) := by rw [h]; exact k
theorem x_tp2 {x y : Int32} {v : Value} (h : x = y) (k : W p l e R s m args below meth c H locs cells slots Q (F0 m pc ls (v :: .int y :: rest))) : W p l e R s m args below meth c H locs cells slots Q (F0 m pc ls (v :: .int x :: rest)) := by rw [h]; exact k
theorem x_ifeq (hexec : p.tables.exec = Jvm.exec) (hb : c.code = cc) {P : Prop} [Decidable P] {off : Int} {tgt : Nat} (hdg : decode cc pc = .ok (.ifCond .eq off, 3)) (ht : (pc : Int) + off = (tgt : Int))
    (kt : ¬ P → W p l e R s m args below meth c H locs cells slots Q (F0 m tgt ls rest)) (kf : P → W p l e R s m args below meth c H locs cells slots Q (F0 m (pc + 3) ls rest)) : W p l e R s m args below meth c H locs cells slots Q (F0 m pc ls (.int (bv P) :: rest)) :=
  lv_if_eq hexec hb hdg ht (fun h => kt (bv_eq0.mp h)) (fun h => kf (Classical.not_not.mp (fun q => h (bv_eq0.mpr q))))
theorem x_ifne (hexec : p.tables.exec = Jvm.exec) (hb : c.code = cc) {P : Prop} [Decidable P] {off : Int} {tgt : Nat} (hdg : decode cc pc = .ok (.ifCond .ne off, 3)) (ht : (pc : Int) + off = (tgt : Int))
    (kt : P → W p l e R s m args below meth c H locs cells slots Q (F0 m tgt ls rest)) (kf : ¬ P → W p l e R s m args below meth c H locs cells slots Q (F0 m (pc + 3) ls rest)) : W p l e R s m args below meth c H locs cells slots Q (F0 m pc ls (.int (bv P) :: rest)) :=
  lv_if_ne hexec hb hdg ht (fun h => kt (Classical.not_not.mp (fun q => h (bv_eq0.mpr q)))) (fun h => kf (bv_eq0.mp (Classical.not_not.mp h)))
theorem x_iald (hexec : p.tables.exec = Jvm.exec) (hb : c.code = cc) (hK : kK D tys s) (hP : va_P D vwCl ws H) (q0 t0 : Nat) {a : Nat} {cA : ClassId} {n : Nat} {f : Nat → Int32} (ha : ws[q0]? = some (a, .inl (cA, n, .inl f))) (ht : tys[t0]? = some (cA, .int)) {k : Nat} (hk : k < n) (hn : n < 2 ^ 31) (hdg : decode cc pc = .ok (.iaload, 1))
    (kk : W p l e R s m args below meth c H locs cells slots Q (F0 m (pc + 1) ls (.int (f k) :: rest))) : W p l e R s m args below meth c H locs cells slots Q (F0 m pc ls (.int (nI k) :: .ref a :: rest)) := by
  refine va_iald hexec hb hK.1 hP q0 t0 ha ht (vp_in_nI hk hn) hdg ?_
  rw [nI_clamp (Nat.lt_trans hk hn)]
  exact kk
theorem x_iast {H0 : Heap} (hexec : p.tables.exec = Jvm.exec) (hb : c.code = cc) (hK : kK D tys s) (hP : va_P D vwCl ws H) (hD : va_D A ws) (hS : va_S A H0 H locs) (q0 t0 : Nat) {a : Nat} {cA : ClassId} {n : Nat} {f : Nat → Int32} (ha : ws[q0]? = some (a, .inl (cA, n, .inl f))) (ht : tys[t0]? = some (cA, .int)) {k : Nat} {x : Int32} (hk : k < n) (hn : n < 2 ^ 31) (hdg : decode cc pc = .ok (.iastore, 1))
    (kk : ∀ (H1 : Heap) (locs1 : List Loc), va_P D vwCl (ws.set q0 (a, .inl (cA, n, .inl (upd f k x)))) H1 → va_D A (ws.set q0 (a, .inl (cA, n, .inl (upd f k x)))) → va_S A H0 H1 locs1 → W p l e R s m args below meth c H1 locs1 cells slots Q (F0 m (pc + 1) ls rest)) : W p l e R s m args below meth c H locs cells slots Q (F0 m pc ls (.int x :: .int (nI k) :: .ref a :: rest)) := by
  refine va_iast hexec hb hK.1 hP hD hS q0 t0 ha ht (vp_in_nI hk hn) hdg ?_
  rw [nI_clamp (Nat.lt_trans hk hn)]
  exact kk
variable {y : MethodName} {bytes : ByteArray} {maxL nL mc ms n index : Nat} {ret : Option FieldType} {wsy : List Cond} {rm : Room} {Ts : List Cond} {own C : String} {b : Addr} {As : List Value}
/-- a call of a method that only reads: an int comes -/
theorem rcVi {wd : va_W} {tyc : List (ClassId × FieldType)} {x : Int32} (S : CallFix p m c cc nL s args Ts own) (hM : Met l y wsy rm (rPc D wd tyc (.ref b :: As)) (vp_Si (fun r => r = x)) 0 0 (fun _ => False)) (cw : CallW R s args own C index y bytes maxL ret wsy rm 0 0 n) (hrecv : ∃ cellB : Cell, H[b]? = some cellB ∧ cellB.vm.isStatics = false ∧ s.vm.findClass C = some cellB.cls)
    (hP : va_P D vwCl wd H) (hK : kK D tyc s) (hn : As.length = n) (hsize : ls.size = nL) (hstack : st0 = As.reverse ++ .ref b :: rest) (hW : (rest.map fun v => v.category).sum ≤ 8) (hdg : decode cc pc = .ok (.invokevirtual index, 3)) (hf : cells ≤ R.cells ∧ slots ≤ R.slots)
    (kk : W p l e R s m args below meth c H locs cells slots Q (F0 m (pc + 3) ls (.int x :: rest))) : W p l e R s m args below meth c H locs cells slots Q (F0 m pc ls st0) :=
  vp_callSi (W.runV S hM cw ⟨rPc_blind, hrecv, fun U hU hW => ⟨rfl, by rw [hU]; exact hP, hK.warm hW⟩⟩ rfl hn hsize hstack (lv_room hW) hdg hf) (fun r hr => by rw [hr]; exact kk)
theorem rcVl {wd : va_W} {tyc : List (ClassId × FieldType)} {x : Int64} (S : CallFix p m c cc nL s args Ts own) (hM : Met l y wsy rm (rPc D wd tyc (.ref b :: As)) (vp_Sl (fun r => r = x)) 0 0 (fun _ => False)) (cw : CallW R s args own C index y bytes maxL ret wsy rm 0 0 n) (hrecv : ∃ cellB : Cell, H[b]? = some cellB ∧ cellB.vm.isStatics = false ∧ s.vm.findClass C = some cellB.cls)
    (hP : va_P D vwCl wd H) (hK : kK D tyc s) (hn : As.length = n) (hsize : ls.size = nL) (hstack : st0 = As.reverse ++ .ref b :: rest) (hW : (rest.map fun v => v.category).sum ≤ 8) (hdg : decode cc pc = .ok (.invokevirtual index, 3)) (hf : cells ≤ R.cells ∧ slots ≤ R.slots)
    (kk : W p l e R s m args below meth c H locs cells slots Q (F0 m (pc + 3) ls (.long x :: rest))) : W p l e R s m args below meth c H locs cells slots Q (F0 m pc ls st0) :=
  vp_callSl (W.runV S hM cw ⟨rPc_blind, hrecv, fun U hU hW => ⟨rfl, by rw [hU]; exact hP, hK.warm hW⟩⟩ rfl hn hsize hstack (lv_room hW) hdg hf) (fun r hr => by rw [hr]; exact kk)
/-- a static call of a method that has no world: an int comes -/
theorem rcSi {x : Int32} (S : CallFix p m c cc nL s args Ts own) (hM : Met l y wsy rm (fun v _ => v = As.toArray) (vp_Si (fun r => r = x)) 0 0 (fun _ => False)) (cw : CallB R s args own index y bytes maxL ret wsy rm 0 0 n ∧ (Cond.static y).before args s = true)
    (hn : As.length = n) (hsize : ls.size = nL) (hstack : st0 = As.reverse ++ rest) (hW : (rest.map fun v => v.category).sum ≤ 8) (hdg : decode cc pc = .ok (.invokestatic index, 3)) (hf : cells ≤ R.cells ∧ slots ≤ R.slots)
    (kk : W p l e R s m args below meth c H locs cells slots Q (F0 m (pc + 3) ls (.int x :: rest))) : W p l e R s m args below meth c H locs cells slots Q (F0 m pc ls st0) :=
  vp_callSi (W.runS S hM cw preEq rfl hn hsize hstack (lv_room hW) hdg hf) (fun r hr => by rw [hr]; exact kk)
theorem va_Run.toC {free : Addr → Prop} {Qa : State → Outcome → State → Prop} {g : JFrame} (h : va_Run p l e R s m args below meth c H locs cells slots mc ms g rest Qa free) : CallRun p l e R s m args below meth c H locs cells slots mc ms g rest Qa free := by
  intro T hT X
  obtain ⟨v, st, t, T', L, h0, X', hL, e1, -, hq, hg⟩ := h T hT X
  exact ⟨v, st, t, T', L, h0, X', hL, e1, hq, hg⟩
/-- .. of a nest mate's private one -/
theorem rcSNi {x : Int32} {host : String} (S : CallFix p m c cc nL s args Ts own) (hM : Met l y wsy rm (fun v _ => v = As.toArray) (vp_Si (fun r => r = x)) 0 0 (fun _ => False)) (cw : va_CN R s args own index y host bytes maxL ret wsy rm 0 0 n ∧ (Cond.static y).before args s = true ∧ True)
    (hn : As.length = n) (hsize : ls.size = nL) (hstack : st0 = As.reverse ++ rest) (hW : (rest.map fun v => v.category).sum ≤ 8) (hdg : decode cc pc = .ok (.invokestatic index, 3)) (hf : cells ≤ R.cells ∧ slots ≤ R.slots)
    (kk : W p l e R s m args below meth c H locs cells slots Q (F0 m (pc + 3) ls (.int x :: rest))) : W p l e R s m args below meth c H locs cells slots Q (F0 m pc ls st0) :=
  vp_callSi (va_Run.toC (va_runSN S hM cw preEq rfl hn hsize hstack (lv_room hW) hdg hf)) (fun r hr => by rw [hr]; exact kk)
/-- a call of a method that writes: its world wc is a part of ours (at isC), the rest (at isR) stays -/
theorem wcVi {S0 : Type} {wc wr : va_W} {w1 : S0 → va_W} {tyc : List (ClassId × FieldType)} {post : Int32 → S0 → Prop} {H0 : Heap} (S : CallFix p m c cc nL s args Ts own) (hM : Met l y wsy rm (wPc D wc tyc H.size (.ref b :: As)) (va_Qi post (wB D wc H.size w1) (va_A wc H.size)) mc ms (va_A wc H.size)) (cw : CallW R s args own C index y bytes maxL ret wsy rm mc ms n) (hrecv : ∃ cellB : Cell, H[b]? = some cellB ∧ cellB.vm.isStatics = false ∧ s.vm.findClass C = some cellB.cls)
    (hP : va_P D vwCl ws H) (hD : va_D A ws) (hS : va_S A H0 H locs) (hA : ∀ q, H0.size ≤ q → A q) (hK : kK D tyc s) (isC isR : List Nat) (hC : isC.map (fun i => ws[i]?) = wc.map some) (hR : isR.map (fun i => ws[i]?) = wr.map some) (hnC : va_nd isC = true) (hnR : va_nd isR = true) (hdis : ∀ i ∈ isR, i ∉ isC)
    (hn : As.length = n) (hsize : ls.size = nL) (hstack : st0 = As.reverse ++ .ref b :: rest) (hW : (rest.map fun v => v.category).sum ≤ 8) (hdg : decode cc pc = .ok (.invokevirtual index, 3)) (hf : cells + mc ≤ R.cells ∧ slots + ms ≤ R.slots)
    (kk : ∀ (r : Int32) (u : S0) (H1 : Heap) (locs1 : List Loc), post r u → va_P D vwCl (wr ++ w1 u) H1 → va_D A (wr ++ w1 u) → va_S A H0 H1 locs1 → W p l e R s m args below meth c H1 locs1 (cells + mc) (slots + ms) Q (F0 m (pc + 3) ls (.int r :: rest))) : W p l e R s m args below meth c H locs cells slots Q (F0 m pc ls st0) := by
  have hDc := hD.sub (ws' := wc) isC hnC hC
  have hPc : va_P D vwCl wc H := fun k q hk => by
    have h1 : (isC.map (fun i => ws[i]?))[k]? = some (some q) := by rw [hC, List.getElem?_map, hk]; rfl
    rw [List.getElem?_map] at h1
    cases hi : isC[k]? with
    | none => rw [hi] at h1; cases h1
    | some i => rw [hi] at h1; exact hP i q (Option.some.inj h1)
  have hFc := va_free (wc := wc) hD hS hA isC hC
  refine va_calli (va_runV S hM cw ⟨wPc_blind, hrecv, fun U hU hW => ⟨rfl, by rw [hU], by rw [hU]; exact hPc, hDc.weaken (fun _ _ _ _ => trivial), hK.warm hW⟩⟩ rfl hn hsize hstack (lv_room hW) hdg hf) hS (fun q _ h => hFc q h) hFc (fun r u t H1 locs1 ht hvm hp hB hz1 hk1 hS1 => ?_)
  obtain ⟨hP1, hD1⟩ := hB
  rw [ht] at hP1
  obtain ⟨hP2, hD2⟩ := va_join (wr := wr) (w1 := w1 u) hP hD isC isR hC hR hnR hdis hk1 hFc hP1 hD1
  exact kk r u H1 locs1 hp hP2 hD2 hS1
theorem wcVl {S0 : Type} {wc wr : va_W} {w1 : S0 → va_W} {tyc : List (ClassId × FieldType)} {post : Int64 → S0 → Prop} {H0 : Heap} (S : CallFix p m c cc nL s args Ts own) (hM : Met l y wsy rm (wPc D wc tyc H.size (.ref b :: As)) (va_Ql post (wB D wc H.size w1) (va_A wc H.size)) mc ms (va_A wc H.size)) (cw : CallW R s args own C index y bytes maxL ret wsy rm mc ms n) (hrecv : ∃ cellB : Cell, H[b]? = some cellB ∧ cellB.vm.isStatics = false ∧ s.vm.findClass C = some cellB.cls)
    (hP : va_P D vwCl ws H) (hD : va_D A ws) (hS : va_S A H0 H locs) (hA : ∀ q, H0.size ≤ q → A q) (hK : kK D tyc s) (isC isR : List Nat) (hC : isC.map (fun i => ws[i]?) = wc.map some) (hR : isR.map (fun i => ws[i]?) = wr.map some) (hnC : va_nd isC = true) (hnR : va_nd isR = true) (hdis : ∀ i ∈ isR, i ∉ isC)
    (hn : As.length = n) (hsize : ls.size = nL) (hstack : st0 = As.reverse ++ .ref b :: rest) (hW : (rest.map fun v => v.category).sum ≤ 8) (hdg : decode cc pc = .ok (.invokevirtual index, 3)) (hf : cells + mc ≤ R.cells ∧ slots + ms ≤ R.slots)
    (kk : ∀ (r : Int64) (u : S0) (H1 : Heap) (locs1 : List Loc), post r u → va_P D vwCl (wr ++ w1 u) H1 → va_D A (wr ++ w1 u) → va_S A H0 H1 locs1 → W p l e R s m args below meth c H1 locs1 (cells + mc) (slots + ms) Q (F0 m (pc + 3) ls (.long r :: rest))) : W p l e R s m args below meth c H locs cells slots Q (F0 m pc ls st0) := by
  have hDc := hD.sub (ws' := wc) isC hnC hC
  have hPc : va_P D vwCl wc H := fun k q hk => by
    have h1 : (isC.map (fun i => ws[i]?))[k]? = some (some q) := by rw [hC, List.getElem?_map, hk]; rfl
    rw [List.getElem?_map] at h1
    cases hi : isC[k]? with
    | none => rw [hi] at h1; cases h1
    | some i => rw [hi] at h1; exact hP i q (Option.some.inj h1)
  have hFc := va_free (wc := wc) hD hS hA isC hC
  refine va_calll (va_runV S hM cw ⟨wPc_blind, hrecv, fun U hU hW => ⟨rfl, by rw [hU], by rw [hU]; exact hPc, hDc.weaken (fun _ _ _ _ => trivial), hK.warm hW⟩⟩ rfl hn hsize hstack (lv_room hW) hdg hf) hS (fun q _ h => hFc q h) hFc (fun r u t H1 locs1 ht hvm hp hB hz1 hk1 hS1 => ?_)
  obtain ⟨hP1, hD1⟩ := hB
  rw [ht] at hP1
  obtain ⟨hP2, hD2⟩ := va_join (wr := wr) (w1 := w1 u) hP hD isC isR hC hR hnR hdis hk1 hFc hP1 hD1
  exact kk r u H1 locs1 hp hP2 hD2 hS1
theorem wcVv {S0 : Type} {wc wr : va_W} {w1 : S0 → va_W} {tyc : List (ClassId × FieldType)} {post : S0 → Prop} {H0 : Heap} (S : CallFix p m c cc nL s args Ts own) (hM : Met l y wsy rm (wPc D wc tyc H.size (.ref b :: As)) (va_Qv post (wB D wc H.size w1) (va_A wc H.size)) mc ms (va_A wc H.size)) (cw : CallW R s args own C index y bytes maxL ret wsy rm mc ms n) (hrecv : ∃ cellB : Cell, H[b]? = some cellB ∧ cellB.vm.isStatics = false ∧ s.vm.findClass C = some cellB.cls)
    (hP : va_P D vwCl ws H) (hD : va_D A ws) (hS : va_S A H0 H locs) (hA : ∀ q, H0.size ≤ q → A q) (hK : kK D tyc s) (isC isR : List Nat) (hC : isC.map (fun i => ws[i]?) = wc.map some) (hR : isR.map (fun i => ws[i]?) = wr.map some) (hnC : va_nd isC = true) (hnR : va_nd isR = true) (hdis : ∀ i ∈ isR, i ∉ isC)
    (hn : As.length = n) (hsize : ls.size = nL) (hstack : st0 = As.reverse ++ .ref b :: rest) (hW : (rest.map fun v => v.category).sum ≤ 8) (hdg : decode cc pc = .ok (.invokevirtual index, 3)) (hf : cells + mc ≤ R.cells ∧ slots + ms ≤ R.slots)
    (kk : ∀ (u : S0) (H1 : Heap) (locs1 : List Loc), post u → va_P D vwCl (wr ++ w1 u) H1 → va_D A (wr ++ w1 u) → va_S A H0 H1 locs1 → W p l e R s m args below meth c H1 locs1 (cells + mc) (slots + ms) Q (F0 m (pc + 3) ls rest)) : W p l e R s m args below meth c H locs cells slots Q (F0 m pc ls st0) := by
  have hDc := hD.sub (ws' := wc) isC hnC hC
  have hPc : va_P D vwCl wc H := fun k q hk => by
    have h1 : (isC.map (fun i => ws[i]?))[k]? = some (some q) := by rw [hC, List.getElem?_map, hk]; rfl
    rw [List.getElem?_map] at h1
    cases hi : isC[k]? with
    | none => rw [hi] at h1; cases h1
    | some i => rw [hi] at h1; exact hP i q (Option.some.inj h1)
  have hFc := va_free (wc := wc) hD hS hA isC hC
  refine va_callv (va_runV S hM cw ⟨wPc_blind, hrecv, fun U hU hW => ⟨rfl, by rw [hU], by rw [hU]; exact hPc, hDc.weaken (fun _ _ _ _ => trivial), hK.warm hW⟩⟩ rfl hn hsize hstack (lv_room hW) hdg hf) hS (fun q _ h => hFc q h) hFc (fun u t H1 locs1 ht hvm hp hB hz1 hk1 hS1 => ?_)
  obtain ⟨hP1, hD1⟩ := hB
  rw [ht] at hP1
  obtain ⟨hP2, hD2⟩ := va_join (wr := wr) (w1 := w1 u) hP hD isC isR hC hR hnR hdis hk1 hFc hP1 hD1
  exact kk u H1 locs1 hp hP2 hD2 hS1
/-- the ends of a method that only reads -/
theorem r_iret {post : Int32 → Prop} {x : Int32} (hexec : p.tables.exec = Jvm.exec) (hb : c.code = cc) (hr : meth.sig.returnType = some .int) (hlocks : meth.locks = false) (hp : post x) (hdg : decode cc pc = .ok (.ireturn, 1)) : W p l e R s m args below meth c s.heap [] 0 0 (MQ below (vp_Si post) args s 0 0 (fun _ => False)) (F0 m pc ls [.int x]) :=
  W.iret hexec hb hr (fun t ht _ => ⟨x, rfl, hp, ht⟩) (fun q h => by cases h) hdg hlocks
theorem r_zret {post : Int32 → Prop} {x : Int32} (hexec : p.tables.exec = Jvm.exec) (hb : c.code = cc) (hr : meth.sig.returnType = some .boolean) (hlocks : meth.locks = false) (hnar : narrow .boolean (.int x) = .int x) (hp : post x) (hdg : decode cc pc = .ok (.ireturn, 1)) : W p l e R s m args below meth c s.heap [] 0 0 (MQ below (vp_Si post) args s 0 0 (fun _ => False)) (F0 m pc ls [.int x]) :=
  W.zret hexec hb hr hnar (fun t ht _ => ⟨x, rfl, hp, ht⟩) (fun q h => by cases h) hdg hlocks
theorem r_lret {post : Int64 → Prop} {x : Int64} (hexec : p.tables.exec = Jvm.exec) (hb : c.code = cc) (hr : meth.sig.returnType = some .long) (hlocks : meth.locks = false) (hp : post x) (hdg : decode cc pc = .ok (.lreturn, 1)) : W p l e R s m args below meth c s.heap [] 0 0 (MQ below (vp_Sl post) args s 0 0 (fun _ => False)) (F0 m pc ls [.long x]) :=
  W.lret hexec hb hr (fun t ht _ => ⟨x, rfl, hp, ht⟩) (fun q h => by cases h) hdg hlocks
/-- the ends of a method that writes -/
theorem w_iret {S0 : Type} {wd : va_W} {sz : Nat} {post : Int32 → S0 → Prop} {w1 : S0 → va_W} {x : Int32} (u : S0) (hexec : p.tables.exec = Jvm.exec) (hb : c.code = cc) (hr : meth.sig.returnType = some .int) (hlocks : meth.locks = false) (hP : va_P D vwCl (w1 u) H) (hD : va_D (va_A wd sz) (w1 u)) (hS : va_S (va_A wd sz) s.heap H locs) (hp : post x u) (hdg : decode cc pc = .ok (.ireturn, 1)) : W p l e R s m args below meth c H locs cells slots (MQ below (va_Qi post (wB D wd sz w1) (va_A wd sz)) args s cells slots (va_A wd sz)) (F0 m pc ls [.int x]) :=
  W.iret hexec hb hr (fun t ht _ => ⟨⟨x, u, rfl, hp, by rw [ht]; exact hP, hD⟩, hS.F ht⟩) hS.2.2 hdg hlocks
theorem w_lret {S0 : Type} {wd : va_W} {sz : Nat} {post : Int64 → S0 → Prop} {w1 : S0 → va_W} {x : Int64} (u : S0) (hexec : p.tables.exec = Jvm.exec) (hb : c.code = cc) (hr : meth.sig.returnType = some .long) (hlocks : meth.locks = false) (hP : va_P D vwCl (w1 u) H) (hD : va_D (va_A wd sz) (w1 u)) (hS : va_S (va_A wd sz) s.heap H locs) (hp : post x u) (hdg : decode cc pc = .ok (.lreturn, 1)) : W p l e R s m args below meth c H locs cells slots (MQ below (va_Ql post (wB D wd sz w1) (va_A wd sz)) args s cells slots (va_A wd sz)) (F0 m pc ls [.long x]) :=
  W.lret hexec hb hr (fun t ht _ => ⟨⟨x, u, rfl, hp, by rw [ht]; exact hP, hD⟩, hS.F ht⟩) hS.2.2 hdg hlocks
theorem w_vret {S0 : Type} {wd : va_W} {sz : Nat} {post : S0 → Prop} {w1 : S0 → va_W} (u : S0) (hexec : p.tables.exec = Jvm.exec) (hb : c.code = cc) (hr : meth.sig.returnType = none) (hlocks : meth.locks = false) (hP : va_P D vwCl (w1 u) H) (hD : va_D (va_A wd sz) (w1 u)) (hS : va_S (va_A wd sz) s.heap H locs) (hp : post u) (hdg : decode cc pc = .ok (.return_, 1)) : W p l e R s m args below meth c H locs cells slots (MQ below (va_Qv post (wB D wd sz w1) (va_A wd sz)) args s cells slots (va_A wd sz)) (F0 m pc ls []) :=
  W.vret hexec hb hr (fun t ht _ => ⟨⟨u, rfl, hp, by rw [ht]; exact hP, hD⟩, hS.F ht⟩) hS.2.2 hdg hlocks
end
/-- the heads of methods -/
theorem r_head {l : Launch} {y : MethodName} {wsy ws' : List Cond} {rm : Room} {D : va_G} {wd : va_W} {tys : List (ClassId × FieldType)} {av : List Value} {Qc : Array Value → State → Outcome → State → Prop} {cc : ByteArray} {maxL : Nat} {ret : Option FieldType} {C : String} (lv : List (Nat × Value))
    (hy : plainName y.cls = true) (hw : wsy = Cond.code y cc maxL ret :: ws') (hC : y.cls = C) (hlen : (lg_sl av).length ≤ maxL) (hlv : lv_args 0 av = lv)
    (body : ∀ (p : Program) (e : Env) (s : State) (m : MethodId) (below : List Frame) (meth : Method) (c : Code), p.tables.exec = Jvm.exec → c.code = cc → meth.sig.returnType = ret → meth.locks = false → c.maxLocals = maxL → s.vm.findClass C = some m.cls → (∀ w ∈ wsy, w.before av.toArray s = true) → va_P D vwCl wd s.heap → kK D tys s →
      ∀ ls : Array Slot, lv_has ls maxL lv → W p l e (headSpec wsy rm).room s m av.toArray below meth c s.heap [] 0 0 (MQ below Qc av.toArray s 0 0 (fun _ => False)) (F0 m 0 ls [])) : Met l y wsy rm (rPc D wd tys av) Qc 0 0 (fun _ => False) := by
  refine Met.ofW (cc := cc) (maxL := maxL) (ret := ret) hy hw ?_
  intro p e s m args below meth c s₁ B hml hv
  obtain ⟨rfl, hP, hK⟩ := hv
  have hts := atoms_spec (ws := wsy) B.pre
  have hown : s.vm.findClass C = some m.cls := hC ▸ findClass_of_methodNamed B.named
  rw [lg_entry_eq]
  exact body p e s m below meth c B.exec B.bytes B.returns B.notSynchronized hml hown hts hP hK _ (hlv ▸ lv_entry av hlen)
theorem s_head {l : Launch} {y : MethodName} {wsy ws' : List Cond} {rm : Room} {av : List Value} {Qc : Array Value → State → Outcome → State → Prop} {cc : ByteArray} {maxL : Nat} {ret : Option FieldType} {C : String} (lv : List (Nat × Value))
    (hy : plainName y.cls = true) (hw : wsy = Cond.code y cc maxL ret :: ws') (hC : y.cls = C) (hlen : (lg_sl av).length ≤ maxL) (hlv : lv_args 0 av = lv)
    (body : ∀ (p : Program) (e : Env) (s : State) (m : MethodId) (below : List Frame) (meth : Method) (c : Code), p.tables.exec = Jvm.exec → c.code = cc → meth.sig.returnType = ret → meth.locks = false → c.maxLocals = maxL → s.vm.findClass C = some m.cls → (∀ w ∈ wsy, w.before av.toArray s = true) →
      ∀ ls : Array Slot, lv_has ls maxL lv → W p l e (headSpec wsy rm).room s m av.toArray below meth c s.heap [] 0 0 (MQ below Qc av.toArray s 0 0 (fun _ => False)) (F0 m 0 ls [])) : Met l y wsy rm (fun v _ => v = av.toArray) Qc 0 0 (fun _ => False) := by
  refine Met.ofW (cc := cc) (maxL := maxL) (ret := ret) hy hw ?_
  intro p e s m args below meth c s₁ B hml hv
  obtain rfl := hv
  have hts := atoms_spec (ws := wsy) B.pre
  have hown : s.vm.findClass C = some m.cls := hC ▸ findClass_of_methodNamed B.named
  rw [lg_entry_eq]
  exact body p e s m below meth c B.exec B.bytes B.returns B.notSynchronized hml hown hts _ (hlv ▸ lv_entry av hlen)
theorem w_head {l : Launch} {y : MethodName} {wsy ws' : List Cond} {rm : Room} {D : va_G} {wd : va_W} {tys : List (ClassId × FieldType)} {sz : Nat} {av : List Value} {Qc : Array Value → State → Outcome → State → Prop} {mc ms : Nat} {cc : ByteArray} {maxL : Nat} {ret : Option FieldType} {C : String} (lv : List (Nat × Value))
    (hy : plainName y.cls = true) (hw : wsy = Cond.code y cc maxL ret :: ws') (hC : y.cls = C) (hlen : (lg_sl av).length ≤ maxL) (hlv : lv_args 0 av = lv)
    (body : ∀ (p : Program) (e : Env) (s : State) (m : MethodId) (below : List Frame) (meth : Method) (c : Code), p.tables.exec = Jvm.exec → c.code = cc → meth.sig.returnType = ret → meth.locks = false → c.maxLocals = maxL → s.vm.findClass C = some m.cls → meth.name = y.name → (∀ w ∈ wsy, w.before av.toArray s = true) → va_P D vwCl wd s.heap → va_D (va_A wd sz) wd → va_S (va_A wd sz) s.heap s.heap [] → (∀ q : Nat, s.heap.size ≤ q → va_A wd sz q) → kK D tys s →
      ∀ ls : Array Slot, lv_has ls maxL lv → W p l e (headSpec wsy rm).room s m av.toArray below meth c s.heap [] 0 0 (MQ below Qc av.toArray s mc ms (va_A wd sz)) (F0 m 0 ls [])) : Met l y wsy rm (wPc D wd tys sz av) Qc mc ms (va_A wd sz) := by
  refine Met.ofW (cc := cc) (maxL := maxL) (ret := ret) hy hw ?_
  intro p e s m args below meth c s₁ B hml hv
  obtain ⟨rfl, hsz, hP, hD, hK⟩ := hv
  have hts := atoms_spec (ws := wsy) B.pre
  have hown : s.vm.findClass C = some m.cls := hC ▸ findClass_of_methodNamed B.named
  rw [lg_entry_eq]
  exact body p e s m below meth c B.exec B.bytes B.returns B.notSynchronized hml hown (name_of_methodNamed B.named B.method).1 hts hP hD.self va_S.rf (fun q h => Or.inr (by rw [← hsz]; exact h)) hK _ (hlv ▸ lv_entry av hlen)
/-- a loop that only reads: its locals at the i-th head are lvf i g, g of any kind; I holds there -/
theorem lpR {σ : Type} {G : Array Slot → Prop} (nL N : Nat) (lvf : Nat → σ → List (Nat × Value)) (I : Nat → σ → Prop)
    (body : ∀ (i : Nat) (g : σ), i ≤ N → I i g → ∀ ls : Array Slot, lv_has ls nL (lvf i g) → (i < N → ∀ (g' : σ) (ls' : Array Slot), I (i + 1) g' → lv_has ls' nL (lvf (i + 1) g') → G ls') → G ls)
    {ls : Array Slot} (i0 : Nat) (g0 : σ) (hi : i0 ≤ N) (hI : I i0 g0) (hl : lv_has ls nL (lvf i0 g0)) : G ls := by
  have key : ∀ (d i : Nat) (g : σ) (ls : Array Slot), N - i < d → i ≤ N → I i g → lv_has ls nL (lvf i g) → G ls := by
    intro d
    induction d with
    | zero => intro i g ls h; exact absurd h (Nat.not_lt_zero _)
    | succ d ih => intro i g ls hd hi hI hl; exact body i g hi hI ls hl (fun hlt g' ls' hI' hl' => ih (i + 1) g' ls' (by omega) (by omega) hI' hl')
  exact key (N - i0 + 1) i0 g0 ls (by omega) hi hI hl
/-- a loop that writes: its world is wf i g too -/
theorem lpW {σ : Type} {G : Array Slot → Heap → List Loc → Prop} {D : va_G} {A : Nat → Prop} {H0 : Heap} (nL N : Nat) (lvf : Nat → σ → List (Nat × Value)) (wf : Nat → σ → va_W) (I : Nat → σ → Prop)
    (body : ∀ (i : Nat) (g : σ), i ≤ N → I i g → ∀ (ls : Array Slot) (H : Heap) (locs : List Loc), lv_has ls nL (lvf i g) → va_P D vwCl (wf i g) H → va_D A (wf i g) → va_S A H0 H locs → (i < N → ∀ (g' : σ) (ls' : Array Slot) (H' : Heap) (locs' : List Loc), I (i + 1) g' → lv_has ls' nL (lvf (i + 1) g') → va_P D vwCl (wf (i + 1) g') H' → va_D A (wf (i + 1) g') → va_S A H0 H' locs' → G ls' H' locs') → G ls H locs)
    {ls : Array Slot} {H : Heap} {locs : List Loc} (i0 : Nat) (g0 : σ) (hi : i0 ≤ N) (hI : I i0 g0) (hl : lv_has ls nL (lvf i0 g0)) (hP : va_P D vwCl (wf i0 g0) H) (hD : va_D A (wf i0 g0)) (hS : va_S A H0 H locs) : G ls H locs := by
  have key : ∀ (d i : Nat) (g : σ) (ls : Array Slot) (H : Heap) (locs : List Loc), N - i < d → i ≤ N → I i g → lv_has ls nL (lvf i g) → va_P D vwCl (wf i g) H → va_D A (wf i g) → va_S A H0 H locs → G ls H locs := by
    intro d
    induction d with
    | zero => intro i g ls H locs h; exact absurd h (Nat.not_lt_zero _)
    | succ d ih => intro i g ls H locs hd hi hI hl hP hD hS; exact body i g hi hI ls H locs hl hP hD hS (fun hlt g' ls' H' locs' hI' hl' hP' hD' hS' => ih (i + 1) g' ls' H' locs' (by omega) (by omega) hI' hl' hP' hD' hS')
  exact key (N - i0 + 1) i0 g0 ls H locs (by omega) hi hI hl hP hD hS
end
