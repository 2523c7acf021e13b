section
-- ===== PART A: goes FIRST, ahead of the names: the tables' words, and 'selects' of the private methods out of them =====
/-- a private method of a class that the tables say can be made, by its rows of tables_1 -/
def lw_okq (q : MethodName × Nat) : Prop := (q.1.cls ≠ "java/lang/invoke/MethodHandle" ∧ q.1.cls ≠ "java/lang/invoke/VarHandle") ∧ Cond.instantiable q.1.cls q.2 ∈ tables_1 ∧ Cond.privateMethod q.1 ∈ tables_1 ∧ Cond.instanceMethod q.1 ∈ tables_1
theorem lw_p0 : lw_okq (⟨"NearTree$Joins", "gather", "([LNearTree$Node;)V"⟩, 6) := ⟨⟨by decide +kernel, by decide +kernel⟩, List.mem_of_getElem? (i := 79) (by decide +kernel), List.mem_of_getElem? (i := 148) (by decide +kernel), List.mem_of_getElem? (i := 149) (by decide +kernel)⟩
theorem lw_p1 : lw_okq (⟨"NearTree$Joins", "reachFrom", "(LNearTree$Node;I)V"⟩, 6) := ⟨⟨by decide +kernel, by decide +kernel⟩, List.mem_of_getElem? (i := 79) (by decide +kernel), List.mem_of_getElem? (i := 153) (by decide +kernel), List.mem_of_getElem? (i := 154) (by decide +kernel)⟩
theorem lw_p2 : lw_okq (⟨"NearTree$Joins", "leastFrom", "(I)I"⟩, 6) := ⟨⟨by decide +kernel, by decide +kernel⟩, List.mem_of_getElem? (i := 79) (by decide +kernel), List.mem_of_getElem? (i := 167) (by decide +kernel), List.mem_of_getElem? (i := 168) (by decide +kernel)⟩
theorem lw_p3 : lw_okq (⟨"NearTree$Joins", "swap", "(II)V"⟩, 6) := ⟨⟨by decide +kernel, by decide +kernel⟩, List.mem_of_getElem? (i := 79) (by decide +kernel), List.mem_of_getElem? (i := 171) (by decide +kernel), List.mem_of_getElem? (i := 172) (by decide +kernel)⟩
theorem lw_p4 : lw_okq (⟨"NearTree", "isPlace", "(IIII)Z"⟩, 9) := ⟨⟨by decide +kernel, by decide +kernel⟩, List.mem_of_getElem? (i := 17) (by decide +kernel), List.mem_of_getElem? (i := 194) (by decide +kernel), List.mem_of_getElem? (i := 195) (by decide +kernel)⟩
theorem lw_p5 : lw_okq (⟨"java/lang/Throwable", "fillInStackTrace", "(I)Ljava/lang/Throwable;"⟩, 6) := ⟨⟨by decide +kernel, by decide +kernel⟩, List.mem_of_getElem? (i := 239) (by decide +kernel), List.mem_of_getElem? (i := 237) (by decide +kernel), List.mem_of_getElem? (i := 238) (by decide +kernel)⟩
theorem lw_p6 : lw_okq (⟨"NearTree$Tree", "axisBehind", "(I)I"⟩, 4) := ⟨⟨by decide +kernel, by decide +kernel⟩, List.mem_of_getElem? (i := 33) (by decide +kernel), List.mem_of_getElem? (i := 372) (by decide +kernel), List.mem_of_getElem? (i := 373) (by decide +kernel)⟩
theorem lw_p7 : lw_okq (⟨"NearTree$Tree", "gatherLive", "(LNearTree$Node;)I"⟩, 4) := ⟨⟨by decide +kernel, by decide +kernel⟩, List.mem_of_getElem? (i := 33) (by decide +kernel), List.mem_of_getElem? (i := 393) (by decide +kernel), List.mem_of_getElem? (i := 394) (by decide +kernel)⟩
theorem lw_p8 : lw_okq (⟨"NearTree$Tree", "build", "(IIIILNearTree$Node;)LNearTree$Node;"⟩, 4) := ⟨⟨by decide +kernel, by decide +kernel⟩, List.mem_of_getElem? (i := 33) (by decide +kernel), List.mem_of_getElem? (i := 401) (by decide +kernel), List.mem_of_getElem? (i := 402) (by decide +kernel)⟩
theorem lw_p9 : lw_okq (⟨"NearTree$Tree", "order", "(III)V"⟩, 4) := ⟨⟨by decide +kernel, by decide +kernel⟩, List.mem_of_getElem? (i := 33) (by decide +kernel), List.mem_of_getElem? (i := 405) (by decide +kernel), List.mem_of_getElem? (i := 406) (by decide +kernel)⟩
theorem lw_p10 : lw_okq (⟨"NearTree", "deadCount", "()I"⟩, 9) := ⟨⟨by decide +kernel, by decide +kernel⟩, List.mem_of_getElem? (i := 17) (by decide +kernel), List.mem_of_getElem? (i := 421) (by decide +kernel), List.mem_of_getElem? (i := 422) (by decide +kernel)⟩
theorem lw_p11 : lw_okq (⟨"NearTree$Search", "lookAt", "(LNearTree$Node;I)V"⟩, 3) := ⟨⟨by decide +kernel, by decide +kernel⟩, List.mem_of_getElem? (i := 453) (by decide +kernel), List.mem_of_getElem? (i := 474) (by decide +kernel), List.mem_of_getElem? (i := 475) (by decide +kernel)⟩
theorem lw_p12 : lw_okq (⟨"NearTree$NearList", "isAhead", "(IJI)Z"⟩, 4) := ⟨⟨by decide +kernel, by decide +kernel⟩, List.mem_of_getElem? (i := 55) (by decide +kernel), List.mem_of_getElem? (i := 487) (by decide +kernel), List.mem_of_getElem? (i := 488) (by decide +kernel)⟩
theorem lw_p13 : lw_okq (⟨"NearTree", "isCountingAxis", "(I)Z"⟩, 9) := ⟨⟨by decide +kernel, by decide +kernel⟩, List.mem_of_getElem? (i := 17) (by decide +kernel), List.mem_of_getElem? (i := 550) (by decide +kernel), List.mem_of_getElem? (i := 551) (by decide +kernel)⟩
theorem lw_p14 : lw_okq (⟨"NearTree$Joins", "comparePair", "(LNearTree$Node;LNearTree$Node;)V"⟩, 6) := ⟨⟨by decide +kernel, by decide +kernel⟩, List.mem_of_getElem? (i := 79) (by decide +kernel), List.mem_of_getElem? (i := 573) (by decide +kernel), List.mem_of_getElem? (i := 574) (by decide +kernel)⟩
theorem lw_p15 : lw_okq (⟨"NearTreeModel", "areNumbers", "(IIII)Z"⟩, 31) := ⟨⟨by decide +kernel, by decide +kernel⟩, List.mem_of_getElem? (i := 625) (by decide +kernel), List.mem_of_getElem? (i := 737) (by decide +kernel), List.mem_of_getElem? (i := 738) (by decide +kernel)⟩
def lw_privs_1 : List (MethodName × Nat) := [(⟨"NearTree$Joins", "gather", "([LNearTree$Node;)V"⟩, 6), (⟨"NearTree$Joins", "reachFrom", "(LNearTree$Node;I)V"⟩, 6), (⟨"NearTree$Joins", "leastFrom", "(I)I"⟩, 6), (⟨"NearTree$Joins", "swap", "(II)V"⟩, 6), (⟨"NearTree", "isPlace", "(IIII)Z"⟩, 9), (⟨"java/lang/Throwable", "fillInStackTrace", "(I)Ljava/lang/Throwable;"⟩, 6), (⟨"NearTree$Tree", "axisBehind", "(I)I"⟩, 4), (⟨"NearTree$Tree", "gatherLive", "(LNearTree$Node;)I"⟩, 4), (⟨"NearTree$Tree", "build", "(IIIILNearTree$Node;)LNearTree$Node;"⟩, 4), (⟨"NearTree$Tree", "order", "(III)V"⟩, 4), (⟨"NearTree", "deadCount", "()I"⟩, 9), (⟨"NearTree$Search", "lookAt", "(LNearTree$Node;I)V"⟩, 3), (⟨"NearTree$NearList", "isAhead", "(IJI)Z"⟩, 4), (⟨"NearTree", "isCountingAxis", "(I)Z"⟩, 9), (⟨"NearTree$Joins", "comparePair", "(LNearTree$Node;LNearTree$Node;)V"⟩, 6), (⟨"NearTreeModel", "areNumbers", "(IIII)Z"⟩, 31)]
theorem lw_r1 : ∀ q ∈ lw_privs_1, lw_okq q := List.forall_mem_cons.mpr ⟨lw_p0, List.forall_mem_cons.mpr ⟨lw_p1, List.forall_mem_cons.mpr ⟨lw_p2, List.forall_mem_cons.mpr ⟨lw_p3, List.forall_mem_cons.mpr ⟨lw_p4, List.forall_mem_cons.mpr ⟨lw_p5, List.forall_mem_cons.mpr ⟨lw_p6, List.forall_mem_cons.mpr ⟨lw_p7, List.forall_mem_cons.mpr ⟨lw_p8, List.forall_mem_cons.mpr ⟨lw_p9, List.forall_mem_cons.mpr ⟨lw_p10, List.forall_mem_cons.mpr ⟨lw_p11, List.forall_mem_cons.mpr ⟨lw_p12, List.forall_mem_cons.mpr ⟨lw_p13, List.forall_mem_cons.mpr ⟨lw_p14, List.forall_mem_cons.mpr ⟨lw_p15, fun _ h => absurd h List.not_mem_nil⟩⟩⟩⟩⟩⟩⟩⟩⟩⟩⟩⟩⟩⟩⟩⟩
theorem lw_p16 : lw_okq (⟨"NearTreeModel", "isLess", "(III)Z"⟩, 31) := ⟨⟨by decide +kernel, by decide +kernel⟩, List.mem_of_getElem? (i := 625) (by decide +kernel), List.mem_of_getElem? (i := 743) (by decide +kernel), List.mem_of_getElem? (i := 744) (by decide +kernel)⟩
theorem lw_p17 : lw_okq (⟨"NearTreeModel", "newNode", "(II)I"⟩, 31) := ⟨⟨by decide +kernel, by decide +kernel⟩, List.mem_of_getElem? (i := 625) (by decide +kernel), List.mem_of_getElem? (i := 747) (by decide +kernel), List.mem_of_getElem? (i := 748) (by decide +kernel)⟩
theorem lw_p18 : lw_okq (⟨"NearTreeModel", "hang", "(IIZ)V"⟩, 31) := ⟨⟨by decide +kernel, by decide +kernel⟩, List.mem_of_getElem? (i := 625) (by decide +kernel), List.mem_of_getElem? (i := 751) (by decide +kernel), List.mem_of_getElem? (i := 752) (by decide +kernel)⟩
theorem lw_p19 : lw_okq (⟨"NearTreeModel", "walkFrom", "(I)I"⟩, 31) := ⟨⟨by decide +kernel, by decide +kernel⟩, List.mem_of_getElem? (i := 625) (by decide +kernel), List.mem_of_getElem? (i := 755) (by decide +kernel), List.mem_of_getElem? (i := 756) (by decide +kernel)⟩
theorem lw_p20 : lw_okq (⟨"NearTreeModel", "build", "(I)I"⟩, 31) := ⟨⟨by decide +kernel, by decide +kernel⟩, List.mem_of_getElem? (i := 625) (by decide +kernel), List.mem_of_getElem? (i := 759) (by decide +kernel), List.mem_of_getElem? (i := 760) (by decide +kernel)⟩
theorem lw_p21 : lw_okq (⟨"NearTreeModel", "depth", "(I)I"⟩, 31) := ⟨⟨by decide +kernel, by decide +kernel⟩, List.mem_of_getElem? (i := 625) (by decide +kernel), List.mem_of_getElem? (i := 763) (by decide +kernel), List.mem_of_getElem? (i := 764) (by decide +kernel)⟩
theorem lw_p22 : lw_okq (⟨"NearTreeModel", "sortBy", "(III)V"⟩, 31) := ⟨⟨by decide +kernel, by decide +kernel⟩, List.mem_of_getElem? (i := 625) (by decide +kernel), List.mem_of_getElem? (i := 767) (by decide +kernel), List.mem_of_getElem? (i := 768) (by decide +kernel)⟩
theorem lw_p23 : lw_okq (⟨"NearTreeModel", "aimAt", "(IIII)V"⟩, 31) := ⟨⟨by decide +kernel, by decide +kernel⟩, List.mem_of_getElem? (i := 625) (by decide +kernel), List.mem_of_getElem? (i := 785) (by decide +kernel), List.mem_of_getElem? (i := 786) (by decide +kernel)⟩
theorem lw_p24 : lw_okq (⟨"NearTreeModel", "come", "(II)V"⟩, 31) := ⟨⟨by decide +kernel, by decide +kernel⟩, List.mem_of_getElem? (i := 625) (by decide +kernel), List.mem_of_getElem? (i := 789) (by decide +kernel), List.mem_of_getElem? (i := 790) (by decide +kernel)⟩
theorem lw_p25 : lw_okq (⟨"NearTreeModel", "away", "(I)J"⟩, 31) := ⟨⟨by decide +kernel, by decide +kernel⟩, List.mem_of_getElem? (i := 625) (by decide +kernel), List.mem_of_getElem? (i := 793) (by decide +kernel), List.mem_of_getElem? (i := 794) (by decide +kernel)⟩
theorem lw_p26 : lw_okq (⟨"NearTreeModel", "between", "(II)J"⟩, 31) := ⟨⟨by decide +kernel, by decide +kernel⟩, List.mem_of_getElem? (i := 625) (by decide +kernel), List.mem_of_getElem? (i := 822) (by decide +kernel), List.mem_of_getElem? (i := 823) (by decide +kernel)⟩
def lw_privs_2 : List (MethodName × Nat) := [(⟨"NearTreeModel", "isLess", "(III)Z"⟩, 31), (⟨"NearTreeModel", "newNode", "(II)I"⟩, 31), (⟨"NearTreeModel", "hang", "(IIZ)V"⟩, 31), (⟨"NearTreeModel", "walkFrom", "(I)I"⟩, 31), (⟨"NearTreeModel", "build", "(I)I"⟩, 31), (⟨"NearTreeModel", "depth", "(I)I"⟩, 31), (⟨"NearTreeModel", "sortBy", "(III)V"⟩, 31), (⟨"NearTreeModel", "aimAt", "(IIII)V"⟩, 31), (⟨"NearTreeModel", "come", "(II)V"⟩, 31), (⟨"NearTreeModel", "away", "(I)J"⟩, 31), (⟨"NearTreeModel", "between", "(II)J"⟩, 31)]
theorem lw_r2 : ∀ q ∈ lw_privs_2, lw_okq q := List.forall_mem_cons.mpr ⟨lw_p16, List.forall_mem_cons.mpr ⟨lw_p17, List.forall_mem_cons.mpr ⟨lw_p18, List.forall_mem_cons.mpr ⟨lw_p19, List.forall_mem_cons.mpr ⟨lw_p20, List.forall_mem_cons.mpr ⟨lw_p21, List.forall_mem_cons.mpr ⟨lw_p22, List.forall_mem_cons.mpr ⟨lw_p23, List.forall_mem_cons.mpr ⟨lw_p24, List.forall_mem_cons.mpr ⟨lw_p25, List.forall_mem_cons.mpr ⟨lw_p26, fun _ h => absurd h List.not_mem_nil⟩⟩⟩⟩⟩⟩⟩⟩⟩⟩⟩
def lw_privs : List (MethodName × Nat) := lw_privs_1 ++ (lw_privs_2)
def lw_tbl : List Cond := k2_sels lw_privs ++ tables_1
theorem lw_privs_ok : ∀ q ∈ lw_privs, lw_okq q := by
  show ∀ q ∈ lw_privs_1 ++ (lw_privs_2), lw_okq q
  exact List.forall_mem_append.mpr ⟨lw_r1, lw_r2⟩
-- ===== end of PART A; then your names; then what follows =====
end
section
/-! ===== BEGIN words of one list among another's, by their places ===== -/
theorem goodIn_r {big : List Cond} (ws : List Cond) (ps : List Nat) (hp : ws = ps.filterMap (fun i => big[i]?)) (h : ws.all goodWord = true) : GoodIn big ws := by
  intro w hw
  have h1 := List.all_eq_true.mp h w hw
  rw [hp] at hw
  obtain ⟨i, -, hi⟩ := List.mem_filterMap.mp hw
  have hm : w ∈ big := by first | exact List.mem_of_getElem? hi | exact List.getElem?_mem hi
  exact ⟨hm, good_of_word h1⟩
theorem goodIn_app {big a b : List Cond} (ha : GoodIn big a) (hb : GoodIn big b) : GoodIn big (a ++ b) := fun w h => (List.mem_append.mp h).elim (ha w) (hb w)
theorem goodIn_ca {big a b : List Cond} {c : Cond} (ha : GoodIn big (c :: a)) (hb : GoodIn big b) : GoodIn big (c :: (a ++ b)) := fun w h => (List.mem_cons.mp h).elim (fun e => ha w (List.mem_cons.mpr (Or.inl e))) (fun h => (List.mem_append.mp h).elim (fun h => ha w (List.mem_cons.mpr (Or.inr h))) (hb w))
theorem goodIn_sub {big ws : List Cond} (hm : ∀ w ∈ ws, w ∈ big) (h : ws.all goodWord = true) : GoodIn big ws := fun w hw => ⟨hm w hw, good_of_word (List.all_eq_true.mp h w hw)⟩
/-! ===== END ===== -/

/-! ===== BEGIN exceptions that leave a method, and their catching by the caller (launches without stack traces) ===== -/
section VXA
/-! The laws vx_back, vx_callV, vx_callS, vx_callSW, vx_throw0, vx_throwS follow proofs of the library, with one case more: JvmDerived/Free/Laws.lean (Back.of_free), Shelf42/LK1.lean (callV, callS), Shelf/KitTraced.lean (throwNew0V, throwNewS). -/
/-- where a method has thrown q: the class by its name, the cell, what was written, the world -/
def vx_T (XC : String → State → State → Prop) (st : State) (q : Addr) (t : State) (mc ms : Nat) (free : Addr → Prop) : Prop :=
  ∃ (E : String) (ce : Cell) (L : List Loc), XC E st t ∧ t.heap[q]? = some ce ∧ ce.vm = .none ∧ st.vm.findClass E = some ce.cls ∧ st.WarmedH t.vm ∧ st.sameButNew ({ t with vm := st.vm } : State) L mc ms ∧ ∀ z ∈ L, free z.base
def vx_Q (Qc : Array Value → State → Outcome → State → Prop) (XC : String → State → State → Prop) (mc ms : Nat) (free : Addr → Prop) : Array Value → State → Outcome → State → Prop := fun a st o t =>
  (Qc a st o t ∧ ∃ L, FrameEnd st o t L mc ms ∧ ∀ q ∈ L, free q.base) ∨ ∃ q, o = .threw q ∧ vx_T XC st q t mc ms free
/-- a callee that returns or throws -/
def vx_Met (l : Launch) (y : MethodName) (ws : List Cond) (rm : Room) (Pc : Array Value → State → Prop) (Qc : Array Value → State → Outcome → State → Prop) (XC : String → State → State → Prop) (mc ms : Nat) (free : Addr → Prop) : Prop :=
  MetFree l y (headSpec ws rm) Pc (fun _ _ _ _ _ => True) (vx_Q Qc XC mc ms free)
def vx_Post (XC : String → State → State → Prop) (mc ms : Nat) (free : Addr → Prop) : Pt → Array Value → Addr → Pt → Prop := fun A a q B =>
  ∃ (g : JFrame) (mk : MethodId) (t : State) (L : List Loc) (E : String) (ce : Cell), B.U.heap = t.heap ∧ B.U.vm = t.vm ∧ XC E (A.U.calling g mk a) t ∧ t.heap[q]? = some ce ∧ ce.vm = .none ∧ A.U.vm.findClass E = some ce.cls ∧ B.locs = A.locs ++ L ∧ (∀ z ∈ L, free z.base) ∧ B.cells = A.cells + mc ∧ B.slots = A.slots + ms
def vx_Back (l : Launch) (R : Room) (p : Program) (e : Env) (below : List Frame) (s : State) (sargs : Array Value) (y : MethodName) (len W9 : Nat)
    (Pre : Pt → Array Value → Prop) (Post : Pt → Array Value → Option Value → Pt → Prop) (PostX : Pt → Array Value → Addr → Pt → Prop) : Prop :=
  ∀ (m : MethodId) (meth : Method) (c : Code) (A : Pt) (g : JFrame) (ig : Instr) (mk : MethodId) (a : Array Value),
    Stand p l e R s m sargs below meth c A.U A.locs A.cells A.slots → g.method = m → g.locals.size = c.maxLocals → decode c.code g.pc = .ok (ig, len) →
    2 * g.monitorRoom + (g.stack.map fun v => v.category).sum ≤ W9 → A.U.methodNamed? y = some mk → Pre A a →
    (∃ (v : Option Value) (B : Pt), Stand p l e R s m sargs below meth c B.U B.locs B.cells B.slots ∧ Post A a v B ∧
      Steps p.tables e below (doInvoke e (A.U.setTop g) [] mk a).1 (B.U.setTop { g with pc := g.pc + len, stack := v.toList ++ g.stack })) ∨
    (∃ (q : Addr) (B : Pt), Stand p l e R s m sargs below meth c B.U B.locs B.cells B.slots ∧ PostX A a q B ∧
      Steps p.tables e below (doInvoke e (A.U.setTop g) [] mk a).1 ((B.U.setTop g).pushFrame (.throwing q)))
section Payer
variable {l : Launch} {R : Room} {p : Program} {e : Env} {below : List Frame} {s : State} {sargs : Array Value} {y : MethodName} {len W9 : Nat}
theorem vx_back {ws : List Cond} {rm : Room} {Pc : Array Value → State → Prop} {Qc : Array Value → State → Outcome → State → Prop} {XC : String → State → State → Prop} {mc ms : Nat} {free : Addr → Prop} {bytes : ByteArray} {maxL : Nat} {ret : Option FieldType}
    (hM : vx_Met l y ws rm Pc Qc XC mc ms free) (hblind : FrameBlind Pc) (hrc : rm.cells = mc) (hrs : rm.slots = ms)
    (hframes : rm.frames + 1 ≤ R.frames) (hlocals : W9 + (maxL + 11) + rm.locals ≤ R.locals)
    (hws : ∀ w ∈ ws, ∀ a' U, s.WarmedH U.vm → w.before a' U = true) (hcode : Cond.code y bytes maxL ret ∈ ws) (hinit : ∀ a' U, s.WarmedH U.vm → (Cond.initialized y.cls).before a' U = true) :
    vx_Back l R p e below s sargs y len W9 (PreOf R mc ms Pc) (PostOf Qc mc ms free) (vx_Post XC mc ms free) := by
  intro m meth c A g ig mk a X hg hsize hdg hW hn hp
  have h1 : (headSpec ws rm).pre.before a A.U = true := atoms_intro fun w hw => hws w hw _ _ X.warmed
  have h2 : (Cond.code y bytes maxL ret).before a A.U = true := hws _ hcode _ _ X.warmed
  have h3 : (Cond.initialized y.cls).before a A.U = true := hinit _ _ X.warmed
  have h4 : A.cells + (headSpec ws rm).room.cells ≤ R.cells := by rw [show (headSpec ws rm).room.cells = mc from hrc]; exact hp.1
  have h5 : A.slots + (headSpec ws rm).room.slots ≤ R.slots := by rw [show (headSpec ws rm).room.slots = ms from hrs]; exact hp.2.1
  have hPc : Pc a (A.U.calling g mk a) := hblind _ _ _ _ hp.2.2
  obtain ⟨U, Ls, c0, s0⟩ := A
  dsimp only [Pt.U, Pt.locs, Pt.cells, Pt.slots] at h1 h2 h3 h4 h5 X hn hPc ⊢
  obtain ⟨methY, cY, hmY, hcY, -, hlY, -, -, -, -⟩ := Cond.code_spec hn h2
  obtain ⟨kY, hkY, -⟩ := className_of_methodNamed hn
  have hinitY : kY.init = .initialized := Cond.initialized_spec (findClass_of_methodNamed hn) hkY h3
  have h : At U g.method c below := by rw [hg]; exact X.here
  have hlocals9 : W9 + (maxL + 11) + (headSpec ws rm).room.locals ≤ R.locals := hlocals
  have happ : (headSpec ws rm).appliesLoose y e.platform (U.calling g mk a) = true :=
    Spec.appliesLoose_calling (g := g) h hdg hn hkY hinitY
      (X.room_calling (g := g) (R' := (headSpec ws rm).room) hsize hmY hcY hframes (by rw [hlY]; omega) h4 h5) h1
  obtain ⟨mid, hmid⟩ := h.above
  have hfr : (U.setTop g).frames = (.java g :: mid) ++ below := by rw [State.frames_setTop' g h.top, hmid]; rfl
  obtain ⟨o, s₂, hsteps, -, hend, hq⟩ := Steps.callFree hM p X.admits X.cas X.clock (acts := []) hfr happ hPc trivial
  have hq' : vx_Q Qc XC mc ms free a (U.calling g mk a) o s₂ := hq
  rw [State.frames_setTop' g h.top] at hend
  obtain ⟨g₀, hg0⟩ := Option.isSome_iff_exists.mp h.top
  obtain ⟨r, hr⟩ := State.topJava?_eq_some.mp hg0
  have hr' : (({ U with heap := s₂.heap, slotsUsed := s₂.slotsUsed } : State).setVm s₂.vm).frames = .java g₀ :: r := hr
  rcases hq' with ⟨hqc, L, hfe, hL⟩ | ⟨q, rfl, E, ce, L, hx, hce, hcv, hcl, hW₂, hsm, hL⟩
  · obtain ⟨⟨v, rfl⟩, hW₂, e2, q2, q3, q4, q5, q6⟩ := id hfe
    have e3 : s₂ = ({ (U.calling g mk a).setFrames s₂.frames with heap := s₂.heap, slotsUsed := s₂.slotsUsed } : State).setVm s₂.vm := by
      have : s₂ = ({ s₂ with vm := (U.calling g mk a).vm } : State).setVm s₂.vm := rfl
      rw [e2] at this
      exact this
    obtain ⟨c₂, i₂, len₂, hc₂, hd₂, hf₂⟩ := hend
    have hW' : U.WarmedH s₂.vm := hW₂
    have hcc : c₂ = c := by
      have h1 : s₂.code? g.method = U.code? g.method := by
        rw [State.code?_eq, State.code?_eq, hW'.alike.method?]
      exact Option.some.inj (hc₂.symm.trans (h1.trans h.code))
    subst hcc
    have hlen : len₂ = len := by rw [hdg] at hd₂; cases hd₂; rfl
    subst hlen
    have hs₂ : s₂ = (({ U with heap := s₂.heap, slotsUsed := s₂.slotsUsed } : State).setVm s₂.vm).setTop { g with pc := g.pc + len₂, stack := v.toList ++ g.stack } := by
      refine e3.trans ?_
      rw [hf₂, State.calling_eq h.top, State.setFrames_setFrames, State.setTop_of_frames _ hr', hr]
      rfl
    have hsame : U.sameButNew ({ U with heap := s₂.heap, slotsUsed := s₂.slotsUsed } : State) L mc ms := by
      refine ⟨?_, q2, q3, q4, q5, q6⟩
      obtain ⟨t, ht, -⟩ := State.frames_cons hr
      show ({ U with heap := s₂.heap, slotsUsed := s₂.slotsUsed } : State) = { U.setFrames U.frames with heap := s₂.heap, slotsUsed := s₂.slotsUsed }
      rw [State.setFrames_self ht]
    subst hg
    refine Or.inl ⟨v, ⟨(({ U with heap := s₂.heap, slotsUsed := s₂.slotsUsed } : State).setVm s₂.vm), Ls ++ L, c0 + mc, s0 + ms⟩,
      ⟨X.admits, X.cas, X.clock, X.frames, X.room, X.hears, X.method, X.code, (X.here.setHeapUsed s₂.heap s₂.slotsUsed).setVm hW'.alike, X.tail, State.WarmedH.trans X.warmed hW', X.limits, X.bytes, X.same.trans (hsame.setVm s.vm)⟩,
      ⟨g, mk, s₂, L, rfl, rfl, hqc, rfl, hL, rfl, rfl⟩, ?_⟩
    show Steps p.tables e below _ ((({ U with heap := s₂.heap, slotsUsed := s₂.slotsUsed } : State).setVm s₂.vm).setTop { g with pc := g.pc + len₂, stack := v.toList ++ g.stack })
    rw [← hs₂]
    exact hsteps
  · obtain ⟨e2, q2, q3, q4, q5, q6⟩ := id hsm
    have e3 : s₂ = ({ (U.calling g mk a).setFrames s₂.frames with heap := s₂.heap, slotsUsed := s₂.slotsUsed } : State).setVm s₂.vm := by
      have : s₂ = ({ s₂ with vm := (U.calling g mk a).vm } : State).setVm s₂.vm := rfl
      rw [e2] at this
      exact this
    have hf₂ : s₂.frames = .throwing q :: .java g :: U.frames.tail := hend
    have hW' : U.WarmedH s₂.vm := hW₂
    have hs₂ : s₂ = ((({ U with heap := s₂.heap, slotsUsed := s₂.slotsUsed } : State).setVm s₂.vm).setTop g).pushFrame (.throwing q) := by
      refine e3.trans ?_
      rw [hf₂, State.calling_eq h.top, State.setFrames_setFrames, State.pushFrame, State.frames_setTop _ hr', State.setTop_of_frames _ hr', State.setFrames_setFrames, hr]
      rfl
    have hsame : U.sameButNew ({ U with heap := s₂.heap, slotsUsed := s₂.slotsUsed } : State) L mc ms := by
      refine ⟨?_, q2, q3, q4, q5, q6⟩
      obtain ⟨t, ht, -⟩ := State.frames_cons hr
      show ({ U with heap := s₂.heap, slotsUsed := s₂.slotsUsed } : State) = { U.setFrames U.frames with heap := s₂.heap, slotsUsed := s₂.slotsUsed }
      rw [State.setFrames_self ht]
    subst hg
    refine Or.inr ⟨q, ⟨(({ U with heap := s₂.heap, slotsUsed := s₂.slotsUsed } : State).setVm s₂.vm), Ls ++ L, c0 + mc, s0 + ms⟩,
      ⟨X.admits, X.cas, X.clock, X.frames, X.room, X.hears, X.method, X.code, (X.here.setHeapUsed s₂.heap s₂.slotsUsed).setVm hW'.alike, X.tail, State.WarmedH.trans X.warmed hW', X.limits, X.bytes, X.same.trans (hsame.setVm s.vm)⟩,
      ⟨g, mk, s₂, L, E, ce, rfl, rfl, hx, hce, hcv, hcl, rfl, hL, rfl, rfl⟩, ?_⟩
    show Steps p.tables e below _ (((({ U with heap := s₂.heap, slotsUsed := s₂.slotsUsed } : State).setVm s₂.vm).setTop g).pushFrame (.throwing q))
    rw [← hs₂]
    exact hsteps
end Payer
section Calls
variable {p : Program} {l : Launch} {e : Env} {R : Room} {s : State} {m : MethodId} {args : Array Value} {below : List Frame} {meth : Method} {c : Code} {T : State} {locs : List Loc} {cells slots : Nat}
theorem vx_callV (X : Stand p l e R s m args below meth c T locs cells slots) (hexec : p.tables.exec = Jvm.exec) {own C : String} {index : Nat} {y : MethodName} {bytes : ByteArray} {maxL : Nat} {ret : Option FieldType}
    (hown : s.vm.findClass own = some m.cls) (hlink : (Cond.methodLink own index y).before args s = true) (hinst : (Cond.instanceMethod y).before args s = true) (hsel : (Cond.selects C y y).before args s = true)
    (hcode : (Cond.code y bytes maxL ret).before args s = true) (hy : y.cls ≠ "java/lang/invoke/MethodHandle" ∧ y.cls ≠ "java/lang/invoke/VarHandle")
    {W9 : Nat} {Pre : Pt → Array Value → Prop} {Post : Pt → Array Value → Option Value → Pt → Prop} {PostX : Pt → Array Value → Addr → Pt → Prop} (hK : vx_Back l R p e below s args y 3 W9 Pre Post PostX)
    {b : Addr} {cellB : Cell} (hcell : T.heap[b]? = some cellB) (hobj : cellB.vm.isStatics = false) (hcls : s.vm.findClass C = some cellB.cls)
    {g : JFrame} (hg : g.method = m) (hsize : g.locals.size = c.maxLocals) {argsL rest : List Value} (hlen : ∀ sig, parseMethodDescriptor y.desc = some sig → argsL.length = sig.parameters.length)
    (hstack : g.stack = argsL.reverse ++ .ref b :: rest) (hW : 2 * g.monitorRoom + (rest.map fun v => v.category).sum ≤ W9) (hdg : decode c.code g.pc = .ok (.invokevirtual index, 3))
    (hpre : ∀ vm₁, s.WarmedH vm₁ → Pre ⟨T.setVm vm₁, locs, cells, slots⟩ (Value.ref b :: argsL).toArray) :
    (∃ (v : Option Value) (vm₁ : Vm) (B : Pt), s.WarmedH vm₁ ∧ Stand p l e R s m args below meth c B.U B.locs B.cells B.slots ∧ Post ⟨T.setVm vm₁, locs, cells, slots⟩ (Value.ref b :: argsL).toArray v B ∧
      ∀ target, Steps p.tables e below (B.U.setTop { g with pc := g.pc + 3, stack := v.toList ++ rest }) target → Steps p.tables e below (T.setTop g) target) ∨
    (∃ (q : Addr) (vm₁ : Vm) (B : Pt), s.WarmedH vm₁ ∧ Stand p l e R s m args below meth c B.U B.locs B.cells B.slots ∧ PostX ⟨T.setVm vm₁, locs, cells, slots⟩ (Value.ref b :: argsL).toArray q B ∧
      Steps p.tables e below (T.setTop g) ((B.U.setTop { g with stack := rest }).pushFrame (.throwing q))) := by
  obtain ⟨mk, methM, hnamed, hmethM, hstM, habM⟩ := Cond.instanceMethod_spec hinst
  obtain ⟨methM', cM, hmethM', -, -, -, -, -, -, hsigM⟩ := Cond.code_spec hnamed hcode
  cases hmethM.symm.trans hmethM'
  obtain ⟨c2, r2, m2, q1, q2, q3, q4, kP, hkP, hkPi⟩ := Cond.selects_spec hsel
  cases hcls.symm.trans q1
  cases (State.methodFound?_of_named hnamed hy).symm.trans q2
  cases hnamed.symm.trans q3
  have hselP : selectMethod e.platform s.vm cellB.cls mk = .method mk := by rw [Launch.admits_selectMethod X.admits]; exact q4
  obtain ⟨vm₁, X₁, hstep₁⟩ := X.invokevirtual hexec hown hlink hnamed hmethM hstM hkP hkPi hy (a := b) (cell := cellB) hcell
    (fun z h => by rw [h] at hobj; cases hobj) hselP hmethM habM hkP hkPi (g := g) hg (argsL := argsL) (rest := rest) (hlen _ hsigM) hstack hdg
  rcases hK m meth c ⟨T.setVm vm₁, locs, cells, slots⟩ { g with stack := rest } (.invokevirtual index) mk (Value.ref b :: argsL).toArray X₁ hg hsize hdg hW (X₁.named hnamed) (hpre vm₁ X₁.warmed) with ⟨v, B, X', hpost, hsteps⟩ | ⟨q, B, X', hpost, hsteps⟩
  · exact Or.inl ⟨v, vm₁, B, X₁.warmed, X', hpost, fun target h => hstep₁ _ fun acts => by rw [doInvoke_state]; exact hsteps.trans h⟩
  · exact Or.inr ⟨q, vm₁, B, X₁.warmed, X', hpost, hstep₁ _ fun acts => by rw [doInvoke_state]; exact hsteps⟩
theorem vx_callS (X : Stand p l e R s m args below meth c T locs cells slots) (hexec : p.tables.exec = Jvm.exec) {own : String} {index : Nat} {y : MethodName} {bytes : ByteArray} {maxL : Nat} {ret : Option FieldType}
    (hown : s.vm.findClass own = some m.cls) (hlink : (Cond.methodLink own index y).before args s = true) (hstat : (Cond.static y).before args s = true) (hinit : (Cond.initialized y.cls).before args s = true)
    (hcode : (Cond.code y bytes maxL ret).before args s = true) (hy : y.cls ≠ "java/lang/invoke/MethodHandle" ∧ y.cls ≠ "java/lang/invoke/VarHandle")
    {W9 : Nat} {Pre : Pt → Array Value → Prop} {Post : Pt → Array Value → Option Value → Pt → Prop} {PostX : Pt → Array Value → Addr → Pt → Prop} (hK : vx_Back l R p e below s args y 3 W9 Pre Post PostX)
    {g : JFrame} (hg : g.method = m) (hsize : g.locals.size = c.maxLocals) {argsL rest : List Value} (hlen : ∀ sig, parseMethodDescriptor y.desc = some sig → argsL.length = sig.parameters.length)
    (hstack : g.stack = argsL.reverse ++ rest) (hW : 2 * g.monitorRoom + (rest.map fun v => v.category).sum ≤ W9) (hdg : decode c.code g.pc = .ok (.invokestatic index, 3))
    (hpre : ∀ vm₁, s.WarmedH vm₁ → Pre ⟨T.setVm vm₁, locs, cells, slots⟩ argsL.toArray) :
    (∃ (v : Option Value) (vm₁ : Vm) (B : Pt), s.WarmedH vm₁ ∧ Stand p l e R s m args below meth c B.U B.locs B.cells B.slots ∧ Post ⟨T.setVm vm₁, locs, cells, slots⟩ argsL.toArray v B ∧
      ∀ target, Steps p.tables e below (B.U.setTop { g with pc := g.pc + 3, stack := v.toList ++ rest }) target → Steps p.tables e below (T.setTop g) target) ∨
    (∃ (q : Addr) (vm₁ : Vm) (B : Pt), s.WarmedH vm₁ ∧ Stand p l e R s m args below meth c B.U B.locs B.cells B.slots ∧ PostX ⟨T.setVm vm₁, locs, cells, slots⟩ argsL.toArray q B ∧
      Steps p.tables e below (T.setTop g) ((B.U.setTop { g with stack := rest }).pushFrame (.throwing q))) := by
  obtain ⟨mk, hnamed⟩ := Cond.code_named hcode
  obtain ⟨methM, cM, hmethM, -, -, -, -, -, -, hsigM⟩ := Cond.code_spec hnamed hcode
  have hstatic : methM.isStatic = true := Cond.static_spec hnamed hmethM hstat
  obtain ⟨kP, hkP, -⟩ := className_of_methodNamed hnamed
  have hinitP : kP.init = .initialized := Cond.initialized_spec (findClass_of_methodNamed hnamed) hkP hinit
  obtain ⟨vm₁, X₁, hstep₁⟩ := X.invokestatic hexec hown hlink hnamed hmethM hstatic hkP hinitP hy (g := g) hg (argsL := argsL) (rest := rest) (hlen _ hsigM) hstack hdg
  rcases hK m meth c ⟨T.setVm vm₁, locs, cells, slots⟩ { g with stack := rest } (.invokestatic index) mk argsL.toArray X₁ hg hsize hdg hW (X₁.named hnamed) (hpre vm₁ X₁.warmed) with ⟨v, B, X', hpost, hsteps⟩ | ⟨q, B, X', hpost, hsteps⟩
  · exact Or.inl ⟨v, vm₁, B, X₁.warmed, X', hpost, fun target h => hstep₁ _ fun acts => by rw [doInvoke_state]; exact hsteps.trans h⟩
  · exact Or.inr ⟨q, vm₁, B, X₁.warmed, X', hpost, hstep₁ _ fun acts => by rw [doInvoke_state]; exact hsteps⟩
end Calls
theorem vx_cls {s : State} {T : State} {vm₁ : Vm} {E : String} {k : ClassId} (hW : s.WarmedH vm₁) (h : (T.setVm vm₁).vm.findClass E = some k) : s.vm.findClass E = some k := by
  have h1 : vm₁.findClass E = some k := h
  rw [hW.alike.findClass] at h1
  exact h1
/-- the method's frame g, with q thrown over it -/
def vx_W (p : Program) (l : Launch) (e : Env) (R : Room) (s : State) (m : MethodId) (args : Array Value) (below : List Frame) (meth : Method) (c : Code) (H : Heap) (locs : List Loc) (cells slots : Nat) (Q : State → Prop) (g : JFrame) (q : Addr) : Prop :=
  ∀ T : State, T.heap = H → Stand p l e R s m args below meth c T locs cells slots → ∃ t, Steps p.tables e below ((T.setTop g).pushFrame (.throwing q)) t ∧ Q t
def vx_Run (p : Program) (l : Launch) (e : Env) (R : Room) (s : State) (m : MethodId) (args : Array Value) (below : List Frame) (meth : Method) (c : Code) (H : Heap) (locs : List Loc) (cells slots mc ms : Nat) (g : JFrame) (rest : List Value) (Qa : State → Outcome → State → Prop) (XC : String → State → State → Prop) (free : Addr → Prop) : Prop :=
  ∀ T : State, T.heap = H → Stand p l e R s m args below meth c T locs cells slots →
    (∃ (v : Option Value) (st₀ t T' : State) (L : List Loc), st₀.heap = H ∧ Stand p l e R s m args below meth c T' (locs ++ L) (cells + mc) (slots + ms) ∧ (∀ q ∈ L, free q.base) ∧ T'.heap = t.heap ∧ T'.vm = t.vm ∧ Qa st₀ (.returned v) t ∧
      Goes p e below T g T' { g with pc := g.pc + 3, stack := v.toList ++ rest }) ∨
    (∃ (q : Addr) (st₀ t T' : State) (L : List Loc) (E : String) (ce : Cell), st₀.heap = H ∧ Stand p l e R s m args below meth c T' (locs ++ L) (cells + mc) (slots + ms) ∧ (∀ z ∈ L, free z.base) ∧ T'.heap = t.heap ∧ T'.vm = t.vm ∧ XC E st₀ t ∧ t.heap[q]? = some ce ∧ ce.vm = .none ∧ s.vm.findClass E = some ce.cls ∧
      Steps p.tables e below (T.setTop g) ((T'.setTop { g with stack := rest }).pushFrame (.throwing q)))
def vx_X {S : Type} (px : S → Prop) (B : String → S → State → Prop) (A : Nat → Prop) : String → State → State → Prop := fun E st t => ∃ u : S, px u ∧ B E u t ∧ va_F A st t
section Runs
variable {p : Program} {l : Launch} {e : Env} {R : Room} {s : State} {m : MethodId} {args : Array Value} {below : List Frame} {meth : Method} {c : Code} {H : Heap} {locs : List Loc} {cells slots : Nat}
variable {y : MethodName} {bytes cc : ByteArray} {maxL nL mc ms n index : Nat} {ret : Option FieldType} {ws : List Cond} {rm : Room} {Pc : Array Value → State → Prop} {Qc : Array Value → State → Outcome → State → Prop} {XC : String → State → State → Prop} {free : Addr → Prop} {Ts : List Cond} {own C : String} {b : Addr} {As rest : List Value} {g : JFrame}
theorem vx_callBack (cb : CallB R s args own index y bytes maxL ret ws rm mc ms n) (hM : vx_Met l y ws rm Pc Qc XC mc ms free) (hbl : FrameBlind Pc) : vx_Back l R p e below s args y 3 8 (PreOf R mc ms Pc) (PostOf Qc mc ms free) (vx_Post XC mc ms free) := by
  obtain ⟨hrc, hrs, hfr, hlo, hws, hcw, -, hini, -⟩ := cb
  exact vx_back (bytes := bytes) (maxL := maxL) (ret := ret) hM hbl hrc hrs hfr hlo hws hcw (fun a' U hW => word_at hW (Or.inl (by first | rfl | simp [Cond.onTables, Cond.keeps, Cond.steady])) hini)
theorem vx_runV (S : CallFix p m c cc nL s args Ts own) (hM : vx_Met l y ws rm Pc Qc XC mc ms free) (cw : CallW R s args own C index y bytes maxL ret ws rm mc ms n) (hp : PreV s H C b Pc As)
    (hg : g.method = m) (hn : As.length = n) (hsize : g.locals.size = nL) (hstack : g.stack = As.reverse ++ .ref b :: rest) (hW : 2 * g.monitorRoom + (rest.map fun v => v.category).sum ≤ 8) (hdg : decode cc g.pc = .ok (.invokevirtual index, 3)) (hf : cells + mc ≤ R.cells ∧ slots + ms ≤ R.slots) :
    vx_Run p l e R s m args below meth c H locs cells slots mc ms g rest (Qc (Value.ref b :: As).toArray) XC free := by
  have hK : vx_Back l R p e below s args y 3 8 (PreOf R mc ms Pc) (PostOf Qc mc ms free) (vx_Post XC mc ms free) := vx_callBack cw.1 hM hp.1
  obtain ⟨⟨-, -, -, -, -, -, hcode, -, hy, hlen, hl⟩, hin, hse⟩ := cw
  obtain ⟨hx, hb, hml, ho, -⟩ := S
  obtain ⟨-, ⟨cellB, hcB, hoB, hclB⟩, hPc⟩ := hp
  intro T hT X
  rcases vx_callV X hx (C := C) (bytes := bytes) (maxL := maxL) (ret := ret) ho hl hin hse hcode hy hK (by rw [hT]; exact hcB) hoB hclB hg (hsize.trans hml.symm) (argsL := As) (rest := rest) (fun sig h => hn.trans (hlen sig h)) hstack hW (by rw [hb]; exact hdg)
    (fun vm₁ hW₁ => ⟨hf.1, hf.2, hPc (T.setVm vm₁) hT hW₁⟩) with ⟨v, vm₁, ⟨U', l2, c2, s2⟩, hW₁, X', ⟨g', mk, t, L, e1, e2, hq, h1, hL, h2, h3⟩, st⟩ | ⟨q, vm₁, ⟨U', l2, c2, s2⟩, hW₁, X', ⟨g', mk, t, L, E, ce, e1, e2, hq, hce, hcv, hcl, h1, hL, h2, h3⟩, st⟩
  · dsimp only [Pt.U, Pt.locs, Pt.cells, Pt.slots] at X' e1 e2 h1 h2 h3 st
    subst h1; subst h2; subst h3
    exact Or.inl ⟨v, (T.setVm vm₁).calling g' mk (Value.ref b :: As).toArray, t, U', L, hT, X', hL, e1, e2, hq, st⟩
  · dsimp only [Pt.U, Pt.locs, Pt.cells, Pt.slots] at X' e1 e2 h1 h2 h3 st hcl
    subst h1; subst h2; subst h3
    exact Or.inr ⟨q, (T.setVm vm₁).calling g' mk (Value.ref b :: As).toArray, t, U', L, E, ce, hT, X', hL, e1, e2, hq, hce, hcv, vx_cls hW₁ hcl, st⟩
theorem vx_runS (S : CallFix p m c cc nL s args Ts own) (hM : vx_Met l y ws rm Pc Qc XC mc ms free) (cw : CallB R s args own index y bytes maxL ret ws rm mc ms n ∧ (Cond.static y).before args s = true) (hp : PreS s H Pc As)
    (hg : g.method = m) (hn : As.length = n) (hsize : g.locals.size = nL) (hstack : g.stack = As.reverse ++ rest) (hW : 2 * g.monitorRoom + (rest.map fun v => v.category).sum ≤ 8) (hdg : decode cc g.pc = .ok (.invokestatic index, 3)) (hf : cells + mc ≤ R.cells ∧ slots + ms ≤ R.slots) :
    vx_Run p l e R s m args below meth c H locs cells slots mc ms g rest (Qc As.toArray) XC free := by
  have hK : vx_Back l R p e below s args y 3 8 (PreOf R mc ms Pc) (PostOf Qc mc ms free) (vx_Post XC mc ms free) := vx_callBack cw.1 hM hp.1
  obtain ⟨⟨-, -, -, -, -, -, hcode, hini, hy, hlen, hl⟩, hstt⟩ := cw
  obtain ⟨hx, hb, hml, ho, -⟩ := S
  intro T hT X
  rcases vx_callS X hx (bytes := bytes) (maxL := maxL) (ret := ret) ho hl hstt hini hcode hy hK hg (hsize.trans hml.symm) (argsL := As) (rest := rest) (fun sig h => hn.trans (hlen sig h)) hstack hW (by rw [hb]; exact hdg)
    (fun vm₁ hW₁ => ⟨hf.1, hf.2, hp.2 (T.setVm vm₁) hT hW₁⟩) with ⟨v, vm₁, ⟨U', l2, c2, s2⟩, hW₁, X', ⟨g', mk, t, L, e1, e2, hq, h1, hL, h2, h3⟩, st⟩ | ⟨q, vm₁, ⟨U', l2, c2, s2⟩, hW₁, X', ⟨g', mk, t, L, E, ce, e1, e2, hq, hce, hcv, hcl, h1, hL, h2, h3⟩, st⟩
  · dsimp only [Pt.U, Pt.locs, Pt.cells, Pt.slots] at X' e1 e2 h1 h2 h3 st
    subst h1; subst h2; subst h3
    exact Or.inl ⟨v, (T.setVm vm₁).calling g' mk As.toArray, t, U', L, hT, X', hL, e1, e2, hq, st⟩
  · dsimp only [Pt.U, Pt.locs, Pt.cells, Pt.slots] at X' e1 e2 h1 h2 h3 st hcl
    subst h1; subst h2; subst h3
    exact Or.inr ⟨q, (T.setVm vm₁).calling g' mk As.toArray, t, U', L, E, ce, hT, X', hL, e1, e2, hq, hce, hcv, vx_cls hW₁ hcl, st⟩
end Runs
section Rows
variable {p : Program} {l : Launch} {e : Env} {R : Room} {s : State} {m : MethodId} {args : Array Value} {below : List Frame} {meth : Method} {c : Code} {H : Heap} {locs : List Loc} {cells slots : Nat} {Q : State → Prop}
variable {mc ms : Nat} {free : Addr → Prop} {A0 A1 : Nat → Prop} {H0 : Heap} {a : Array Value} {pc : Nat} {ls : Array Slot} {st0 rest : List Value}
theorem vx_keep {st₀ t T' : State} {L : List Loc} (h0 : st₀.heap = H) (e1 : T'.heap = t.heap) (hS : va_S A0 H0 H locs) (hA : ∀ q, q < H.size → A1 q → A0 q) (hf : ∀ q, free q → A0 q) (hL : ∀ q ∈ L, free q.base) (hF : va_F A1 st₀ t) :
    H.size ≤ T'.heap.size ∧ (∀ q : Nat, q < H.size → ¬ A1 q → T'.heap[q]? = H[q]?) ∧ va_S A0 H0 T'.heap (locs ++ L) := by
  obtain ⟨hz, hk⟩ := hF
  rw [h0] at hz hk
  exact ⟨by rw [e1]; exact hz, fun q h1 h2 => by rw [e1]; exact hk q h1 h2,
    ⟨Nat.le_trans hS.1 (by rw [e1]; exact hz), fun q h1 h2 => by rw [e1, hk q (Nat.lt_of_lt_of_le h1 hS.1) (fun z => h2 (hA q (Nat.lt_of_lt_of_le h1 hS.1) z))]; exact hS.2.1 q h1 h2, fun q hq => by
      rcases List.mem_append.mp hq with h | h
      · exact hS.2.2 q h
      · exact hf _ (hL q h)⟩⟩
theorem vx_calli {S SX : Type} {post : Int32 → S → Prop} {px : SX → Prop} {B : S → State → Prop} {BX : String → SX → State → Prop} {AX : Nat → Prop} (hr : vx_Run p l e R s m args below meth c H locs cells slots mc ms (F0 m pc ls st0) rest (va_Qi post B A1 a) (vx_X px BX AX) free) (hS : va_S A0 H0 H locs) (hA : ∀ q, q < H.size → A1 q → A0 q) (hf : ∀ q, free q → A0 q) (hAX : ∀ q, q < H.size → AX q → A0 q)
    (kx : ∀ (E : String) (ce : Cell) (q9 : Addr) (u : SX) (t : State) (H1 : Heap) (locs1 : List Loc), t.heap = H1 → s.vm.Alike t.vm → px u → BX E u t → H.size ≤ H1.size → (∀ q : Nat, q < H.size → ¬ AX q → H1[q]? = H[q]?) → va_S A0 H0 H1 locs1 → H1[q9]? = some ce → ce.vm = .none → s.vm.findClass E = some ce.cls → vx_W p l e R s m args below meth c H1 locs1 (cells + mc) (slots + ms) Q (F0 m pc ls rest) q9)
    (kk : ∀ (r : Int32) (u : S) (t : State) (H1 : Heap) (locs1 : List Loc), t.heap = H1 → s.vm.Alike t.vm → post r u → B u t → H.size ≤ H1.size → (∀ q : Nat, q < H.size → ¬ A1 q → H1[q]? = H[q]?) → va_S A0 H0 H1 locs1 → W p l e R s m args below meth c H1 locs1 (cells + mc) (slots + ms) Q (F0 m (pc + 3) ls (.int r :: rest))) : W p l e R s m args below meth c H locs cells slots Q (F0 m pc ls st0) := by
  intro T hT X
  rcases hr T hT X with ⟨v, st₀, t, T', L, h0, X', hL, e1, e2, ⟨⟨r, u, hv, hp, hb⟩, hF⟩, st⟩ | ⟨q, st₀, t, T', L, E, ce, h0, X', hL, e1, e2, ⟨u, hp, hb, hF⟩, hce, hcv, hcl, st⟩
  · cases hv
    obtain ⟨k1, k2, k3⟩ := vx_keep h0 e1 hS hA hf hL hF
    obtain ⟨t2, a1, b1⟩ := kk r u t T'.heap (locs ++ L) e1.symm (by rw [← e2]; exact X'.warmed.alike) hp hb k1 k2 k3 T' rfl X'
    exact ⟨t2, st t2 a1, b1⟩
  · obtain ⟨k1, k2, k3⟩ := vx_keep h0 e1 hS hAX hf hL hF
    obtain ⟨t2, a1, b1⟩ := kx E ce q u t T'.heap (locs ++ L) e1.symm (by rw [← e2]; exact X'.warmed.alike) hp hb k1 k2 k3 (by rw [e1]; exact hce) hcv hcl T' rfl X'
    exact ⟨t2, st.trans a1, b1⟩
theorem vx_calll {S SX : Type} {post : Int64 → S → Prop} {px : SX → Prop} {B : S → State → Prop} {BX : String → SX → State → Prop} {AX : Nat → Prop} (hr : vx_Run p l e R s m args below meth c H locs cells slots mc ms (F0 m pc ls st0) rest (va_Ql post B A1 a) (vx_X px BX AX) free) (hS : va_S A0 H0 H locs) (hA : ∀ q, q < H.size → A1 q → A0 q) (hf : ∀ q, free q → A0 q) (hAX : ∀ q, q < H.size → AX q → A0 q)
    (kx : ∀ (E : String) (ce : Cell) (q9 : Addr) (u : SX) (t : State) (H1 : Heap) (locs1 : List Loc), t.heap = H1 → s.vm.Alike t.vm → px u → BX E u t → H.size ≤ H1.size → (∀ q : Nat, q < H.size → ¬ AX q → H1[q]? = H[q]?) → va_S A0 H0 H1 locs1 → H1[q9]? = some ce → ce.vm = .none → s.vm.findClass E = some ce.cls → vx_W p l e R s m args below meth c H1 locs1 (cells + mc) (slots + ms) Q (F0 m pc ls rest) q9)
    (kk : ∀ (r : Int64) (u : S) (t : State) (H1 : Heap) (locs1 : List Loc), t.heap = H1 → s.vm.Alike t.vm → post r u → B u t → H.size ≤ H1.size → (∀ q : Nat, q < H.size → ¬ A1 q → H1[q]? = H[q]?) → va_S A0 H0 H1 locs1 → W p l e R s m args below meth c H1 locs1 (cells + mc) (slots + ms) Q (F0 m (pc + 3) ls (.long r :: rest))) : W p l e R s m args below meth c H locs cells slots Q (F0 m pc ls st0) := by
  intro T hT X
  rcases hr T hT X with ⟨v, st₀, t, T', L, h0, X', hL, e1, e2, ⟨⟨r, u, hv, hp, hb⟩, hF⟩, st⟩ | ⟨q, st₀, t, T', L, E, ce, h0, X', hL, e1, e2, ⟨u, hp, hb, hF⟩, hce, hcv, hcl, st⟩
  · cases hv
    obtain ⟨k1, k2, k3⟩ := vx_keep h0 e1 hS hA hf hL hF
    obtain ⟨t2, a1, b1⟩ := kk r u t T'.heap (locs ++ L) e1.symm (by rw [← e2]; exact X'.warmed.alike) hp hb k1 k2 k3 T' rfl X'
    exact ⟨t2, st t2 a1, b1⟩
  · obtain ⟨k1, k2, k3⟩ := vx_keep h0 e1 hS hAX hf hL hF
    obtain ⟨t2, a1, b1⟩ := kx E ce q u t T'.heap (locs ++ L) e1.symm (by rw [← e2]; exact X'.warmed.alike) hp hb k1 k2 k3 (by rw [e1]; exact hce) hcv hcl T' rfl X'
    exact ⟨t2, st.trans a1, b1⟩
theorem vx_callf {S SX : Type} {post : UInt32 → S → Prop} {px : SX → Prop} {B : S → State → Prop} {BX : String → SX → State → Prop} {AX : Nat → Prop} (hr : vx_Run p l e R s m args below meth c H locs cells slots mc ms (F0 m pc ls st0) rest (va_Qf post B A1 a) (vx_X px BX AX) free) (hS : va_S A0 H0 H locs) (hA : ∀ q, q < H.size → A1 q → A0 q) (hf : ∀ q, free q → A0 q) (hAX : ∀ q, q < H.size → AX q → A0 q)
    (kx : ∀ (E : String) (ce : Cell) (q9 : Addr) (u : SX) (t : State) (H1 : Heap) (locs1 : List Loc), t.heap = H1 → s.vm.Alike t.vm → px u → BX E u t → H.size ≤ H1.size → (∀ q : Nat, q < H.size → ¬ AX q → H1[q]? = H[q]?) → va_S A0 H0 H1 locs1 → H1[q9]? = some ce → ce.vm = .none → s.vm.findClass E = some ce.cls → vx_W p l e R s m args below meth c H1 locs1 (cells + mc) (slots + ms) Q (F0 m pc ls rest) q9)
    (kk : ∀ (r : UInt32) (u : S) (t : State) (H1 : Heap) (locs1 : List Loc), t.heap = H1 → s.vm.Alike t.vm → post r u → B u t → H.size ≤ H1.size → (∀ q : Nat, q < H.size → ¬ A1 q → H1[q]? = H[q]?) → va_S A0 H0 H1 locs1 → W p l e R s m args below meth c H1 locs1 (cells + mc) (slots + ms) Q (F0 m (pc + 3) ls (.float r :: rest))) : W p l e R s m args below meth c H locs cells slots Q (F0 m pc ls st0) := by
  intro T hT X
  rcases hr T hT X with ⟨v, st₀, t, T', L, h0, X', hL, e1, e2, ⟨⟨r, u, hv, hp, hb⟩, hF⟩, st⟩ | ⟨q, st₀, t, T', L, E, ce, h0, X', hL, e1, e2, ⟨u, hp, hb, hF⟩, hce, hcv, hcl, st⟩
  · cases hv
    obtain ⟨k1, k2, k3⟩ := vx_keep h0 e1 hS hA hf hL hF
    obtain ⟨t2, a1, b1⟩ := kk r u t T'.heap (locs ++ L) e1.symm (by rw [← e2]; exact X'.warmed.alike) hp hb k1 k2 k3 T' rfl X'
    exact ⟨t2, st t2 a1, b1⟩
  · obtain ⟨k1, k2, k3⟩ := vx_keep h0 e1 hS hAX hf hL hF
    obtain ⟨t2, a1, b1⟩ := kx E ce q u t T'.heap (locs ++ L) e1.symm (by rw [← e2]; exact X'.warmed.alike) hp hb k1 k2 k3 (by rw [e1]; exact hce) hcv hcl T' rfl X'
    exact ⟨t2, st.trans a1, b1⟩
theorem vx_calld {S SX : Type} {post : UInt64 → S → Prop} {px : SX → Prop} {B : S → State → Prop} {BX : String → SX → State → Prop} {AX : Nat → Prop} (hr : vx_Run p l e R s m args below meth c H locs cells slots mc ms (F0 m pc ls st0) rest (va_Qd post B A1 a) (vx_X px BX AX) free) (hS : va_S A0 H0 H locs) (hA : ∀ q, q < H.size → A1 q → A0 q) (hf : ∀ q, free q → A0 q) (hAX : ∀ q, q < H.size → AX q → A0 q)
    (kx : ∀ (E : String) (ce : Cell) (q9 : Addr) (u : SX) (t : State) (H1 : Heap) (locs1 : List Loc), t.heap = H1 → s.vm.Alike t.vm → px u → BX E u t → H.size ≤ H1.size → (∀ q : Nat, q < H.size → ¬ AX q → H1[q]? = H[q]?) → va_S A0 H0 H1 locs1 → H1[q9]? = some ce → ce.vm = .none → s.vm.findClass E = some ce.cls → vx_W p l e R s m args below meth c H1 locs1 (cells + mc) (slots + ms) Q (F0 m pc ls rest) q9)
    (kk : ∀ (r : UInt64) (u : S) (t : State) (H1 : Heap) (locs1 : List Loc), t.heap = H1 → s.vm.Alike t.vm → post r u → B u t → H.size ≤ H1.size → (∀ q : Nat, q < H.size → ¬ A1 q → H1[q]? = H[q]?) → va_S A0 H0 H1 locs1 → W p l e R s m args below meth c H1 locs1 (cells + mc) (slots + ms) Q (F0 m (pc + 3) ls (.double r :: rest))) : W p l e R s m args below meth c H locs cells slots Q (F0 m pc ls st0) := by
  intro T hT X
  rcases hr T hT X with ⟨v, st₀, t, T', L, h0, X', hL, e1, e2, ⟨⟨r, u, hv, hp, hb⟩, hF⟩, st⟩ | ⟨q, st₀, t, T', L, E, ce, h0, X', hL, e1, e2, ⟨u, hp, hb, hF⟩, hce, hcv, hcl, st⟩
  · cases hv
    obtain ⟨k1, k2, k3⟩ := vx_keep h0 e1 hS hA hf hL hF
    obtain ⟨t2, a1, b1⟩ := kk r u t T'.heap (locs ++ L) e1.symm (by rw [← e2]; exact X'.warmed.alike) hp hb k1 k2 k3 T' rfl X'
    exact ⟨t2, st t2 a1, b1⟩
  · obtain ⟨k1, k2, k3⟩ := vx_keep h0 e1 hS hAX hf hL hF
    obtain ⟨t2, a1, b1⟩ := kx E ce q u t T'.heap (locs ++ L) e1.symm (by rw [← e2]; exact X'.warmed.alike) hp hb k1 k2 k3 (by rw [e1]; exact hce) hcv hcl T' rfl X'
    exact ⟨t2, st.trans a1, b1⟩
theorem vx_callv {S SX : Type} {post : S → Prop} {px : SX → Prop} {B : S → State → Prop} {BX : String → SX → State → Prop} {AX : Nat → Prop} (hr : vx_Run p l e R s m args below meth c H locs cells slots mc ms (F0 m pc ls st0) rest (va_Qv post B A1 a) (vx_X px BX AX) free) (hS : va_S A0 H0 H locs) (hA : ∀ q, q < H.size → A1 q → A0 q) (hf : ∀ q, free q → A0 q) (hAX : ∀ q, q < H.size → AX q → A0 q)
    (kx : ∀ (E : String) (ce : Cell) (q9 : Addr) (u : SX) (t : State) (H1 : Heap) (locs1 : List Loc), t.heap = H1 → s.vm.Alike t.vm → px u → BX E u t → H.size ≤ H1.size → (∀ q : Nat, q < H.size → ¬ AX q → H1[q]? = H[q]?) → va_S A0 H0 H1 locs1 → H1[q9]? = some ce → ce.vm = .none → s.vm.findClass E = some ce.cls → vx_W p l e R s m args below meth c H1 locs1 (cells + mc) (slots + ms) Q (F0 m pc ls rest) q9)
    (kk : ∀ (u : S) (t : State) (H1 : Heap) (locs1 : List Loc), t.heap = H1 → s.vm.Alike t.vm → post u → B u t → H.size ≤ H1.size → (∀ q : Nat, q < H.size → ¬ A1 q → H1[q]? = H[q]?) → va_S A0 H0 H1 locs1 → W p l e R s m args below meth c H1 locs1 (cells + mc) (slots + ms) Q (F0 m (pc + 3) ls (rest))) : W p l e R s m args below meth c H locs cells slots Q (F0 m pc ls st0) := by
  intro T hT X
  rcases hr T hT X with ⟨v, st₀, t, T', L, h0, X', hL, e1, e2, ⟨⟨u, hv, hp, hb⟩, hF⟩, st⟩ | ⟨q, st₀, t, T', L, E, ce, h0, X', hL, e1, e2, ⟨u, hp, hb, hF⟩, hce, hcv, hcl, st⟩
  · cases hv
    obtain ⟨k1, k2, k3⟩ := vx_keep h0 e1 hS hA hf hL hF
    obtain ⟨t2, a1, b1⟩ := kk u t T'.heap (locs ++ L) e1.symm (by rw [← e2]; exact X'.warmed.alike) hp hb k1 k2 k3 T' rfl X'
    exact ⟨t2, st t2 a1, b1⟩
  · obtain ⟨k1, k2, k3⟩ := vx_keep h0 e1 hS hAX hf hL hF
    obtain ⟨t2, a1, b1⟩ := kx E ce q u t T'.heap (locs ++ L) e1.symm (by rw [← e2]; exact X'.warmed.alike) hp hb k1 k2 k3 (by rw [e1]; exact hce) hcv hcl T' rfl X'
    exact ⟨t2, st.trans a1, b1⟩
/-- caught by the row x of this method's table; the rows ahead don't take it -/
theorem vx_catch {own name : String} {E : String} {ce : Cell} {q : Addr} (hown : s.vm.findClass own = some m.cls) (pre : List ExceptionTableEntry) (x : ExceptionTableEntry) (suf : List ExceptionTableEntry) (hsplit : c.exceptionTable.toList = pre ++ x :: suf)
    (hpass : ∀ z ∈ pre, covers z pc = false ∨ (z.catchType ≠ 0 ∧ ∃ nm : String, (Cond.classLink own z.catchType nm).before args s = true ∧ va_Nc E nm s)) (hx : covers x pc = true) (h0 : x.catchType ≠ 0)
    (hlink : (Cond.classLink own x.catchType name).before args s = true) (hcast : (Cond.castable E name).before args s = true) (hcell : H[q]? = some ce) (hv : ce.vm = .none) (hcl : s.vm.findClass E = some ce.cls)
    (kk : W p l e R s m args below meth c H locs cells slots Q (F0 m x.handlerPc ls [.ref q])) : vx_W p l e R s m args below meth c H locs cells slots Q (F0 m pc ls rest) q := by
  intro T hT X
  have hpl : e.platform.magicAccessors = ({} : Platform).magicAccessors := by rw [X.admits.platform]
  obtain ⟨c3, c4, hc3, hc4, hasg⟩ := Cond.castable_spec hcast
  cases Option.some.inj (hc3.symm.trans hcl)
  obtain ⟨c5, hc5, hcl5⟩ := Cond.classLink_spec hown hlink e.platform hpl
  cases Option.some.inj (hc4.symm.trans hc5)
  obtain ⟨vm', X', st⟩ := Jvm.Stand.thenCaughtThrough X q (g := F0 m pc ls rest) rfl (Steps.refl _) (by rw [hT]; exact hcell) (by rw [hv]; rfl) (by obtain ⟨k9, h9, -⟩ := Vm.findClass_spec hcl; exact ⟨k9, h9⟩) pre x suf hsplit
    (fun z hz => by
      rcases hpass z hz with h | ⟨hz0, nm, hl1, hn1⟩
      · exact Or.inl h
      · obtain ⟨c6, hc6, hcl6⟩ := Cond.classLink_spec hown hl1 e.platform hpl
        obtain ⟨a8, b8, h1, h2, h3⟩ := hn1
        cases Option.some.inj (h1.symm.trans hcl)
        cases Option.some.inj (h2.symm.trans hc6)
        exact Or.inr ⟨hz0, _, hcl6, h3⟩) hx (Or.inr ⟨h0, c4, hcl5, hasg⟩)
  obtain ⟨t, a1, b1⟩ := kk (T.setVm vm') hT X'
  exact ⟨t, st.trans a1, b1⟩
end Rows
section Ends
variable {p : Program} {l : Launch} {e : Env} {R : Room} {s : State} {m : MethodId} {args : Array Value} {below : List Frame} {meth : Method} {c : Code} {H : Heap} {locs : List Loc} {cells slots : Nat} {Q : State → Prop}
variable {mc ms : Nat} {free : Addr → Prop} {A0 A1 : Nat → Prop} {H0 : Heap} {a : Array Value} {ls : Array Slot} {st0 rest : List Value}
variable {Qc : Array Value → State → Outcome → State → Prop} {XC : String → State → State → Prop}
/-- what a body that may throw owes at its end -/
def vx_MQ (below : List Frame) (Qc : Array Value → State → Outcome → State → Prop) (XC : String → State → State → Prop) (a : Array Value) (s : State) (mc ms : Nat) (free : Addr → Prop) : State → Prop := fun t =>
  ∃ o, t.status = .running ∧ Ended t below o ∧ vx_Q Qc XC mc ms free a s o t
theorem vx_ret {g : JFrame} {mc ms : Nat} (k : W p l e R s m args below meth c H locs cells slots (MQ below Qc args s mc ms free) g) : W p l e R s m args below meth c H locs cells slots (vx_MQ below Qc XC args s mc ms free) g := by
  intro T hT X
  obtain ⟨t, a1, o, b1, b2, b3, b4⟩ := k T hT X
  exact ⟨t, a1, o, b1, b2, Or.inl ⟨b3, b4⟩⟩
/-- not caught here: it goes on to the caller -/
theorem vx_widen {g : JFrame} {q : Addr} {k n : Nat} (h1 : cells ≤ k) (h2 : slots ≤ n) (kk : vx_W p l e R s m args below meth c H locs k n Q g q) : vx_W p l e R s m args below meth c H locs cells slots Q g q := fun T hT X => kk T hT (stand_widen X h1 h2)
theorem vx_out {pc : Nat} {E : String} {ce : Cell} {q : Addr} {mc ms : Nat} (hout : ∀ x ∈ c.exceptionTable.toList, covers x pc = false) (hlocks : meth.locks = false) (hcell : H[q]? = some ce) (hv : ce.vm = .none) (hcl : s.vm.findClass E = some ce.cls)
    (hx : ∀ t : State, t.heap = H → s.vm.Alike t.vm → XC E s t) (hf : ∀ z ∈ locs, free z.base) (hc : cells ≤ mc) (hs : slots ≤ ms) :
    vx_W p l e R s m args below meth c H locs cells slots (vx_MQ below Qc XC args s mc ms free) (F0 m pc ls rest) q := by
  intro T hT X
  obtain ⟨st1, hrun, hend, hW, hsm⟩ := X.leaveThrown q (g := F0 m pc ls rest) rfl rfl rfl hout hlocks
  have hcell9 : (T.setFrames (.throwing q :: below)).heap[q]? = some ce := by
    show T.heap[q]? = some ce
    rw [hT]; exact hcell
  exact ⟨_, st1, .threw q, hrun, hend, Or.inr ⟨q, rfl, E, ce, locs, hx _ hT hW.alike, hcell9, hv, hcl, hW, hsm.mono hc hs, hf⟩⟩
theorem vx_frame {U : State} {k n : Nat} (h : s.sameButNew ({ U with vm := s.vm } : State) locs k n) : s.heap.size ≤ U.heap.size ∧ ∀ q : Nat, q < s.heap.size → (∀ z ∈ locs, z.base ≠ q) → U.heap[q]? = s.heap[q]? := by
  obtain ⟨-, h2, -, -, -, h6⟩ := h
  refine ⟨h2, fun q hq hz => ?_⟩
  obtain ⟨c9, e1, e2, e3, e4⟩ := h6 q _ (Array.getElem?_eq_getElem hq)
  have hs : c9.slots = (s.heap[q]).slots := Array.ext_getElem? fun i => e4 i fun hm => hz _ hm rfl
  have h9 : c9 = s.heap[q] := by
    rw [hs] at e2
    exact e2
  have e5 : U.heap[q]? = some c9 := e1
  rw [e5, h9, Array.getElem?_eq_getElem hq]
/-- the words of a throw but the four that speak of the heap -/
def vx_no (w : Cond) : Bool := decide (w ≠ .isRef (.static Bundle.tN "UNASSIGNED_STACK" Bundle.steD)) && decide (w ≠ .isRef (.static Bundle.tN "SUPPRESSED_SENTINEL" Bundle.listD)) && decide (w ≠ .laysStatic Bundle.tN "UNASSIGNED_STACK" Bundle.steD) && decide (w ≠ .laysStatic Bundle.tN "SUPPRESSED_SENTINEL" Bundle.listD)
def vx_at0 (own : String) (ic : Nat) (X : String) (names : List String) : List Cond := (Bundle.ownAtoms0 own ic X names).filter vx_no
def vx_atS (own : String) (ic : Nat) (X : String) (names : List String) : List Cond := (Bundle.ownAtoms own ic X names).filter vx_no
/-- a word that the tables alone decide, or a good one -/
def vx_ot (w : Cond) : Bool := w.onTables || goodWord w
theorem vx_ot_at {args a' : Array Value} {s U : State} {w : Cond} (hW : s.WarmedH U.vm) (hvm : s.vm = U.vm) (hg : vx_ot w = true) (h : w.before args s = true) : w.before a' U = true := by
  simp only [vx_ot, Bool.or_eq_true] at hg
  rcases hg with hg | hg
  · exact va_tabs hg hvm h
  · exact word_at hW (good_of_word hg) h
/-- a list's words: the good ones out of the method's own list, the others by premises of their own -/
theorem vx_hat {args : Array Value} {s : State} {L B : List Cond} (h1 : ∀ w ∈ L.filter goodWord, w.before args s = true) (h2 : ∀ w ∈ L.filter (fun w => !goodWord w), w ∈ B) (h3 : ∀ w ∈ B, w.before args s = true) : ∀ w ∈ L, w.before args s = true := by
  intro w hw
  by_cases g : goodWord w = true
  · exact h1 w (List.mem_filter.mpr ⟨hw, g⟩)
  · refine h3 w (h2 w (List.mem_filter.mpr ⟨hw, ?_⟩))
    show (!goodWord w) = true
    cases hgw : goodWord w
    · rfl
    · exact absurd hgw g
theorem vx_c {args : Array Value} {s : State} {w : Cond} {B : List Cond} (h : w.before args s = true) (t : ∀ w ∈ B, w.before args s = true) : ∀ w' ∈ w :: B, w'.before args s = true := fun w' h' => (List.mem_cons.mp h').elim (fun e => by rw [e]; exact h) (t w')
theorem vx_n {args : Array Value} {s : State} : ∀ w ∈ ([] : List Cond), w.before args s = true := fun _ h => nomatch h
theorem vx_own {args : Array Value} {s : State} {L : List Cond} (h1 : ∀ w ∈ L.filter vx_no, w.before args s = true)
    (hU : (Cond.isRef (.static Bundle.tN "UNASSIGNED_STACK" Bundle.steD)).before args s = true) (hN : (Cond.isRef (.static Bundle.tN "SUPPRESSED_SENTINEL" Bundle.listD)).before args s = true)
    (lU : (Cond.laysStatic Bundle.tN "UNASSIGNED_STACK" Bundle.steD).before args s = true) (lN : (Cond.laysStatic Bundle.tN "SUPPRESSED_SENTINEL" Bundle.listD).before args s = true) : ∀ w ∈ L, w.before args s = true := by
  intro w hw
  by_cases e1 : w = .isRef (.static Bundle.tN "UNASSIGNED_STACK" Bundle.steD)
  · rw [e1]; exact hU
  · by_cases e2 : w = .isRef (.static Bundle.tN "SUPPRESSED_SENTINEL" Bundle.listD)
    · rw [e2]; exact hN
    · by_cases e3 : w = .laysStatic Bundle.tN "UNASSIGNED_STACK" Bundle.steD
      · rw [e3]; exact lU
      · by_cases e4 : w = .laysStatic Bundle.tN "SUPPRESSED_SENTINEL" Bundle.listD
        · rw [e4]; exact lN
        · exact h1 w (List.mem_filter.mpr ⟨hw, by unfold vx_no; rw [decide_eq_true e1, decide_eq_true e2, decide_eq_true e3, decide_eq_true e4]; rfl⟩)
/-- where a static field lies, its class's statics cell in H -/
def vx_L (C n d : String) (A : Nat → Prop) (U : State) (H : Heap) : Prop := ∃ (c : ClassId) (k : Class) (i : Nat) (f : Field) (a : Nat) (cell : Cell), U.vm.findClass C = some c ∧ U.fieldFound? C n d = some (c, k, i, f) ∧ f.isStatic = true ∧ k.statics = some a ∧ H[a]? = some cell ∧ cell.vm.isStatics = true ∧ cell.cls = c ∧ f.slot < cell.slots.size ∧ k.staticTypes[f.slot]? = some f.type ∧ ¬ A a
theorem vx_L.moved {C n d : String} {A : Nat → Prop} {u U : State} {H : Heap} (hvm : u.vm.Alike U.vm) (h : vx_L C n d A u H) : vx_L C n d A U H := by
  obtain ⟨c, k, i, f, a, cell, h1, h2, h3, h4, h5, h6, h7, h8, h9, h10⟩ := h
  obtain ⟨k', hi', he⟩ := State.fieldFound?_setVm hvm h2
  exact ⟨c, k', i, f, a, cell, by rw [hvm.findClass]; exact h1, hi', h3, by rw [he]; exact h4, h5, h6, h7, h8, by rw [he]; exact h9, h10⟩
theorem vx_L.kept {C n d : String} {A : Nat → Prop} {U : State} {H H1 : Heap} (h : vx_L C n d A U H) (hq : ∀ a : Nat, a < H.size → ¬ A a → H1[a]? = H[a]?) : vx_L C n d A U H1 := by
  obtain ⟨c, k, i, f, a, cell, h1, h2, h3, h4, h5, h6, h7, h8, h9, h10⟩ := h
  exact ⟨c, k, i, f, a, cell, h1, h2, h3, h4, by rw [hq a (Array.getElem?_eq_some_iff.mp h5).1 h10]; exact h5, h6, h7, h8, h9, h10⟩
theorem vx_L.narrow {C n d : String} {A B : Nat → Prop} {U : State} {H : Heap} (h : vx_L C n d A U H) (hAB : ∀ q, B q → A q) : vx_L C n d B U H := by
  obtain ⟨c, k, i, f, a, cell, h1, h2, h3, h4, h5, h6, h7, h8, h9, h10⟩ := h
  exact ⟨c, k, i, f, a, cell, h1, h2, h3, h4, h5, h6, h7, h8, h9, fun z => h10 (hAB _ z)⟩
theorem vx_L.word {C n d : String} {A : Nat → Prop} {s : State} {args : Array Value} (h : vx_L C n d A s s.heap) : (Cond.laysStatic C n d).before args s = true := by
  obtain ⟨c, k, i, f, a, cell, h1, h2, h3, h4, h5, h6, h7, h8, h9, -⟩ := h
  show (Cond.laysStatic C n d).holds args s none s [] = true
  exact Cond.laysStatic_of h1 h2 h3 h4 h5 h6 h7 h8 h9
/-- .. and what it holds: null or some reference -/
def vx_Zq (C n d : String) (A : Nat → Prop) (U : State) (H : Heap) : Prop := va_Zq C n d A U H ∧ vx_L C n d A U H
theorem vx_Zq.moved {C n d : String} {A : Nat → Prop} {u U : State} {H : Heap} (hvm : u.vm.Alike U.vm) (h : vx_Zq C n d A u H) : vx_Zq C n d A U H := ⟨va_Zq.moved hvm h.1, vx_L.moved hvm h.2⟩
theorem vx_Zq.kept {C n d : String} {A : Nat → Prop} {U : State} {H H1 : Heap} (h : vx_Zq C n d A U H) (hq : ∀ a : Nat, a < H.size → ¬ A a → H1[a]? = H[a]?) : vx_Zq C n d A U H1 := ⟨va_Zq.kept h.1 hq, vx_L.kept h.2 hq⟩
theorem vx_Zq.narrow {C n d : String} {A B : Nat → Prop} {U : State} {H : Heap} (h : vx_Zq C n d A U H) (hAB : ∀ q, B q → A q) : vx_Zq C n d B U H := ⟨va_Zq.narrow h.1 hAB, vx_L.narrow h.2 hAB⟩
theorem vx_Zqof {args : Array Value} {s : State} {C n d : String} {A : Nat → Prop} (hl : (Cond.laysStatic C n d).before args s = true) (hini : (Cond.initialized C).before args s = true) (h : (Cond.isRef (.static C n d)).before args s = true) (hA : ∀ a : Nat, a < s.heap.size → ¬ A a) : vx_Zq C n d A s s.heap := by
  refine ⟨va_Zqof hl hini h hA, ?_⟩
  obtain ⟨c, k, i, f, a, cell, h1, h2, h3, h4, h5, h6, h7, h8, h9⟩ := Cond.laysStatic_spec hl
  exact ⟨c, k, i, f, a, cell, h1, h2, h3, h4, h5, h6, h7, h8, h9, hA a (Array.getElem?_eq_some_iff.mp h5).1⟩
theorem vx_isRef {C n d : String} {v : Value} {A : Nat → Prop} {s : State} {args : Array Value} (h : va_Z C n d v A s s.heap) (hv : v.isRef = true) : (Cond.isRef (.static C n d)).before args s = true := by
  obtain ⟨cf, kf, fi, f, a, cell, h1, h2, h3, h4, h5, h6, h7, -⟩ := h
  have he : (Term.static C n d).eval args s none [] s = some v := by
    simp [Term.eval, State.fieldNamed?, h1, h2, h4, h5, h6, h7]
  simp only [Cond.before, Cond.holds, Cond.value, he]
  cases v <;> simp_all [Value.isRef]
theorem vx_isRefq {C n d : String} {A : Nat → Prop} {s : State} {args : Array Value} (h : va_Zq C n d A s s.heap) : (Cond.isRef (.static C n d)).before args s = true := by
  rcases h with h | ⟨t, h⟩
  · exact vx_isRef h rfl
  · exact vx_isRef h rfl
/-- the same frame, seen from here: as if the method were called anew in this heap -/
theorem vx_rebase {T : State} (X : Stand p l e R s m args below meth c T locs cells slots) {R' : Room} (hf : R'.frames ≤ R.frames) (hl : R'.locals ≤ R.locals) (hc : cells + R'.cells ≤ R.cells) (hs : slots + R'.slots ≤ R.slots) :
    Stand p l e R' ((T.setVm s.vm).setFrames (.invoking m args :: below)) m args below meth c T [] 0 0 := by
  have htop : (T.setVm s.vm).topJava?.isSome := X.here.top
  have hF : ((T.setVm s.vm).setFrames (.invoking m args :: below)).frames = .invoking m args :: below := State.frames_setFrames _ (State.cur_lt_of_top htop)
  obtain ⟨g₀, hg0⟩ := Option.isSome_iff_exists.mp htop
  obtain ⟨r, hr⟩ := State.topJava?_eq_some.mp hg0
  have hl9 : e.platform.stackLimits (T.setVm s.vm).me = e.platform.stackLimits s.me := X.limits
  have hb9 : (T.setVm s.vm).me.stackBytes = s.me.stackBytes := X.bytes
  refine ⟨X.admits, X.cas, X.clock, hF, ?_, X.hears, X.method, X.code, X.here, X.tail, X.warmed, ?_, ?_, ?_⟩
  · have h := X.room
    have hU : ((T.setVm s.vm).setFrames (.invoking m args :: below)).localsInUse = s.localsInUse := by
      rw [State.localsInUse_invoking hF (meth := meth) (c := c) X.method X.code, State.localsInUse_invoking X.frames X.method X.code]
    simp only [State.hasRoom, Bool.and_eq_true, decide_eq_true_eq] at h ⊢
    obtain ⟨⟨⟨⟨h1, h2, h3, h4, h5, h6⟩, h7⟩, h8⟩, h9⟩ := h
    rw [X.frames, List.length_cons] at h2 h3
    have q1 := X.heapSize
    have q2 := X.used
    simp only [hF, hU, List.length_cons, State.stackLimits_setFrames, State.stackBytes_setFrames, hl9, hb9]
    refine ⟨⟨⟨⟨by omega, by omega, by omega, by omega, by omega, h6⟩, ?_⟩, ?_⟩, X.book⟩
    · show T.heap.size + R'.cells ≤ e.platform.maxCells
      omega
    · show T.slotsUsed + R'.slots ≤ e.platform.maxSlots
      omega
  · rw [State.stackLimits_setFrames]; rfl
  · rw [State.stackBytes_setFrames]; rfl
  · refine ⟨?_, Nat.le_refl _, Nat.le_refl _, ?_, ?_, fun a c9 h9 => ⟨c9, h9, rfl, rfl, fun _ _ => rfl⟩⟩
    · obtain ⟨t, ht, -⟩ := State.frames_cons hr
      show T.setVm s.vm = { ((T.setVm s.vm).setFrames (.invoking m args :: below)).setFrames (T.setVm s.vm).frames with heap := T.heap, slotsUsed := T.slotsUsed }
      rw [State.setFrames_setFrames, State.setFrames_self ht]
      rfl
    · show T.slotsUsed = T.slotsUsed + ((T.heap.toList.drop T.heap.size).map (·.slots.size)).sum
      rw [List.drop_eq_nil_of_le (Nat.le_of_eq Array.length_toList)]
      rfl
    · show ((T.heap.toList.drop T.heap.size).map (·.slots.size)).sum ≤ 0
      rw [List.drop_eq_nil_of_le (Nat.le_of_eq Array.length_toList)]
      exact Nat.le_refl _
/-- 'throw new E()': new; dup; invokespecial; athrow -/
theorem vx_throw0 {cc : ByteArray} {pc : Nat} (hexec : p.tables.exec = Jvm.exec) (hb : c.code = cc) (hl : l.stackTraces = false) {own cls : String} {names : List String} {ik ic mc ms : Nat} {A : Nat → Prop}
    (hown : s.vm.findClass own = some m.cls) (hcls : Bundle.fit cls = true) (hnames : ∀ n ∈ names, Bundle.fit n = true)
    (hk : (Cond.classLink own ik cls).before args s = true) (hini : (Cond.initialized cls).before args s = true) (hat : ∀ w ∈ vx_at0 own ic cls names, w.before args s = true)
    (hgood : ∀ w ∈ Cond.classLink own ik cls :: Cond.initialized cls :: vx_at0 own ic cls names, vx_ot w = true)
    (hU : vx_Zq Bundle.tN "UNASSIGNED_STACK" Bundle.steD A s s.heap) (hN : vx_Zq Bundle.tN "SUPPRESSED_SENTINEL" Bundle.listD A s s.heap) (hS : va_S A s.heap H locs) (hsize : ls.size = c.maxLocals)
    (d0 : decode cc pc = .ok (.new ik, 3)) (d3 : decode cc (pc + 3) = .ok (.dup, 1)) (d4 : decode cc (pc + 4) = .ok (.invokespecial ic, 3)) (d7 : decode cc (pc + 7) = .ok (.athrow, 1))
    (hout : ∀ x ∈ c.exceptionTable.toList, covers x (pc + 7) = false)
    (hRframes : names.length + 3 < R.frames) (hRlocals : (rest.map fun v => v.category).sum + (13 * (names.length + 1) + 42) ≤ R.locals) (hRcells : cells + 1 ≤ R.cells) (hRslots : slots + 6 ≤ R.slots) (hlocks : meth.locks = false)
    (hx : ∀ t : State, s.vm.Alike t.vm → H.size ≤ t.heap.size → (∀ q : Nat, q < H.size → t.heap[q]? = H[q]?) → XC cls s t)
    (hf : ∀ z ∈ locs, free z.base) (hc : cells + 1 ≤ mc) (hs : slots + 6 ≤ ms) :
    W p l e R s m args below meth c H locs cells slots (vx_MQ below Qc XC args s mc ms free) (F0 m pc ls rest) := by
  intro T hT X
  have htr : e.platform.stackTraces = false := (show e.platform.stackTraces = l.stackTraces by rw [X.admits.platform]).trans hl
  have Y := vx_rebase X (R' := { frames := R.frames, locals := R.locals, cells := 1, slots := 6 }) (Nat.le_refl _) (Nat.le_refl _) hRcells hRslots
  obtain ⟨s', hA⟩ : ∃ z, z = (T.setVm s.vm).setFrames (.invoking m args :: below) := ⟨_, rfl⟩
  rw [← hA] at Y
  have hvm : s'.vm = s.vm := by rw [hA]; rfl
  have hhp : s'.heap = H := by rw [hA]; exact hT
  have hW0 : s.WarmedH s'.vm := by rw [hvm]; exact State.WarmedH.refl s
  have hat' : ∀ w ∈ vx_at0 own ic cls names, w.before args s' = true := fun w hw => vx_ot_at hW0 hvm.symm (hgood w (List.mem_cons_of_mem _ (List.mem_cons_of_mem _ hw))) (hat w hw)
  have hk' : (Cond.classLink own ik cls).before args s' = true := vx_ot_at hW0 hvm.symm (hgood _ List.mem_cons_self) hk
  have hini' : (Cond.initialized cls).before args s' = true := vx_ot_at hW0 hvm.symm (hgood _ (List.mem_cons_of_mem _ List.mem_cons_self)) hini
  have hU' : vx_Zq Bundle.tN "UNASSIGNED_STACK" Bundle.steD A s' s'.heap := by rw [hhp]; exact vx_Zq.moved hW0.alike (hU.kept hS.2.1)
  have hN' : vx_Zq Bundle.tN "SUPPRESSED_SENTINEL" Bundle.listD A s' s'.heap := by rw [hhp]; exact vx_Zq.moved hW0.alike (hN.kept hS.2.1)
  have h : ∀ w ∈ Bundle.ownAtoms0 own ic cls names, w.before args s' = true := vx_own hat' (vx_isRefq hU'.1) (vx_isRefq hN'.1) hU'.2.word hN'.2.word
  have hown' : s'.vm.findClass own = some m.cls := by rw [hvm]; exact hown
  have hins : (Cond.instantiable cls 6).before args s' = true := h _ (by simp [Bundle.ownAtoms0])
  obtain ⟨vm₁, cX, kX, hfX, hkX, -, -, X₁, st1⟩ := Y.newCold hexec (own := own) (C := cls) (index := ik) (n := 6) hown' hk' hins hini'
    (g := F0 m pc ls rest) rfl (by rw [hb]; exact d0) (Nat.le_refl _) (Nat.le_refl _)
  generalize hT1 : (T.setVm vm₁).pushCell { cls := cX, slots := kX.instanceTypes.map defaultValue, vm := .none } = T1 at X₁ st1
  have hcat : (Value.ref T.heap.size).category = 1 := rfl
  have hcellA : T1.heap[T.heap.size]? = some (freshCell cX kX) := by rw [← hT1]; exact State.heap_pushCell_size _ _
  have d3' : decode c.code (pc + 3) = .ok (.dup, 1) := by rw [hb]; exact d3
  obtain ⟨U, hsteps, hrun, hend, hW, hsame, ce, hce, hO⟩ := X₁.ctorThrow0 hexec htr (own := own) (cls := cls) (names := names) (ic := ic) hown' hcls hnames h (fun x hx => nomatch hx) hfX hkX hcellA (by rw [hhp, hT]; exact Nat.le_refl _)
    (g := { method := m, pc := pc + 4, locals := ls, stack := .ref T.heap.size :: .ref T.heap.size :: rest, locked := none }) rfl hsize rfl rfl (rest := rest) rfl
    (by rw [hb]; exact d4) (by rw [hb]; exact d7) hout hRframes (by simp only [List.map_cons, List.sum_cons, hcat]; omega) hlocks
  obtain ⟨f1, f2⟩ := vx_frame hsame
  rw [hhp] at f1 f2
  have hWs : s.WarmedH U.vm := State.WarmedH.trans hW0 hW
  have hcl : s.vm.findClass cls = some ce.cls := by
    have h9 := hO.cls
    rw [hvm] at h9
    exact h9
  have hall : s.sameButNew ({ U with vm := s.vm } : State) locs mc ms := by
    subst hA
    obtain ⟨e1, e2⟩ := hsame
    rw [State.setFrames_setFrames] at e1
    have h2 : (T.setVm s.vm).sameButNew ({ U with vm := s.vm } : State) [] (0 + 1) (0 + 6) := ⟨e1, e2⟩
    have h3 := X.same.trans h2
    rw [List.append_nil] at h3
    exact h3.mono hc hs
  refine ⟨U, ?_, .threw T.heap.size, hrun, hend, Or.inr ⟨T.heap.size, rfl, cls, ce, locs, hx U hWs.alike f1 (fun q hq => f2 q hq (fun z hz => nomatch hz)), hce, hO.vm, hcl, hWs, hall, hf⟩⟩
  refine st1 _ ?_
  show Steps p.tables e below (T1.setTop { method := m, pc := pc + 3, locals := ls, stack := .ref T.heap.size :: rest, locked := none }) _
  jvm_step X₁.here [X₁.here.top, hexec, d3', Value.category]
  exact hsteps
/-- 'throw new E("text")': new; dup; ldc; invokespecial; athrow -/
theorem vx_throwS {cc : ByteArray} {pc : Nat} (hexec : p.tables.exec = Jvm.exec) (hb : c.code = cc) (hl : l.stackTraces = false) {own cls text : String} {names : List String} {ik is ic mc ms sa : Nat} {A : Nat → Prop}
    (hown : s.vm.findClass own = some m.cls) (hcls : Bundle.fit cls = true) (hnames : ∀ n ∈ names, Bundle.fit n = true)
    (hk : (Cond.classLink own ik cls).before args s = true) (hini : (Cond.initialized cls).before args s = true) (hstr : vk_R own is text sa s) (hat : ∀ w ∈ vx_atS own ic cls names, w.before args s = true)
    (hgood : ∀ w ∈ Cond.classLink own ik cls :: Cond.initialized cls :: vx_atS own ic cls names, vx_ot w = true)
    (hU : vx_Zq Bundle.tN "UNASSIGNED_STACK" Bundle.steD A s s.heap) (hN : vx_Zq Bundle.tN "SUPPRESSED_SENTINEL" Bundle.listD A s s.heap) (hS : va_S A s.heap H locs) (hsize : ls.size = c.maxLocals)
    (d0 : decode cc pc = .ok (.new ik, 3)) (d3 : decode cc (pc + 3) = .ok (.dup, 1)) (d4 : decode cc (pc + 4) = .ok (.ldc is, 2)) (d6 : decode cc (pc + 6) = .ok (.invokespecial ic, 3)) (d9 : decode cc (pc + 9) = .ok (.athrow, 1))
    (hout : ∀ x ∈ c.exceptionTable.toList, covers x (pc + 9) = false)
    (hRframes : names.length + 3 < R.frames) (hRlocals : (rest.map fun v => v.category).sum + (13 * (names.length + 1) + 43) ≤ R.locals) (hRcells : cells + 1 ≤ R.cells) (hRslots : slots + 6 ≤ R.slots) (hlocks : meth.locks = false)
    (hx : ∀ t : State, s.vm.Alike t.vm → H.size ≤ t.heap.size → (∀ q : Nat, q < H.size → t.heap[q]? = H[q]?) → XC cls s t)
    (hf : ∀ z ∈ locs, free z.base) (hc : cells + 1 ≤ mc) (hs : slots + 6 ≤ ms) :
    W p l e R s m args below meth c H locs cells slots (vx_MQ below Qc XC args s mc ms free) (F0 m pc ls rest) := by
  intro T hT X
  have htr : e.platform.stackTraces = false := (show e.platform.stackTraces = l.stackTraces by rw [X.admits.platform]).trans hl
  have Y := vx_rebase X (R' := { frames := R.frames, locals := R.locals, cells := 1, slots := 6 }) (Nat.le_refl _) (Nat.le_refl _) hRcells hRslots
  obtain ⟨s', hA⟩ : ∃ z, z = (T.setVm s.vm).setFrames (.invoking m args :: below) := ⟨_, rfl⟩
  rw [← hA] at Y
  have hvm : s'.vm = s.vm := by rw [hA]; rfl
  have hhp : s'.heap = H := by rw [hA]; exact hT
  have hW0 : s.WarmedH s'.vm := by rw [hvm]; exact State.WarmedH.refl s
  have hat' : ∀ w ∈ vx_atS own ic cls names, w.before args s' = true := fun w hw => vx_ot_at hW0 hvm.symm (hgood w (List.mem_cons_of_mem _ (List.mem_cons_of_mem _ hw))) (hat w hw)
  have hk' : (Cond.classLink own ik cls).before args s' = true := vx_ot_at hW0 hvm.symm (hgood _ List.mem_cons_self) hk
  have hini' : (Cond.initialized cls).before args s' = true := vx_ot_at hW0 hvm.symm (hgood _ (List.mem_cons_of_mem _ List.mem_cons_self)) hini
  have hU' : vx_Zq Bundle.tN "UNASSIGNED_STACK" Bundle.steD A s' s'.heap := by rw [hhp]; exact vx_Zq.moved hW0.alike (hU.kept hS.2.1)
  have hN' : vx_Zq Bundle.tN "SUPPRESSED_SENTINEL" Bundle.listD A s' s'.heap := by rw [hhp]; exact vx_Zq.moved hW0.alike (hN.kept hS.2.1)
  have h : ∀ w ∈ Bundle.ownAtoms own ic cls names, w.before args s' = true := vx_own hat' (vx_isRefq hU'.1) (vx_isRefq hN'.1) hU'.2.word hN'.2.word
  have hown' : s'.vm.findClass own = some m.cls := by rw [hvm]; exact hown
  have hins : (Cond.instantiable cls 6).before args s' = true := h _ (by simp [Bundle.ownAtoms])
  obtain ⟨vm₁, cX, kX, hfX, hkX, -, -, X₁, st1⟩ := Y.newCold hexec (own := own) (C := cls) (index := ik) (n := 6) hown' hk' hins hini'
    (g := F0 m pc ls rest) rfl (by rw [hb]; exact d0) (Nat.le_refl _) (Nat.le_refl _)
  generalize hT1 : (T.setVm vm₁).pushCell { cls := cX, slots := kX.instanceTypes.map defaultValue, vm := .none } = T1 at X₁ st1
  have hcat : (Value.ref T.heap.size).category = 1 := rfl
  have hcellA : T1.heap[T.heap.size]? = some (freshCell cX kX) := by rw [← hT1]; exact State.heap_pushCell_size _ _
  have d3' : decode c.code (pc + 3) = .ok (.dup, 1) := by rw [hb]; exact d3
  have d4' : decode c.code (pc + 4) = .ok (.ldc is, 2) := by rw [hb]; exact d4
  have hstr' : vk_R own is text sa s' := vk_R.warm hW0 hstr
  obtain ⟨U, hsteps, hrun, hend, hW, hsame, ce, hce, hO⟩ := X₁.ctorThrowS hexec htr (own := own) (cls := cls) (names := names) (ic := ic) hown' hcls hnames h (fun x hx => nomatch hx) hfX hkX hcellA (by rw [hhp, hT]; exact Nat.le_refl _) (msg := .ref sa) rfl
    (g := { method := m, pc := pc + 6, locals := ls, stack := .ref sa :: .ref T.heap.size :: .ref T.heap.size :: rest, locked := none }) rfl hsize rfl rfl (rest := rest) rfl
    (by rw [hb]; exact d6) (by rw [hb]; exact d9) hout hRframes (by simp only [List.map_cons, List.sum_cons, hcat]; omega) hlocks
  obtain ⟨f1, f2⟩ := vx_frame hsame
  rw [hhp] at f1 f2
  have hWs : s.WarmedH U.vm := State.WarmedH.trans hW0 hW
  have hcl : s.vm.findClass cls = some ce.cls := by
    have h9 := hO.cls
    rw [hvm] at h9
    exact h9
  have hall : s.sameButNew ({ U with vm := s.vm } : State) locs mc ms := by
    subst hA
    obtain ⟨e1, e2⟩ := hsame
    rw [State.setFrames_setFrames] at e1
    have h2 : (T.setVm s.vm).sameButNew ({ U with vm := s.vm } : State) [] (0 + 1) (0 + 6) := ⟨e1, e2⟩
    have h3 := X.same.trans h2
    rw [List.append_nil] at h3
    exact h3.mono hc hs
  refine ⟨U, ?_, .threw T.heap.size, hrun, hend, Or.inr ⟨T.heap.size, rfl, cls, ce, locs, hx U hWs.alike f1 (fun q hq => f2 q hq (fun z hz => nomatch hz)), hce, hO.vm, hcl, hWs, hall, hf⟩⟩
  refine st1 _ ?_
  show Steps p.tables e below (T1.setTop { method := m, pc := pc + 3, locals := ls, stack := .ref T.heap.size :: rest, locked := none }) _
  jvm_step X₁.here [X₁.here.top, hexec, d3', Value.category]
  exact X₁.ldcString hexec (own := own) (text := text) (index := is) (a := sa) hown' hstr'.1 hstr'.2
    (g := { method := m, pc := pc + 4, locals := ls, stack := .ref T.heap.size :: .ref T.heap.size :: rest, locked := none }) rfl d4' _ hsteps
/-- 'throw new E("text")', the text by a wide index -/
theorem vx_throwSW {cc : ByteArray} {pc : Nat} (hexec : p.tables.exec = Jvm.exec) (hb : c.code = cc) (hl : l.stackTraces = false) {own cls text : String} {names : List String} {ik is ic mc ms sa : Nat} {A : Nat → Prop}
    (hown : s.vm.findClass own = some m.cls) (hcls : Bundle.fit cls = true) (hnames : ∀ n ∈ names, Bundle.fit n = true)
    (hk : (Cond.classLink own ik cls).before args s = true) (hini : (Cond.initialized cls).before args s = true) (hstr : vk_R own is text sa s) (hat : ∀ w ∈ vx_atS own ic cls names, w.before args s = true)
    (hgood : ∀ w ∈ Cond.classLink own ik cls :: Cond.initialized cls :: vx_atS own ic cls names, vx_ot w = true)
    (hU : vx_Zq Bundle.tN "UNASSIGNED_STACK" Bundle.steD A s s.heap) (hN : vx_Zq Bundle.tN "SUPPRESSED_SENTINEL" Bundle.listD A s s.heap) (hS : va_S A s.heap H locs) (hsize : ls.size = c.maxLocals)
    (d0 : decode cc pc = .ok (.new ik, 3)) (d3 : decode cc (pc + 3) = .ok (.dup, 1)) (d4 : decode cc (pc + 4) = .ok (.ldc_w is, 3)) (d7 : decode cc (pc + 7) = .ok (.invokespecial ic, 3)) (d10 : decode cc (pc + 10) = .ok (.athrow, 1))
    (hout : ∀ x ∈ c.exceptionTable.toList, covers x (pc + 10) = false)
    (hRframes : names.length + 3 < R.frames) (hRlocals : (rest.map fun v => v.category).sum + (13 * (names.length + 1) + 43) ≤ R.locals) (hRcells : cells + 1 ≤ R.cells) (hRslots : slots + 6 ≤ R.slots) (hlocks : meth.locks = false)
    (hx : ∀ t : State, s.vm.Alike t.vm → H.size ≤ t.heap.size → (∀ q : Nat, q < H.size → t.heap[q]? = H[q]?) → XC cls s t)
    (hf : ∀ z ∈ locs, free z.base) (hc : cells + 1 ≤ mc) (hs : slots + 6 ≤ ms) :
    W p l e R s m args below meth c H locs cells slots (vx_MQ below Qc XC args s mc ms free) (F0 m pc ls rest) := by
  intro T hT X
  have htr : e.platform.stackTraces = false := (show e.platform.stackTraces = l.stackTraces by rw [X.admits.platform]).trans hl
  have Y := vx_rebase X (R' := { frames := R.frames, locals := R.locals, cells := 1, slots := 6 }) (Nat.le_refl _) (Nat.le_refl _) hRcells hRslots
  obtain ⟨s', hA⟩ : ∃ z, z = (T.setVm s.vm).setFrames (.invoking m args :: below) := ⟨_, rfl⟩
  rw [← hA] at Y
  have hvm : s'.vm = s.vm := by rw [hA]; rfl
  have hhp : s'.heap = H := by rw [hA]; exact hT
  have hW0 : s.WarmedH s'.vm := by rw [hvm]; exact State.WarmedH.refl s
  have hat' : ∀ w ∈ vx_atS own ic cls names, w.before args s' = true := fun w hw => vx_ot_at hW0 hvm.symm (hgood w (List.mem_cons_of_mem _ (List.mem_cons_of_mem _ hw))) (hat w hw)
  have hk' : (Cond.classLink own ik cls).before args s' = true := vx_ot_at hW0 hvm.symm (hgood _ List.mem_cons_self) hk
  have hini' : (Cond.initialized cls).before args s' = true := vx_ot_at hW0 hvm.symm (hgood _ (List.mem_cons_of_mem _ List.mem_cons_self)) hini
  have hU' : vx_Zq Bundle.tN "UNASSIGNED_STACK" Bundle.steD A s' s'.heap := by rw [hhp]; exact vx_Zq.moved hW0.alike (hU.kept hS.2.1)
  have hN' : vx_Zq Bundle.tN "SUPPRESSED_SENTINEL" Bundle.listD A s' s'.heap := by rw [hhp]; exact vx_Zq.moved hW0.alike (hN.kept hS.2.1)
  have h : ∀ w ∈ Bundle.ownAtoms own ic cls names, w.before args s' = true := vx_own hat' (vx_isRefq hU'.1) (vx_isRefq hN'.1) hU'.2.word hN'.2.word
  have hown' : s'.vm.findClass own = some m.cls := by rw [hvm]; exact hown
  have hins : (Cond.instantiable cls 6).before args s' = true := h _ (by simp [Bundle.ownAtoms])
  obtain ⟨vm₁, cX, kX, hfX, hkX, -, -, X₁, st1⟩ := Y.newCold hexec (own := own) (C := cls) (index := ik) (n := 6) hown' hk' hins hini'
    (g := F0 m pc ls rest) rfl (by rw [hb]; exact d0) (Nat.le_refl _) (Nat.le_refl _)
  generalize hT1 : (T.setVm vm₁).pushCell { cls := cX, slots := kX.instanceTypes.map defaultValue, vm := .none } = T1 at X₁ st1
  have hcat : (Value.ref T.heap.size).category = 1 := rfl
  have hcellA : T1.heap[T.heap.size]? = some (freshCell cX kX) := by rw [← hT1]; exact State.heap_pushCell_size _ _
  have d3' : decode c.code (pc + 3) = .ok (.dup, 1) := by rw [hb]; exact d3
  have d4' : decode c.code (pc + 4) = .ok (.ldc_w is, 3) := by rw [hb]; exact d4
  have hstr' : vk_R own is text sa s' := vk_R.warm hW0 hstr
  obtain ⟨U, hsteps, hrun, hend, hW, hsame, ce, hce, hO⟩ := X₁.ctorThrowS hexec htr (own := own) (cls := cls) (names := names) (ic := ic) hown' hcls hnames h (fun x hx => nomatch hx) hfX hkX hcellA (by rw [hhp, hT]; exact Nat.le_refl _) (msg := .ref sa) rfl
    (g := { method := m, pc := pc + 7, locals := ls, stack := .ref sa :: .ref T.heap.size :: .ref T.heap.size :: rest, locked := none }) rfl hsize rfl rfl (rest := rest) rfl
    (by rw [hb]; exact d7) (by rw [hb]; exact d10) hout hRframes (by simp only [List.map_cons, List.sum_cons, hcat]; omega) hlocks
  obtain ⟨f1, f2⟩ := vx_frame hsame
  rw [hhp] at f1 f2
  have hWs : s.WarmedH U.vm := State.WarmedH.trans hW0 hW
  have hcl : s.vm.findClass cls = some ce.cls := by
    have h9 := hO.cls
    rw [hvm] at h9
    exact h9
  have hall : s.sameButNew ({ U with vm := s.vm } : State) locs mc ms := by
    subst hA
    obtain ⟨e1, e2⟩ := hsame
    rw [State.setFrames_setFrames] at e1
    have h2 : (T.setVm s.vm).sameButNew ({ U with vm := s.vm } : State) [] (0 + 1) (0 + 6) := ⟨e1, e2⟩
    have h3 := X.same.trans h2
    rw [List.append_nil] at h3
    exact h3.mono hc hs
  refine ⟨U, ?_, .threw T.heap.size, hrun, hend, Or.inr ⟨T.heap.size, rfl, cls, ce, locs, hx U hWs.alike f1 (fun q hq => f2 q hq (fun z hz => nomatch hz)), hce, hO.vm, hcl, hWs, hall, hf⟩⟩
  refine st1 _ ?_
  show Steps p.tables e below (T1.setTop { method := m, pc := pc + 3, locals := ls, stack := .ref T.heap.size :: rest, locked := none }) _
  jvm_step X₁.here [X₁.here.top, hexec, d3', Value.category]
  exact X₁.ldcStringW hexec (own := own) (text := text) (index := is) (a := sa) hown' hstr'.1 hstr'.2
    (g := { method := m, pc := pc + 4, locals := ls, stack := .ref T.heap.size :: .ref T.heap.size :: rest, locked := none }) rfl d4' _ hsteps
end Ends
section Bodies
variable {l : Launch}
theorem vx_ofW {y : MethodName} {ws ws' : List Cond} {rm : Room} {Pc : Array Value → State → Prop} {Qc : Array Value → State → Outcome → State → Prop} {XC : String → State → State → Prop} {mc ms : Nat} {free : Addr → Prop} {cc : ByteArray} {maxL : Nat} {ret : Option FieldType}
    (hy : plainName y.cls = true) (hw : ws = Cond.code y cc maxL ret :: ws')
    (body : ∀ p e s m args below meth c s₁, BodyLoose p l y (headSpec ws rm) cc maxL ret e s m args below meth c s₁ → c.maxLocals = maxL → (∀ x ∈ c.exceptionTable.toList, False) → Pc args s →
      W p l e (headSpec ws rm).room s m args below meth c s.heap [] 0 0 (vx_MQ below Qc XC args s mc ms free) (entryFrame m args maxL)) : vx_Met l y ws rm Pc Qc XC mc ms free := by
  refine MetFree.of_bodyS (code := cc) (maxLocals := maxL) (ret := ret) hy ?_ ?_
  · intro args s m h hn
    obtain ⟨meth, c, h1, h2, h3, h4, h5, h6, -, -⟩ := Cond.code_spec hn (atoms_spec (ws := ws) h _ (by rw [hw]; exact List.mem_cons_self))
    exact ⟨meth, c, h1, h2, h3, h4, h5, h6⟩
  · intro p e s m args below meth c s₁ B hml hP _
    have hh0 : s₁.heap = s.heap := by rw [B.state]; rfl
    have ht : ∀ x ∈ c.exceptionTable.toList, False := by
      obtain ⟨meth9, c9, h1, h2, -, -, -, -, h7, -⟩ := Cond.code_spec B.named (atoms_spec (ws := ws) B.pre _ (by rw [hw]; exact List.mem_cons_self))
      cases Option.some.inj (h1.symm.trans B.method)
      cases Option.some.inj (h2.symm.trans (Stand.of_body B).code)
      intro x hx
      rw [Array.isEmpty_iff.mp h7] at hx
      cases hx
    obtain ⟨t, a1, o, b1, b2, b3⟩ := body p e s m args below meth c s₁ B hml ht hP s₁ hh0 (Stand.of_body B)
    exact ⟨t, o, a1, b1, b2, b3⟩
/-- the table of a body with handlers -/
theorem vx_table {p : Program} {x y : MethodName} {S : Spec} {cc bytes : ByteArray} {maxL maxL' : Nat} {ret ret' : Option FieldType} {e : Env} {s s₁ : State} {m : MethodId} {args : Array Value} {below : List Frame} {meth : Method} {c : Code} {hh : List (Nat × Nat × Nat × Nat)}
    (B : BodyLoose p l y S cc maxL ret e s m args below meth c s₁) (h : (Cond.codeWith y bytes maxL' ret' hh).before args s = true) : c.exceptionTable.toList = tableOf hh := by
  obtain ⟨m9, meth9, c9, hn9, h1, h2, -, -, h6, -⟩ := Cond.codeWith_spec h
  cases Option.some.inj (hn9.symm.trans B.named)
  cases Option.some.inj (h1.symm.trans B.method)
  cases Option.some.inj (h2.symm.trans (Stand.of_body B).code)
  rw [← h6, table_eq]
end Bodies
end VXA
/-! ===== END ===== -/
/-! ===== BEGIN a static call of a method with an exception table ===== -/
section VXS
variable {p : Program} {l : Launch} {e : Env} {R : Room} {s : State} {m : MethodId} {args : Array Value} {below : List Frame} {meth : Method} {c : Code} {T : State} {H : Heap} {locs : List Loc} {cells slots : Nat}
abbrev vx_CSW (R : Room) (s : State) (args : Array Value) (own : String) (index : Nat) (y : MethodName) (bytes : ByteArray) (maxL : Nat) (ret : Option FieldType) (hh : List (Nat × Nat × Nat × Nat)) (ws : List Cond) (rm : Room) (mc ms n : Nat) : Prop :=
  (rm.cells = mc ∧ rm.slots = ms ∧ rm.frames + 1 ≤ R.frames ∧ 8 + (maxL + 11) + rm.locals ≤ R.locals ∧ (∀ w ∈ ws, ∀ (a' : Array Value) (U : State), s.WarmedH U.vm → w.before a' U = true) ∧ Cond.codeWith y bytes maxL ret hh ∈ ws) ∧
  (Cond.codeWith y bytes maxL ret hh).before args s = true ∧ (Cond.initialized y.cls).before args s = true ∧ (y.cls ≠ "java/lang/invoke/MethodHandle" ∧ y.cls ≠ "java/lang/invoke/VarHandle") ∧
  (∀ sig, parseMethodDescriptor y.desc = some sig → n = sig.parameters.length) ∧ (Cond.methodLink own index y).before args s = true ∧ (Cond.static y).before args s = true
theorem vx_cwSW {own : String} {index maxL mc ms : Nat} {y : MethodName} {bytes : ByteArray} {ret : Option FieldType} {hh : List (Nat × Nat × Nat × Nat)} {Ts ws ws' : List Cond} {rm : Room} (n : Nat) (ht : ∀ w ∈ Ts, w.before args s = true) (hT : GoodIn Ts (va_wsS own index y ws)) (hw : ws = Cond.codeWith y bytes maxL ret hh :: ws') (hrc : rm.cells = mc) (hrs : rm.slots = ms)
    (hd : y.cls ≠ "java/lang/invoke/MethodHandle" ∧ y.cls ≠ "java/lang/invoke/VarHandle" ∧ (parseMethodDescriptor y.desc).map (fun d => d.parameters.length) = some n) (hR : rm.frames + 1 ≤ R.frames ∧ 8 + (maxL + 11) + rm.locals ≤ R.locals) :
    vx_CSW R s args own index y bytes maxL ret hh ws rm mc ms n := by
  have ok : ∀ w ∈ va_wsS own index y ws, w.before args s = true := fun w h => ht w (hT w h).1
  have hG : GoodIn Ts ws := fun w h => hT w (by unfold va_wsS; exact List.mem_append_right _ h)
  have hc : Cond.codeWith y bytes maxL ret hh ∈ ws := by rw [hw]; exact List.mem_cons_self
  refine ⟨⟨hrc, hrs, hR.1, hR.2, pay_in ht hG, hc⟩, ht _ (hG _ hc).1, ok _ (by simp [va_wsS]), ⟨hd.1, hd.2.1⟩, fun sig h => ?_, ok _ (by simp [va_wsS]), ok _ (by simp [va_wsS])⟩
  have h2 := hd.2.2
  rw [h] at h2
  exact (Option.some.inj h2).symm
theorem vx_callSW (X : Stand p l e R s m args below meth c T locs cells slots) (hexec : p.tables.exec = Jvm.exec) {own : String} {index : Nat} {y : MethodName} {bytes : ByteArray} {maxL : Nat} {ret : Option FieldType} {hh : List (Nat × Nat × Nat × Nat)}
    (hown : s.vm.findClass own = some m.cls) (hlink : (Cond.methodLink own index y).before args s = true) (hstat : (Cond.static y).before args s = true) (hinit : (Cond.initialized y.cls).before args s = true)
    (hcode : (Cond.codeWith y bytes maxL ret hh).before args s = true) (hy : y.cls ≠ "java/lang/invoke/MethodHandle" ∧ y.cls ≠ "java/lang/invoke/VarHandle")
    {W9 : Nat} {Pre : Pt → Array Value → Prop} {Post : Pt → Array Value → Option Value → Pt → Prop} (hK : Back l R p e below s args y 3 W9 Pre Post)
    {g : JFrame} (hg : g.method = m) (hsize : g.locals.size = c.maxLocals) {argsL rest : List Value} (hlen : ∀ sig, parseMethodDescriptor y.desc = some sig → argsL.length = sig.parameters.length)
    (hstack : g.stack = argsL.reverse ++ rest) (hW : 2 * g.monitorRoom + (rest.map fun v => v.category).sum ≤ W9) (hdg : decode c.code g.pc = .ok (.invokestatic index, 3))
    (hpre : ∀ vm₁, s.WarmedH vm₁ → Pre ⟨T.setVm vm₁, locs, cells, slots⟩ argsL.toArray) :
    ∃ (v : Option Value) (vm₁ : Vm) (B : Pt), s.WarmedH vm₁ ∧ Stand p l e R s m args below meth c B.U B.locs B.cells B.slots ∧ Post ⟨T.setVm vm₁, locs, cells, slots⟩ argsL.toArray v B ∧
      ∀ target, Steps p.tables e below (B.U.setTop { g with pc := g.pc + 3, stack := v.toList ++ rest }) target → Steps p.tables e below (T.setTop g) target := by
  obtain ⟨mk, methM, cM, hnamed, hmethM, -, -, -, -, -, -, hsigM⟩ := Cond.codeWith_spec hcode
  have hstatic : methM.isStatic = true := Cond.static_spec hnamed hmethM hstat
  obtain ⟨kP, hkP, -⟩ := className_of_methodNamed hnamed
  have hinitP : kP.init = .initialized := Cond.initialized_spec (findClass_of_methodNamed hnamed) hkP hinit
  obtain ⟨vm₁, X₁, hstep₁⟩ := X.invokestatic hexec hown hlink hnamed hmethM hstatic hkP hinitP hy (g := g) hg (argsL := argsL) (rest := rest) (hlen _ hsigM) hstack hdg
  obtain ⟨v, B, X', hpost, hsteps⟩ := hK m meth c ⟨T.setVm vm₁, locs, cells, slots⟩ { g with stack := rest } (.invokestatic index) mk argsL.toArray X₁ hg hsize hdg hW (X₁.named hnamed) (hpre vm₁ X₁.warmed)
  exact ⟨v, vm₁, B, X₁.warmed, X', hpost, fun target h => hstep₁ _ fun acts => by rw [doInvoke_state]; exact hsteps.trans h⟩
theorem vx_runSW {y : MethodName} {bytes cc : ByteArray} {maxL nL mc ms n index : Nat} {ret : Option FieldType} {hh : List (Nat × Nat × Nat × Nat)} {ws : List Cond} {rm : Room} {Pc : Array Value → State → Prop} {Qc : Array Value → State → Outcome → State → Prop} {free : Addr → Prop} {Ts : List Cond} {own : String} {As rest : List Value} {g : JFrame}
    (S : CallFix p m c cc nL s args Ts own) (hM : Met l y ws rm Pc Qc mc ms free) (cw : vx_CSW R s args own index y bytes maxL ret hh ws rm mc ms n) (hp : PreS s H Pc As)
    (hg : g.method = m) (hn : As.length = n) (hsize : g.locals.size = nL) (hstack : g.stack = As.reverse ++ rest) (hW : 2 * g.monitorRoom + (rest.map fun v => v.category).sum ≤ 8) (hdg : decode cc g.pc = .ok (.invokestatic index, 3)) (hf : cells + mc ≤ R.cells ∧ slots + ms ≤ R.slots) :
    va_Run p l e R s m args below meth c H locs cells slots mc ms g rest (Qc As.toArray) (free) := by
  obtain ⟨⟨hrc, hrs, hfr, hlo, hws, hcw⟩, hcode, hini, hy, hlen, hl, hstt⟩ := cw
  have hK : Back l R p e below s args y 3 8 (PreOf R mc ms Pc) (PostOf Qc mc ms free) := va_backW (hh := hh) (bytes := bytes) (maxL := maxL) (ret := ret) hM hp.1 hrc hrs hfr hlo hws hcw (fun a' U hW => word_at hW (Or.inl (by first | rfl | simp [Cond.onTables, Cond.keeps, Cond.steady])) hini)
  obtain ⟨hx, hb, hml, ho, -⟩ := S
  intro T hT X
  obtain ⟨v, vm₁, ⟨U', l2, c2, s2⟩, hW₁, X', ⟨g', mk, t, L, e1, e2, hq, h1, hL, h2, h3⟩, st⟩ := vx_callSW X hx (hh := hh) (bytes := bytes) (maxL := maxL) (ret := ret) ho hl hstt hini hcode hy hK hg (hsize.trans hml.symm) (argsL := As) (rest := rest) (fun sig h => hn.trans (hlen sig h)) hstack hW (by rw [hb]; exact hdg)
    (fun vm₁ hW₁ => ⟨hf.1, hf.2, hp.2 (T.setVm vm₁) hT hW₁⟩)
  dsimp only [Pt.U, Pt.locs, Pt.cells, Pt.slots] at X' e1 e2 h1 h2 h3 st
  subst h1; subst h2; subst h3
  exact ⟨v, (T.setVm vm₁).calling g' mk As.toArray, t, U', L, hT, X', hL, e1, e2, hq, st⟩
/-- not caught here, past rows that name other classes: it goes on to the caller -/
theorem vx_outP {p : Program} {l : Launch} {e : Env} {R : Room} {s : State} {m : MethodId} {args : Array Value} {below : List Frame} {meth : Method} {c : Code} {H : Heap} {locs : List Loc} {cells slots : Nat} {free : Addr → Prop} {ls : Array Slot} {rest : List Value} {Qc : Array Value → State → Outcome → State → Prop} {XC : String → State → State → Prop}
    {pc : Nat} {own E : String} {ce : Cell} {q : Addr} {mc ms : Nat} (hown : s.vm.findClass own = some m.cls) (hlocks : meth.locks = false)
    (hpass : ∀ z ∈ c.exceptionTable.toList, covers z pc = false ∨ (z.catchType ≠ 0 ∧ ∃ nm : String, (Cond.classLink own z.catchType nm).before args s = true ∧ va_Nc E nm s)) (hcell : H[q]? = some ce) (hv : ce.vm = .none) (hcl : s.vm.findClass E = some ce.cls)
    (hx : ∀ t : State, t.heap = H → s.vm.Alike t.vm → XC E s t) (hf : ∀ z ∈ locs, free z.base) (hc : cells ≤ mc) (hs : slots ≤ ms) :
    vx_W p l e R s m args below meth c H locs cells slots (vx_MQ below Qc XC args s mc ms free) (F0 m pc ls rest) q := by
  intro T hT X
  have hpl : e.platform.magicAccessors = ({} : Platform).magicAccessors := by rw [X.admits.platform]
  obtain ⟨vm', hW', X', st⟩ := Jvm.Stand.outThrough X hlocks q (g := F0 m pc ls rest) rfl rfl rfl (cell := ce) (by rw [hT]; exact hcell) (by rw [hv]; rfl)
    (by obtain ⟨k9, h9, -⟩ := Vm.findClass_spec hcl; exact ⟨k9, h9⟩) (fun z hz => by
      rcases hpass z hz with h | ⟨hz0, nm, hl1, hn1⟩
      · exact Or.inl h
      · obtain ⟨c6, hc6, hcl6⟩ := Cond.classLink_spec hown hl1 e.platform hpl
        obtain ⟨a8, b8, h1, h2, h3⟩ := hn1
        cases Option.some.inj (h1.symm.trans hcl)
        cases Option.some.inj (h2.symm.trans hc6)
        exact Or.inr ⟨hz0, _, hcl6, h3⟩)
  obtain ⟨g₀, hfr⟩ := X'.frames_eq
  have hcell9 : ((T.setVm vm').setFrames (.throwing q :: below)).heap[q]? = some ce := by
    show T.heap[q]? = some ce
    rw [hT]; exact hcell
  have hend : Ended ((T.setVm vm').setFrames (.throwing q :: below)) below (.threw q) := State.frames_setFrames _ (State.cur_lt_of_frames hfr)
  refine ⟨(T.setVm vm').setFrames (.throwing q :: below), ?_, .threw q, X'.here.running, hend, Or.inr ⟨q, rfl, E, ce, locs, hx _ hT (X'.ends _).1.alike, hcell9, hv, hcl, (X'.ends _).1, (X'.ends _).2.mono hc hs, hf⟩⟩
  rw [X.pushThrowing_eq]
  exact st
/-- a thing of a world lies in the heap -/
theorem vx_lt {D : va_G} {cl : List vw_C} {ws : va_W} {H1 : Heap} (h : va_P D cl ws H1) {k : Nat} {q : Nat × va_E} (hk : ws[k]? = some q) : q.1 < H1.size := (h k q hk).lt
end VXS
/-! ===== END ===== -/
/-! ===== BEGIN methods with a table of their own: called by a name, returning or throwing ===== -/
section VXH
/-! vx_backW, vx_callVX, vx_callSX, vx_callVW, vx_runVW, vx_runVX, vx_runSX, vx_ofWH follow the same proofs as their sisters above (Free/Laws.lean, Shelf42/LK1.lean); vx_outP calls Shelf42/NT130.lean (outThrough). -/
section
variable {l : Launch} {R : Room} {p : Program} {e : Env} {below : List Frame} {s : State} {sargs : Array Value} {y : MethodName} {len W9 : Nat}
theorem vx_backW {ws : List Cond} {rm : Room} {Pc : Array Value → State → Prop} {Qc : Array Value → State → Outcome → State → Prop} {XC : String → State → State → Prop} {mc ms : Nat} {free : Addr → Prop} {bytes : ByteArray} {maxL : Nat} {ret : Option FieldType} {hh : List (Nat × Nat × Nat × Nat)}
    (hM : vx_Met l y ws rm Pc Qc XC mc ms free) (hblind : FrameBlind Pc) (hrc : rm.cells = mc) (hrs : rm.slots = ms)
    (hframes : rm.frames + 1 ≤ R.frames) (hlocals : W9 + (maxL + 11) + rm.locals ≤ R.locals)
    (hws : ∀ w ∈ ws, ∀ a' U, s.WarmedH U.vm → w.before a' U = true) (hcode : Cond.codeWith y bytes maxL ret hh ∈ ws) (hinit : ∀ a' U, s.WarmedH U.vm → (Cond.initialized y.cls).before a' U = true) :
    vx_Back l R p e below s sargs y len W9 (PreOf R mc ms Pc) (PostOf Qc mc ms free) (vx_Post XC mc ms free) := by
  intro m meth c A g ig mk a X hg hsize hdg hW hn hp
  have h1 : (headSpec ws rm).pre.before a A.U = true := atoms_intro fun w hw => hws w hw _ _ X.warmed
  have h2 : (Cond.codeWith y bytes maxL ret hh).before a A.U = true := hws _ hcode _ _ X.warmed
  have h3 : (Cond.initialized y.cls).before a A.U = true := hinit _ _ X.warmed
  have h4 : A.cells + (headSpec ws rm).room.cells ≤ R.cells := by rw [show (headSpec ws rm).room.cells = mc from hrc]; exact hp.1
  have h5 : A.slots + (headSpec ws rm).room.slots ≤ R.slots := by rw [show (headSpec ws rm).room.slots = ms from hrs]; exact hp.2.1
  have hPc : Pc a (A.U.calling g mk a) := hblind _ _ _ _ hp.2.2
  obtain ⟨U, Ls, c0, s0⟩ := A
  dsimp only [Pt.U, Pt.locs, Pt.cells, Pt.slots] at h1 h2 h3 h4 h5 X hn hPc ⊢
  obtain ⟨m9, methY, cY, hn9, hmY, hcY, -, hlY, -⟩ := Cond.codeWith_spec h2
  cases Option.some.inj (hn9.symm.trans hn)
  obtain ⟨kY, hkY, -⟩ := className_of_methodNamed hn
  have hinitY : kY.init = .initialized := Cond.initialized_spec (findClass_of_methodNamed hn) hkY h3
  have h : At U g.method c below := by rw [hg]; exact X.here
  have hlocals9 : W9 + (maxL + 11) + (headSpec ws rm).room.locals ≤ R.locals := hlocals
  have happ : (headSpec ws rm).appliesLoose y e.platform (U.calling g mk a) = true :=
    Spec.appliesLoose_calling (g := g) h hdg hn hkY hinitY
      (X.room_calling (g := g) (R' := (headSpec ws rm).room) hsize hmY hcY hframes (by rw [hlY]; omega) h4 h5) h1
  obtain ⟨mid, hmid⟩ := h.above
  have hfr : (U.setTop g).frames = (.java g :: mid) ++ below := by rw [State.frames_setTop' g h.top, hmid]; rfl
  obtain ⟨o, s₂, hsteps, -, hend, hq⟩ := Steps.callFree hM p X.admits X.cas X.clock (acts := []) hfr happ hPc trivial
  have hq' : vx_Q Qc XC mc ms free a (U.calling g mk a) o s₂ := hq
  rw [State.frames_setTop' g h.top] at hend
  obtain ⟨g₀, hg0⟩ := Option.isSome_iff_exists.mp h.top
  obtain ⟨r, hr⟩ := State.topJava?_eq_some.mp hg0
  have hr' : (({ U with heap := s₂.heap, slotsUsed := s₂.slotsUsed } : State).setVm s₂.vm).frames = .java g₀ :: r := hr
  rcases hq' with ⟨hqc, L, hfe, hL⟩ | ⟨q, rfl, E, ce, L, hx, hce, hcv, hcl, hW₂, hsm, hL⟩
  · obtain ⟨⟨v, rfl⟩, hW₂, e2, q2, q3, q4, q5, q6⟩ := id hfe
    have e3 : s₂ = ({ (U.calling g mk a).setFrames s₂.frames with heap := s₂.heap, slotsUsed := s₂.slotsUsed } : State).setVm s₂.vm := by
      have : s₂ = ({ s₂ with vm := (U.calling g mk a).vm } : State).setVm s₂.vm := rfl
      rw [e2] at this
      exact this
    obtain ⟨c₂, i₂, len₂, hc₂, hd₂, hf₂⟩ := hend
    have hW' : U.WarmedH s₂.vm := hW₂
    have hcc : c₂ = c := by
      have h1 : s₂.code? g.method = U.code? g.method := by
        rw [State.code?_eq, State.code?_eq, hW'.alike.method?]
      exact Option.some.inj (hc₂.symm.trans (h1.trans h.code))
    subst hcc
    have hlen : len₂ = len := by rw [hdg] at hd₂; cases hd₂; rfl
    subst hlen
    have hs₂ : s₂ = (({ U with heap := s₂.heap, slotsUsed := s₂.slotsUsed } : State).setVm s₂.vm).setTop { g with pc := g.pc + len₂, stack := v.toList ++ g.stack } := by
      refine e3.trans ?_
      rw [hf₂, State.calling_eq h.top, State.setFrames_setFrames, State.setTop_of_frames _ hr', hr]
      rfl
    have hsame : U.sameButNew ({ U with heap := s₂.heap, slotsUsed := s₂.slotsUsed } : State) L mc ms := by
      refine ⟨?_, q2, q3, q4, q5, q6⟩
      obtain ⟨t, ht, -⟩ := State.frames_cons hr
      show ({ U with heap := s₂.heap, slotsUsed := s₂.slotsUsed } : State) = { U.setFrames U.frames with heap := s₂.heap, slotsUsed := s₂.slotsUsed }
      rw [State.setFrames_self ht]
    subst hg
    refine Or.inl ⟨v, ⟨(({ U with heap := s₂.heap, slotsUsed := s₂.slotsUsed } : State).setVm s₂.vm), Ls ++ L, c0 + mc, s0 + ms⟩,
      ⟨X.admits, X.cas, X.clock, X.frames, X.room, X.hears, X.method, X.code, (X.here.setHeapUsed s₂.heap s₂.slotsUsed).setVm hW'.alike, X.tail, State.WarmedH.trans X.warmed hW', X.limits, X.bytes, X.same.trans (hsame.setVm s.vm)⟩,
      ⟨g, mk, s₂, L, rfl, rfl, hqc, rfl, hL, rfl, rfl⟩, ?_⟩
    show Steps p.tables e below _ ((({ U with heap := s₂.heap, slotsUsed := s₂.slotsUsed } : State).setVm s₂.vm).setTop { g with pc := g.pc + len₂, stack := v.toList ++ g.stack })
    rw [← hs₂]
    exact hsteps
  · obtain ⟨e2, q2, q3, q4, q5, q6⟩ := id hsm
    have e3 : s₂ = ({ (U.calling g mk a).setFrames s₂.frames with heap := s₂.heap, slotsUsed := s₂.slotsUsed } : State).setVm s₂.vm := by
      have : s₂ = ({ s₂ with vm := (U.calling g mk a).vm } : State).setVm s₂.vm := rfl
      rw [e2] at this
      exact this
    have hf₂ : s₂.frames = .throwing q :: .java g :: U.frames.tail := hend
    have hW' : U.WarmedH s₂.vm := hW₂
    have hs₂ : s₂ = ((({ U with heap := s₂.heap, slotsUsed := s₂.slotsUsed } : State).setVm s₂.vm).setTop g).pushFrame (.throwing q) := by
      refine e3.trans ?_
      rw [hf₂, State.calling_eq h.top, State.setFrames_setFrames, State.pushFrame, State.frames_setTop _ hr', State.setTop_of_frames _ hr', State.setFrames_setFrames, hr]
      rfl
    have hsame : U.sameButNew ({ U with heap := s₂.heap, slotsUsed := s₂.slotsUsed } : State) L mc ms := by
      refine ⟨?_, q2, q3, q4, q5, q6⟩
      obtain ⟨t, ht, -⟩ := State.frames_cons hr
      show ({ U with heap := s₂.heap, slotsUsed := s₂.slotsUsed } : State) = { U.setFrames U.frames with heap := s₂.heap, slotsUsed := s₂.slotsUsed }
      rw [State.setFrames_self ht]
    subst hg
    refine Or.inr ⟨q, ⟨(({ U with heap := s₂.heap, slotsUsed := s₂.slotsUsed } : State).setVm s₂.vm), Ls ++ L, c0 + mc, s0 + ms⟩,
      ⟨X.admits, X.cas, X.clock, X.frames, X.room, X.hears, X.method, X.code, (X.here.setHeapUsed s₂.heap s₂.slotsUsed).setVm hW'.alike, X.tail, State.WarmedH.trans X.warmed hW', X.limits, X.bytes, X.same.trans (hsame.setVm s.vm)⟩,
      ⟨g, mk, s₂, L, E, ce, rfl, rfl, hx, hce, hcv, hcl, rfl, hL, rfl, rfl⟩, ?_⟩
    show Steps p.tables e below _ (((({ U with heap := s₂.heap, slotsUsed := s₂.slotsUsed } : State).setVm s₂.vm).setTop g).pushFrame (.throwing q))
    rw [← hs₂]
    exact hsteps
end
variable {p : Program} {l : Launch} {e : Env} {R : Room} {s : State} {m : MethodId} {args : Array Value} {below : List Frame} {meth : Method} {c : Code} {T : State} {H : Heap} {locs : List Loc} {cells slots : Nat}
theorem vx_callVX (X : Stand p l e R s m args below meth c T locs cells slots) (hexec : p.tables.exec = Jvm.exec) {own C : String} {index : Nat} {y : MethodName} {bytes : ByteArray} {maxL : Nat} {ret : Option FieldType} {hh : List (Nat × Nat × Nat × Nat)}
    (hown : s.vm.findClass own = some m.cls) (hlink : (Cond.methodLink own index y).before args s = true) (hinst : (Cond.instanceMethod y).before args s = true) (hsel : (Cond.selects C y y).before args s = true)
    (hcode : (Cond.codeWith y bytes maxL ret hh).before args s = true) (hy : y.cls ≠ "java/lang/invoke/MethodHandle" ∧ y.cls ≠ "java/lang/invoke/VarHandle")
    {W9 : Nat} {Pre : Pt → Array Value → Prop} {Post : Pt → Array Value → Option Value → Pt → Prop} {PostX : Pt → Array Value → Addr → Pt → Prop} (hK : vx_Back l R p e below s args y 3 W9 Pre Post PostX)
    {b : Addr} {cellB : Cell} (hcell : T.heap[b]? = some cellB) (hobj : cellB.vm.isStatics = false) (hcls : s.vm.findClass C = some cellB.cls)
    {g : JFrame} (hg : g.method = m) (hsize : g.locals.size = c.maxLocals) {argsL rest : List Value} (hlen : ∀ sig, parseMethodDescriptor y.desc = some sig → argsL.length = sig.parameters.length)
    (hstack : g.stack = argsL.reverse ++ .ref b :: rest) (hW : 2 * g.monitorRoom + (rest.map fun v => v.category).sum ≤ W9) (hdg : decode c.code g.pc = .ok (.invokevirtual index, 3))
    (hpre : ∀ vm₁, s.WarmedH vm₁ → Pre ⟨T.setVm vm₁, locs, cells, slots⟩ (Value.ref b :: argsL).toArray) :
    (∃ (v : Option Value) (vm₁ : Vm) (B : Pt), s.WarmedH vm₁ ∧ Stand p l e R s m args below meth c B.U B.locs B.cells B.slots ∧ Post ⟨T.setVm vm₁, locs, cells, slots⟩ (Value.ref b :: argsL).toArray v B ∧
      ∀ target, Steps p.tables e below (B.U.setTop { g with pc := g.pc + 3, stack := v.toList ++ rest }) target → Steps p.tables e below (T.setTop g) target) ∨
    (∃ (q : Addr) (vm₁ : Vm) (B : Pt), s.WarmedH vm₁ ∧ Stand p l e R s m args below meth c B.U B.locs B.cells B.slots ∧ PostX ⟨T.setVm vm₁, locs, cells, slots⟩ (Value.ref b :: argsL).toArray q B ∧
      Steps p.tables e below (T.setTop g) ((B.U.setTop { g with stack := rest }).pushFrame (.throwing q))) := by
  obtain ⟨mk, methM, hnamed, hmethM, hstM, habM⟩ := Cond.instanceMethod_spec hinst
  obtain ⟨m8, methM', cM, hn8, hmethM', -, -, -, -, -, -, hsigM⟩ := Cond.codeWith_spec hcode
  cases Option.some.inj (hn8.symm.trans hnamed)
  cases hmethM.symm.trans hmethM'
  obtain ⟨c2, r2, m2, q1, q2, q3, q4, kP, hkP, hkPi⟩ := Cond.selects_spec hsel
  cases hcls.symm.trans q1
  cases (State.methodFound?_of_named hnamed hy).symm.trans q2
  cases hnamed.symm.trans q3
  have hselP : selectMethod e.platform s.vm cellB.cls mk = .method mk := by rw [Launch.admits_selectMethod X.admits]; exact q4
  obtain ⟨vm₁, X₁, hstep₁⟩ := X.invokevirtual hexec hown hlink hnamed hmethM hstM hkP hkPi hy (a := b) (cell := cellB) hcell
    (fun z h => by rw [h] at hobj; cases hobj) hselP hmethM habM hkP hkPi (g := g) hg (argsL := argsL) (rest := rest) (hlen _ hsigM) hstack hdg
  rcases hK m meth c ⟨T.setVm vm₁, locs, cells, slots⟩ { g with stack := rest } (.invokevirtual index) mk (Value.ref b :: argsL).toArray X₁ hg hsize hdg hW (X₁.named hnamed) (hpre vm₁ X₁.warmed) with ⟨v, B, X', hpost, hsteps⟩ | ⟨q, B, X', hpost, hsteps⟩
  · exact Or.inl ⟨v, vm₁, B, X₁.warmed, X', hpost, fun target h => hstep₁ _ fun acts => by rw [doInvoke_state]; exact hsteps.trans h⟩
  · exact Or.inr ⟨q, vm₁, B, X₁.warmed, X', hpost, hstep₁ _ fun acts => by rw [doInvoke_state]; exact hsteps⟩
theorem vx_callSX (X : Stand p l e R s m args below meth c T locs cells slots) (hexec : p.tables.exec = Jvm.exec) {own : String} {index : Nat} {y : MethodName} {bytes : ByteArray} {maxL : Nat} {ret : Option FieldType} {hh : List (Nat × Nat × Nat × Nat)}
    (hown : s.vm.findClass own = some m.cls) (hlink : (Cond.methodLink own index y).before args s = true) (hstat : (Cond.static y).before args s = true) (hinit : (Cond.initialized y.cls).before args s = true)
    (hcode : (Cond.codeWith y bytes maxL ret hh).before args s = true) (hy : y.cls ≠ "java/lang/invoke/MethodHandle" ∧ y.cls ≠ "java/lang/invoke/VarHandle")
    {W9 : Nat} {Pre : Pt → Array Value → Prop} {Post : Pt → Array Value → Option Value → Pt → Prop} {PostX : Pt → Array Value → Addr → Pt → Prop} (hK : vx_Back l R p e below s args y 3 W9 Pre Post PostX)
    {g : JFrame} (hg : g.method = m) (hsize : g.locals.size = c.maxLocals) {argsL rest : List Value} (hlen : ∀ sig, parseMethodDescriptor y.desc = some sig → argsL.length = sig.parameters.length)
    (hstack : g.stack = argsL.reverse ++ rest) (hW : 2 * g.monitorRoom + (rest.map fun v => v.category).sum ≤ W9) (hdg : decode c.code g.pc = .ok (.invokestatic index, 3))
    (hpre : ∀ vm₁, s.WarmedH vm₁ → Pre ⟨T.setVm vm₁, locs, cells, slots⟩ argsL.toArray) :
    (∃ (v : Option Value) (vm₁ : Vm) (B : Pt), s.WarmedH vm₁ ∧ Stand p l e R s m args below meth c B.U B.locs B.cells B.slots ∧ Post ⟨T.setVm vm₁, locs, cells, slots⟩ argsL.toArray v B ∧
      ∀ target, Steps p.tables e below (B.U.setTop { g with pc := g.pc + 3, stack := v.toList ++ rest }) target → Steps p.tables e below (T.setTop g) target) ∨
    (∃ (q : Addr) (vm₁ : Vm) (B : Pt), s.WarmedH vm₁ ∧ Stand p l e R s m args below meth c B.U B.locs B.cells B.slots ∧ PostX ⟨T.setVm vm₁, locs, cells, slots⟩ argsL.toArray q B ∧
      Steps p.tables e below (T.setTop g) ((B.U.setTop { g with stack := rest }).pushFrame (.throwing q))) := by
  obtain ⟨mk, methM, cM, hnamed, hmethM, -, -, -, -, -, -, hsigM⟩ := Cond.codeWith_spec hcode
  have hstatic : methM.isStatic = true := Cond.static_spec hnamed hmethM hstat
  obtain ⟨kP, hkP, -⟩ := className_of_methodNamed hnamed
  have hinitP : kP.init = .initialized := Cond.initialized_spec (findClass_of_methodNamed hnamed) hkP hinit
  obtain ⟨vm₁, X₁, hstep₁⟩ := X.invokestatic hexec hown hlink hnamed hmethM hstatic hkP hinitP hy (g := g) hg (argsL := argsL) (rest := rest) (hlen _ hsigM) hstack hdg
  rcases hK m meth c ⟨T.setVm vm₁, locs, cells, slots⟩ { g with stack := rest } (.invokestatic index) mk argsL.toArray X₁ hg hsize hdg hW (X₁.named hnamed) (hpre vm₁ X₁.warmed) with ⟨v, B, X', hpost, hsteps⟩ | ⟨q, B, X', hpost, hsteps⟩
  · exact Or.inl ⟨v, vm₁, B, X₁.warmed, X', hpost, fun target h => hstep₁ _ fun acts => by rw [doInvoke_state]; exact hsteps.trans h⟩
  · exact Or.inr ⟨q, vm₁, B, X₁.warmed, X', hpost, hstep₁ _ fun acts => by rw [doInvoke_state]; exact hsteps⟩
theorem vx_callVW (X : Stand p l e R s m args below meth c T locs cells slots) (hexec : p.tables.exec = Jvm.exec) {own C : String} {index : Nat} {y : MethodName} {bytes : ByteArray} {maxL : Nat} {ret : Option FieldType} {hh : List (Nat × Nat × Nat × Nat)}
    (hown : s.vm.findClass own = some m.cls) (hlink : (Cond.methodLink own index y).before args s = true) (hinst : (Cond.instanceMethod y).before args s = true) (hsel : (Cond.selects C y y).before args s = true)
    (hcode : (Cond.codeWith y bytes maxL ret hh).before args s = true) (hy : y.cls ≠ "java/lang/invoke/MethodHandle" ∧ y.cls ≠ "java/lang/invoke/VarHandle")
    {W9 : Nat} {Pre : Pt → Array Value → Prop} {Post : Pt → Array Value → Option Value → Pt → Prop} (hK : Back l R p e below s args y 3 W9 Pre Post)
    {b : Addr} {cellB : Cell} (hcell : T.heap[b]? = some cellB) (hobj : cellB.vm.isStatics = false) (hcls : s.vm.findClass C = some cellB.cls)
    {g : JFrame} (hg : g.method = m) (hsize : g.locals.size = c.maxLocals) {argsL rest : List Value} (hlen : ∀ sig, parseMethodDescriptor y.desc = some sig → argsL.length = sig.parameters.length)
    (hstack : g.stack = argsL.reverse ++ .ref b :: rest) (hW : 2 * g.monitorRoom + (rest.map fun v => v.category).sum ≤ W9) (hdg : decode c.code g.pc = .ok (.invokevirtual index, 3))
    (hpre : ∀ vm₁, s.WarmedH vm₁ → Pre ⟨T.setVm vm₁, locs, cells, slots⟩ (Value.ref b :: argsL).toArray) :
    ∃ (v : Option Value) (vm₁ : Vm) (B : Pt), s.WarmedH vm₁ ∧ Stand p l e R s m args below meth c B.U B.locs B.cells B.slots ∧ Post ⟨T.setVm vm₁, locs, cells, slots⟩ (Value.ref b :: argsL).toArray v B ∧
      ∀ target, Steps p.tables e below (B.U.setTop { g with pc := g.pc + 3, stack := v.toList ++ rest }) target → Steps p.tables e below (T.setTop g) target := by
  obtain ⟨mk, methM, hnamed, hmethM, hstM, habM⟩ := Cond.instanceMethod_spec hinst
  obtain ⟨m8, methM', cM, hn8, hmethM', -, -, -, -, -, -, hsigM⟩ := Cond.codeWith_spec hcode
  cases Option.some.inj (hn8.symm.trans hnamed)
  cases hmethM.symm.trans hmethM'
  obtain ⟨c2, r2, m2, q1, q2, q3, q4, kP, hkP, hkPi⟩ := Cond.selects_spec hsel
  cases hcls.symm.trans q1
  cases (State.methodFound?_of_named hnamed hy).symm.trans q2
  cases hnamed.symm.trans q3
  have hselP : selectMethod e.platform s.vm cellB.cls mk = .method mk := by rw [Launch.admits_selectMethod X.admits]; exact q4
  obtain ⟨vm₁, X₁, hstep₁⟩ := X.invokevirtual hexec hown hlink hnamed hmethM hstM hkP hkPi hy (a := b) (cell := cellB) hcell
    (fun z h => by rw [h] at hobj; cases hobj) hselP hmethM habM hkP hkPi (g := g) hg (argsL := argsL) (rest := rest) (hlen _ hsigM) hstack hdg
  obtain ⟨v, B, X', hpost, hsteps⟩ := hK m meth c ⟨T.setVm vm₁, locs, cells, slots⟩ { g with stack := rest } (.invokevirtual index) mk (Value.ref b :: argsL).toArray X₁ hg hsize hdg hW (X₁.named hnamed) (hpre vm₁ X₁.warmed)
  exact ⟨v, vm₁, B, X₁.warmed, X', hpost, fun target h => hstep₁ _ fun acts => by rw [doInvoke_state]; exact hsteps.trans h⟩
abbrev vx_CVW (R : Room) (s : State) (args : Array Value) (own C : String) (index : Nat) (y : MethodName) (bytes : ByteArray) (maxL : Nat) (ret : Option FieldType) (hh : List (Nat × Nat × Nat × Nat)) (ws : List Cond) (rm : Room) (mc ms n : Nat) : Prop :=
  (rm.cells = mc ∧ rm.slots = ms ∧ rm.frames + 1 ≤ R.frames ∧ 8 + (maxL + 11) + rm.locals ≤ R.locals ∧ (∀ w ∈ ws, ∀ (a' : Array Value) (U : State), s.WarmedH U.vm → w.before a' U = true) ∧ Cond.codeWith y bytes maxL ret hh ∈ ws) ∧
  (Cond.codeWith y bytes maxL ret hh).before args s = true ∧ (Cond.initialized y.cls).before args s = true ∧ (y.cls ≠ "java/lang/invoke/MethodHandle" ∧ y.cls ≠ "java/lang/invoke/VarHandle") ∧
  (∀ sig, parseMethodDescriptor y.desc = some sig → n = sig.parameters.length) ∧ (Cond.methodLink own index y).before args s = true ∧ (Cond.instanceMethod y).before args s = true ∧ (Cond.selects C y y).before args s = true
theorem vx_cwVW {own C : String} {index maxL mc ms : Nat} {y : MethodName} {bytes : ByteArray} {ret : Option FieldType} {hh : List (Nat × Nat × Nat × Nat)} {Ts ws ws' : List Cond} {rm : Room} (n : Nat) (ht : ∀ w ∈ Ts, w.before args s = true) (hT : GoodIn Ts (wsV own index C y ws)) (hw : ws = Cond.codeWith y bytes maxL ret hh :: ws') (hrc : rm.cells = mc) (hrs : rm.slots = ms)
    (hd : y.cls = C ∧ y.cls ≠ "java/lang/invoke/MethodHandle" ∧ y.cls ≠ "java/lang/invoke/VarHandle" ∧ (parseMethodDescriptor y.desc).map (fun d => d.parameters.length) = some n) (hR : rm.frames + 1 ≤ R.frames ∧ 8 + (maxL + 11) + rm.locals ≤ R.locals) :
    vx_CVW R s args own C index y bytes maxL ret hh ws rm mc ms n := by
  obtain ⟨hC, hd⟩ := hd
  subst hC
  have ok : ∀ w ∈ wsV own index y.cls y ws, w.before args s = true := fun w h => ht w (hT w h).1
  have hG : GoodIn Ts ws := fun w h => hT w (by unfold wsV; exact List.mem_append_right _ h)
  have hc : Cond.codeWith y bytes maxL ret hh ∈ ws := by rw [hw]; exact List.mem_cons_self
  refine ⟨⟨hrc, hrs, hR.1, hR.2, pay_in ht hG, hc⟩, ht _ (hG _ hc).1, ok _ (by simp [wsV]), ⟨hd.1, hd.2.1⟩, fun sig h => ?_, ok _ (by simp [wsV]), ok _ (by simp [wsV]), ok _ (by simp [wsV])⟩
  have h2 := hd.2.2
  rw [h] at h2
  exact (Option.some.inj h2).symm
theorem vx_runVW {y : MethodName} {bytes cc : ByteArray} {maxL nL mc ms n index : Nat} {ret : Option FieldType} {hh : List (Nat × Nat × Nat × Nat)} {ws : List Cond} {rm : Room} {Pc : Array Value → State → Prop} {Qc : Array Value → State → Outcome → State → Prop} {free : Addr → Prop} {Ts : List Cond} {own C : String} {b : Addr} {As rest : List Value} {g : JFrame}
    (S : CallFix p m c cc nL s args Ts own) (hM : Met l y ws rm Pc Qc mc ms free) (cw : vx_CVW R s args own C index y bytes maxL ret hh ws rm mc ms n) (hp : PreV s H C b Pc As)
    (hg : g.method = m) (hn : As.length = n) (hsize : g.locals.size = nL) (hstack : g.stack = As.reverse ++ .ref b :: rest) (hW : 2 * g.monitorRoom + (rest.map fun v => v.category).sum ≤ 8) (hdg : decode cc g.pc = .ok (.invokevirtual index, 3)) (hf : cells + mc ≤ R.cells ∧ slots + ms ≤ R.slots) :
    va_Run p l e R s m args below meth c H locs cells slots mc ms g rest (Qc (Value.ref b :: As).toArray) free := by
  obtain ⟨⟨hrc, hrs, hfr, hlo, hws, hcw⟩, hcode, hini, hy, hlen, hl, hin, hse⟩ := cw
  have hK : Back l R p e below s args y 3 8 (PreOf R mc ms Pc) (PostOf Qc mc ms free) := va_backW (hh := hh) (bytes := bytes) (maxL := maxL) (ret := ret) hM hp.1 hrc hrs hfr hlo hws hcw (fun a' U hW => word_at hW (Or.inl (by first | rfl | simp [Cond.onTables, Cond.keeps, Cond.steady])) hini)
  obtain ⟨hx, hb, hml, ho, -⟩ := S
  obtain ⟨-, ⟨cellB, hcB, hoB, hclB⟩, hPc⟩ := hp
  intro T hT X
  obtain ⟨v, vm₁, ⟨U', l2, c2, s2⟩, hW₁, X', ⟨g', mk, t, L, e1, e2, hq, h1, hL, h2, h3⟩, st⟩ := vx_callVW X hx (C := C) (hh := hh) (bytes := bytes) (maxL := maxL) (ret := ret) ho hl hin hse hcode hy hK (by rw [hT]; exact hcB) hoB hclB hg (hsize.trans hml.symm) (argsL := As) (rest := rest) (fun sig h => hn.trans (hlen sig h)) hstack hW (by rw [hb]; exact hdg)
    (fun vm₁ hW₁ => ⟨hf.1, hf.2, hPc (T.setVm vm₁) hT hW₁⟩)
  dsimp only [Pt.U, Pt.locs, Pt.cells, Pt.slots] at X' e1 e2 h1 h2 h3 st
  subst h1; subst h2; subst h3
  exact ⟨v, (T.setVm vm₁).calling g' mk (Value.ref b :: As).toArray, t, U', L, hT, X', hL, e1, e2, hq, st⟩
section
variable {y : MethodName} {bytes cc : ByteArray} {maxL nL mc ms n index : Nat} {ret : Option FieldType} {ws : List Cond} {rm : Room} {Pc : Array Value → State → Prop} {Qc : Array Value → State → Outcome → State → Prop} {XC : String → State → State → Prop} {free : Addr → Prop} {Ts : List Cond} {own C : String} {b : Addr} {As rest : List Value} {g : JFrame}
theorem vx_runVX {hh : List (Nat × Nat × Nat × Nat)} (S : CallFix p m c cc nL s args Ts own) (hM : vx_Met l y ws rm Pc Qc XC mc ms free) (cw : vx_CVW R s args own C index y bytes maxL ret hh ws rm mc ms n) (hp : PreV s H C b Pc As)
    (hg : g.method = m) (hn : As.length = n) (hsize : g.locals.size = nL) (hstack : g.stack = As.reverse ++ .ref b :: rest) (hW : 2 * g.monitorRoom + (rest.map fun v => v.category).sum ≤ 8) (hdg : decode cc g.pc = .ok (.invokevirtual index, 3)) (hf : cells + mc ≤ R.cells ∧ slots + ms ≤ R.slots) :
    vx_Run p l e R s m args below meth c H locs cells slots mc ms g rest (Qc (Value.ref b :: As).toArray) XC free := by
  obtain ⟨⟨hrc, hrs, hfr, hlo, hws, hcw⟩, hcode, hini, hy, hlen, hl, hin, hse⟩ := cw
  have hK : vx_Back l R p e below s args y 3 8 (PreOf R mc ms Pc) (PostOf Qc mc ms free) (vx_Post XC mc ms free) := vx_backW (hh := hh) (bytes := bytes) (maxL := maxL) (ret := ret) hM hp.1 hrc hrs hfr hlo hws hcw (fun a' U hW => word_at hW (Or.inl (by first | rfl | simp [Cond.onTables, Cond.keeps, Cond.steady])) hini)
  obtain ⟨hx, hb, hml, ho, -⟩ := S
  obtain ⟨-, ⟨cellB, hcB, hoB, hclB⟩, hPc⟩ := hp
  intro T hT X
  rcases vx_callVX X hx (C := C) (hh := hh) (bytes := bytes) (maxL := maxL) (ret := ret) ho hl hin hse hcode hy hK (by rw [hT]; exact hcB) hoB hclB hg (hsize.trans hml.symm) (argsL := As) (rest := rest) (fun sig h => hn.trans (hlen sig h)) hstack hW (by rw [hb]; exact hdg)
    (fun vm₁ hW₁ => ⟨hf.1, hf.2, hPc (T.setVm vm₁) hT hW₁⟩) with ⟨v, vm₁, ⟨U', l2, c2, s2⟩, hW₁, X', ⟨g', mk, t, L, e1, e2, hq, h1, hL, h2, h3⟩, st⟩ | ⟨q, vm₁, ⟨U', l2, c2, s2⟩, hW₁, X', ⟨g', mk, t, L, E, ce, e1, e2, hq, hce, hcv, hcl, h1, hL, h2, h3⟩, st⟩
  · dsimp only [Pt.U, Pt.locs, Pt.cells, Pt.slots] at X' e1 e2 h1 h2 h3 st
    subst h1; subst h2; subst h3
    exact Or.inl ⟨v, (T.setVm vm₁).calling g' mk (Value.ref b :: As).toArray, t, U', L, hT, X', hL, e1, e2, hq, st⟩
  · dsimp only [Pt.U, Pt.locs, Pt.cells, Pt.slots] at X' e1 e2 h1 h2 h3 st hcl
    subst h1; subst h2; subst h3
    exact Or.inr ⟨q, (T.setVm vm₁).calling g' mk (Value.ref b :: As).toArray, t, U', L, E, ce, hT, X', hL, e1, e2, hq, hce, hcv, vx_cls hW₁ hcl, st⟩
theorem vx_runSX {hh : List (Nat × Nat × Nat × Nat)} (S : CallFix p m c cc nL s args Ts own) (hM : vx_Met l y ws rm Pc Qc XC mc ms free) (cw : vx_CSW R s args own index y bytes maxL ret hh ws rm mc ms n) (hp : PreS s H Pc As)
    (hg : g.method = m) (hn : As.length = n) (hsize : g.locals.size = nL) (hstack : g.stack = As.reverse ++ rest) (hW : 2 * g.monitorRoom + (rest.map fun v => v.category).sum ≤ 8) (hdg : decode cc g.pc = .ok (.invokestatic index, 3)) (hf : cells + mc ≤ R.cells ∧ slots + ms ≤ R.slots) :
    vx_Run p l e R s m args below meth c H locs cells slots mc ms g rest (Qc As.toArray) XC free := by
  obtain ⟨⟨hrc, hrs, hfr, hlo, hws, hcw⟩, hcode, hini, hy, hlen, hl, hstt⟩ := cw
  have hK : vx_Back l R p e below s args y 3 8 (PreOf R mc ms Pc) (PostOf Qc mc ms free) (vx_Post XC mc ms free) := vx_backW (hh := hh) (bytes := bytes) (maxL := maxL) (ret := ret) hM hp.1 hrc hrs hfr hlo hws hcw (fun a' U hW => word_at hW (Or.inl (by first | rfl | simp [Cond.onTables, Cond.keeps, Cond.steady])) hini)
  obtain ⟨hx, hb, hml, ho, -⟩ := S
  intro T hT X
  rcases vx_callSX X hx (hh := hh) (bytes := bytes) (maxL := maxL) (ret := ret) ho hl hstt hini hcode hy hK hg (hsize.trans hml.symm) (argsL := As) (rest := rest) (fun sig h => hn.trans (hlen sig h)) hstack hW (by rw [hb]; exact hdg)
    (fun vm₁ hW₁ => ⟨hf.1, hf.2, hp.2 (T.setVm vm₁) hT hW₁⟩) with ⟨v, vm₁, ⟨U', l2, c2, s2⟩, hW₁, X', ⟨g', mk, t, L, e1, e2, hq, h1, hL, h2, h3⟩, st⟩ | ⟨q, vm₁, ⟨U', l2, c2, s2⟩, hW₁, X', ⟨g', mk, t, L, E, ce, e1, e2, hq, hce, hcv, hcl, h1, hL, h2, h3⟩, st⟩
  · dsimp only [Pt.U, Pt.locs, Pt.cells, Pt.slots] at X' e1 e2 h1 h2 h3 st
    subst h1; subst h2; subst h3
    exact Or.inl ⟨v, (T.setVm vm₁).calling g' mk As.toArray, t, U', L, hT, X', hL, e1, e2, hq, st⟩
  · dsimp only [Pt.U, Pt.locs, Pt.cells, Pt.slots] at X' e1 e2 h1 h2 h3 st hcl
    subst h1; subst h2; subst h3
    exact Or.inr ⟨q, (T.setVm vm₁).calling g' mk As.toArray, t, U', L, E, ce, hT, X', hL, e1, e2, hq, hce, hcv, vx_cls hW₁ hcl, st⟩
end
end VXH
theorem vx_ofWH {l : Launch} {y : MethodName} {ws ws' : List Cond} {rm : Room} {Pc : Array Value → State → Prop} {Qc : Array Value → State → Outcome → State → Prop} {XC : String → State → State → Prop} {mc ms : Nat} {free : Addr → Prop} {cc : ByteArray} {maxL : Nat} {ret : Option FieldType} {hh : List (Nat × Nat × Nat × Nat)}
    (hy : plainName y.cls = true) (hw : ws = Cond.codeWith y cc maxL ret hh :: ws')
    (body : ∀ p e s m args below meth c s₁, BodyLoose p l y (headSpec ws rm) cc maxL ret e s m args below meth c s₁ → c.maxLocals = maxL → Pc args s →
      W p l e (headSpec ws rm).room s m args below meth c s.heap [] 0 0 (vx_MQ below Qc XC args s mc ms free) (entryFrame m args maxL)) : vx_Met l y ws rm Pc Qc XC mc ms free := by
  refine MetFree.of_bodyS (code := cc) (maxLocals := maxL) (ret := ret) hy ?_ ?_
  · intro args s m h hn
    obtain ⟨m9, meth, c, hn9, h1, h2, h3, h4, -, h5, h6, -⟩ := Cond.codeWith_spec (atoms_spec (ws := ws) h _ (by rw [hw]; exact List.mem_cons_self))
    cases hn.symm.trans hn9
    exact ⟨meth, c, h1, h2, h3, h4, h5, h6⟩
  · intro p e s m args below meth c s₁ B hml hP _
    have hh0 : s₁.heap = s.heap := by rw [B.state]; rfl
    obtain ⟨t, a1, o, b1, b2, b3⟩ := body p e s m args below meth c s₁ B hml hP s₁ hh0 (Stand.of_body B)
    exact ⟨t, o, a1, b1, b2, b3⟩
/-! ===== END ===== -/
end
section
/-! ===== BEGIN printed: names, fields, word lists, decode rows ===== -/
def RX0 : String := "NearTree$Joins"
def TX0 : u_T := fun k => match k with
  | 0 => ("NearTree$Joins", "points", "[LNearTree$Node;", true)
  | 1 => ("NearTree$Joins", "lengths", "[J", true)
  | 2 => ("NearTree$Joins", "size", "I", false)
  | 3 => ("NearTree$Joins", "lesserId", "I", false)
  | 4 => ("NearTree$Joins", "greaterId", "I", false)
  | _ => ("NearTree$Joins", "pairDistance", "J", false)
def tyX0 : Nat → FieldType := fun k => match k with
  | 0 => .array (.object "NearTree$Node")
  | 1 => .array .long
  | 2 => .int
  | 3 => .int
  | 4 => .int
  | _ => .long
abbrev wsX00 : List Cond := u_ws RX0 TX0 6
theorem nmX0 : ∀ a, a < 6 → ∀ b, b < 6 → a ≠ b → (TX0 a).2.1 ≠ (TX0 b).2.1 := by decide +kernel
theorem tyX0_ok : ∀ k, k < 6 → parseFieldDescriptor (TX0 k).2.2.1 = some (tyX0 k) := by decide +kernel
abbrev cX0_init : ByteArray := prog_2_method_1_code
def yX0_init : MethodName := ⟨RX0, "<init>", "()V"⟩
abbrev cX0_gather : ByteArray := prog_2_method_2_code
def yX0_gather : MethodName := ⟨RX0, "gather", "([LNearTree$Node;)V"⟩
abbrev cX0_findNearestPair : ByteArray := prog_2_method_3_code
def yX0_findNearestPair : MethodName := ⟨RX0, "findNearestPair", "([LNearTree$Node;)V"⟩
abbrev cX0_comparePair : ByteArray := prog_2_method_4_code
def yX0_comparePair : MethodName := ⟨RX0, "comparePair", "(LNearTree$Node;LNearTree$Node;)V"⟩
abbrev cX0_joinAll : ByteArray := prog_2_method_5_code
def yX0_joinAll : MethodName := ⟨RX0, "joinAll", "([LNearTree$Node;)V"⟩
abbrev cX0_reachFrom : ByteArray := prog_2_method_6_code
def yX0_reachFrom : MethodName := ⟨RX0, "reachFrom", "(LNearTree$Node;I)V"⟩
abbrev cX0_leastFrom : ByteArray := prog_2_method_7_code
def yX0_leastFrom : MethodName := ⟨RX0, "leastFrom", "(I)I"⟩
abbrev cX0_swap : ByteArray := prog_2_method_8_code
def yX0_swap : MethodName := ⟨RX0, "swap", "(II)V"⟩
abbrev cX0_partsWithin : ByteArray := prog_2_method_9_code
def yX0_partsWithin : MethodName := ⟨RX0, "partsWithin", "(J)I"⟩
abbrev cX0_sum : ByteArray := prog_2_method_10_code
def yX0_sum : MethodName := ⟨RX0, "sum", "()J"⟩
def RX1 : String := "NearTree$NearList"
def TX1 : u_T := fun k => match k with
  | 0 => ("NearTree$NearList", "ids", "[I", true)
  | 1 => ("NearTree$NearList", "distances", "[J", true)
  | 2 => ("NearTree$NearList", "size", "I", false)
  | _ => ("NearTree$NearList", "limit", "I", false)
def tyX1 : Nat → FieldType := fun k => match k with
  | 0 => .array .int
  | 1 => .array .long
  | 2 => .int
  | _ => .int
abbrev wsX10 : List Cond := u_ws RX1 TX1 4
theorem nmX1 : ∀ a, a < 4 → ∀ b, b < 4 → a ≠ b → (TX1 a).2.1 ≠ (TX1 b).2.1 := by decide +kernel
theorem tyX1_ok : ∀ k, k < 4 → parseFieldDescriptor (TX1 k).2.2.1 = some (tyX1 k) := by decide +kernel
abbrev cX1_init : ByteArray := prog_3_method_1_code
def yX1_init : MethodName := ⟨RX1, "<init>", "()V"⟩
abbrev cX1_empty : ByteArray := prog_3_method_2_code
def yX1_empty : MethodName := ⟨RX1, "empty", "(I)V"⟩
abbrev cX1_has : ByteArray := prog_3_method_3_code
def yX1_has : MethodName := ⟨RX1, "has", "(I)Z"⟩
abbrev cX1_isFull : ByteArray := prog_3_method_4_code
def yX1_isFull : MethodName := ⟨RX1, "isFull", "()Z"⟩
abbrev cX1_offer : ByteArray := prog_3_method_5_code
def yX1_offer : MethodName := ⟨RX1, "offer", "(IJ)V"⟩
abbrev cX1_shutsOut : ByteArray := prog_3_method_6_code
def yX1_shutsOut : MethodName := ⟨RX1, "shutsOut", "(J)Z"⟩
abbrev cX1_isAhead : ByteArray := prog_3_method_7_code
def yX1_isAhead : MethodName := ⟨RX1, "isAhead", "(IJI)Z"⟩
def RX2 : String := "NearTree$Node"
def TX2 : u_T := fun k => match k with
  | 0 => ("NearTree$Node", "id", "I", true)
  | 1 => ("NearTree$Node", "place", "LNearTree$Place;", true)
  | 2 => ("NearTree$Node", "dead", "Z", false)
  | 3 => ("NearTree$Node", "depth", "I", false)
  | 4 => ("NearTree$Node", "axis", "I", false)
  | 5 => ("NearTree$Node", "size", "I", false)
  | 6 => ("NearTree$Node", "above", "LNearTree$Node;", false)
  | 7 => ("NearTree$Node", "left", "LNearTree$Node;", false)
  | _ => ("NearTree$Node", "right", "LNearTree$Node;", false)
def tyX2 : Nat → FieldType := fun k => match k with
  | 0 => .int
  | 1 => .object "NearTree$Place"
  | 2 => .boolean
  | 3 => .int
  | 4 => .int
  | 5 => .int
  | 6 => .object "NearTree$Node"
  | 7 => .object "NearTree$Node"
  | _ => .object "NearTree$Node"
abbrev wsX20 : List Cond := u_ws RX2 TX2 9
theorem nmX2 : ∀ a, a < 9 → ∀ b, b < 9 → a ≠ b → (TX2 a).2.1 ≠ (TX2 b).2.1 := by decide +kernel
theorem tyX2_ok : ∀ k, k < 9 → parseFieldDescriptor (TX2 k).2.2.1 = some (tyX2 k) := by decide +kernel
abbrev cX2_init : ByteArray := prog_4_method_1_code
def yX2_init : MethodName := ⟨RX2, "<init>", "(ILNearTree$Place;)V"⟩
abbrev cX2_isLess : ByteArray := prog_4_method_2_code
def yX2_isLess : MethodName := ⟨RX2, "isLess", "(LNearTree$Node;I)Z"⟩
abbrev cX2_sideOf : ByteArray := prog_4_method_3_code
def yX2_sideOf : MethodName := ⟨RX2, "sideOf", "(LNearTree$Node;)LNearTree$Node;"⟩
abbrev cX2_leans : ByteArray := prog_4_method_4_code
def yX2_leans : MethodName := ⟨RX2, "leans", "()Z"⟩
abbrev cX2_sizeOf : ByteArray := prog_4_method_5_code
def yX2_sizeOf : MethodName := ⟨RX2, "sizeOf", "(LNearTree$Node;)I"⟩
def RX3 : String := "NearTree$Place"
def TX3 : u_T := fun k => match k with
  | 0 => ("NearTree$Place", "x", "I", true)
  | 1 => ("NearTree$Place", "y", "I", true)
  | 2 => ("NearTree$Place", "z", "I", true)
  | _ => ("NearTree$Place", "w", "I", true)
def tyX3 : Nat → FieldType := fun k => match k with
  | 0 => .int
  | 1 => .int
  | 2 => .int
  | _ => .int
abbrev wsX30 : List Cond := u_ws RX3 TX3 4
theorem nmX3 : ∀ a, a < 4 → ∀ b, b < 4 → a ≠ b → (TX3 a).2.1 ≠ (TX3 b).2.1 := by decide +kernel
theorem tyX3_ok : ∀ k, k < 4 → parseFieldDescriptor (TX3 k).2.2.1 = some (tyX3 k) := by decide +kernel
abbrev cX3_init : ByteArray := prog_5_method_1_code
def yX3_init : MethodName := ⟨RX3, "<init>", "(IIIII)V"⟩
abbrev cX3_number : ByteArray := prog_5_method_2_code
def yX3_number : MethodName := ⟨RX3, "number", "(I)I"⟩
abbrev cX3_distanceTo : ByteArray := prog_5_method_3_code
def yX3_distanceTo : MethodName := ⟨RX3, "distanceTo", "(LNearTree$Place;)J"⟩
abbrev cX3_isBetween : ByteArray := prog_5_method_4_code
def yX3_isBetween : MethodName := ⟨RX3, "isBetween", "(III)Z"⟩
abbrev cX3_square : ByteArray := prog_5_method_5_code
def yX3_square : MethodName := ⟨RX3, "square", "(J)J"⟩
def RX4 : String := "NearTree$Search"
def TX4 : u_T := fun k => match k with
  | 0 => ("NearTree$Search", "place", "LNearTree$Place;", true)
  | 1 => ("NearTree$Search", "list", "LNearTree$NearList;", true)
  | _ => ("NearTree$Search", "nodes", "I", false)
def tyX4 : Nat → FieldType := fun k => match k with
  | 0 => .object "NearTree$Place"
  | 1 => .object "NearTree$NearList"
  | _ => .int
abbrev wsX40 : List Cond := u_ws RX4 TX4 3
theorem nmX4 : ∀ a, a < 3 → ∀ b, b < 3 → a ≠ b → (TX4 a).2.1 ≠ (TX4 b).2.1 := by decide +kernel
theorem tyX4_ok : ∀ k, k < 3 → parseFieldDescriptor (TX4 k).2.2.1 = some (tyX4 k) := by decide +kernel
abbrev cX4_init : ByteArray := prog_6_method_1_code
def yX4_init : MethodName := ⟨RX4, "<init>", "(LNearTree$Place;LNearTree$NearList;)V"⟩
abbrev cX4_start : ByteArray := prog_6_method_2_code
def yX4_start : MethodName := ⟨RX4, "start", "(LNearTree$Node;)V"⟩
abbrev cX4_lookAt : ByteArray := prog_6_method_3_code
def yX4_lookAt : MethodName := ⟨RX4, "lookAt", "(LNearTree$Node;I)V"⟩
def RX5 : String := "NearTree$Tree"
def TX5 : u_T := fun k => match k with
  | 0 => ("NearTree$Tree", "axes", "I", true)
  | 1 => ("NearTree$Tree", "row", "[LNearTree$Node;", true)
  | 2 => ("NearTree$Tree", "root", "LNearTree$Node;", false)
  | _ => ("NearTree$Tree", "builtPoints", "I", false)
def tyX5 : Nat → FieldType := fun k => match k with
  | 0 => .int
  | 1 => .array (.object "NearTree$Node")
  | 2 => .object "NearTree$Node"
  | _ => .int
abbrev wsX50 : List Cond := u_ws RX5 TX5 4
theorem nmX5 : ∀ a, a < 4 → ∀ b, b < 4 → a ≠ b → (TX5 a).2.1 ≠ (TX5 b).2.1 := by decide +kernel
theorem tyX5_ok : ∀ k, k < 4 → parseFieldDescriptor (TX5 k).2.2.1 = some (tyX5 k) := by decide +kernel
abbrev cX5_init : ByteArray := prog_7_method_1_code
def yX5_init : MethodName := ⟨RX5, "<init>", "(I)V"⟩
abbrev cX5_nodeCount : ByteArray := prog_7_method_2_code
def yX5_nodeCount : MethodName := ⟨RX5, "nodeCount", "()I"⟩
abbrev cX5_hang : ByteArray := prog_7_method_3_code
def yX5_hang : MethodName := ⟨RX5, "hang", "(LNearTree$Node;)V"⟩
abbrev cX5_firstLeaningAbove : ByteArray := prog_7_method_4_code
def yX5_firstLeaningAbove : MethodName := ⟨RX5, "firstLeaningAbove", "(LNearTree$Node;)LNearTree$Node;"⟩
abbrev cX5_buildAnew : ByteArray := prog_7_method_5_code
def yX5_buildAnew : MethodName := ⟨RX5, "buildAnew", "(LNearTree$Node;)V"⟩
abbrev cX5_gatherLive : ByteArray := prog_7_method_6_code
def yX5_gatherLive : MethodName := ⟨RX5, "gatherLive", "(LNearTree$Node;)I"⟩
abbrev cX5_build : ByteArray := prog_7_method_7_code
def yX5_build : MethodName := ⟨RX5, "build", "(IIIILNearTree$Node;)LNearTree$Node;"⟩
abbrev cX5_order : ByteArray := prog_7_method_8_code
def yX5_order : MethodName := ⟨RX5, "order", "(III)V"⟩
abbrev cX5_isAhead : ByteArray := prog_7_method_9_code
def yX5_isAhead : MethodName := ⟨RX5, "isAhead", "(LNearTree$Node;LNearTree$Node;I)Z"⟩
abbrev cX5_axisBehind : ByteArray := prog_7_method_10_code
def yX5_axisBehind : MethodName := ⟨RX5, "axisBehind", "(I)I"⟩
abbrev cX5_nodeOnWalk : ByteArray := prog_7_method_11_code
def yX5_nodeOnWalk : MethodName := ⟨RX5, "nodeOnWalk", "(LNearTree$Node;I)LNearTree$Node;"⟩
abbrev cX5_levels : ByteArray := prog_7_method_12_code
def yX5_levels : MethodName := ⟨RX5, "levels", "()I"⟩
def RX6 : String := "NearTree"
def TX6 : u_T := fun k => match k with
  | 0 => ("NearTree", "axes", "I", true)
  | 1 => ("NearTree", "liveById", "[LNearTree$Node;", true)
  | 2 => ("NearTree", "tree", "LNearTree$Tree;", true)
  | 3 => ("NearTree", "list", "LNearTree$NearList;", true)
  | 4 => ("NearTree", "joins", "LNearTree$Joins;", true)
  | 5 => ("NearTree", "liveCount", "I", false)
  | 6 => ("NearTree", "lookedAt", "I", false)
  | 7 => ("NearTree", "builtByComing", "I", false)
  | _ => ("NearTree", "builtByGoing", "I", false)
def tyX6 : Nat → FieldType := fun k => match k with
  | 0 => .int
  | 1 => .array (.object "NearTree$Node")
  | 2 => .object "NearTree$Tree"
  | 3 => .object "NearTree$NearList"
  | 4 => .object "NearTree$Joins"
  | 5 => .int
  | 6 => .int
  | 7 => .int
  | _ => .int
abbrev wsX60 : List Cond := u_ws RX6 TX6 9
theorem nmX6 : ∀ a, a < 9 → ∀ b, b < 9 → a ≠ b → (TX6 a).2.1 ≠ (TX6 b).2.1 := by decide +kernel
theorem tyX6_ok : ∀ k, k < 9 → parseFieldDescriptor (TX6 k).2.2.1 = some (tyX6 k) := by decide +kernel
abbrev cX6_init : ByteArray := prog_1_method_1_code
def yX6_init : MethodName := ⟨RX6, "<init>", "(I)V"⟩
abbrev cX6_put : ByteArray := prog_1_method_2_code
def yX6_put : MethodName := ⟨RX6, "put", "(IIIII)I"⟩
abbrev cX6_drop : ByteArray := prog_1_method_3_code
def yX6_drop : MethodName := ⟨RX6, "drop", "(I)I"⟩
abbrev cX6_at : ByteArray := prog_1_method_4_code
def yX6_at : MethodName := ⟨RX6, "at", "(II)I"⟩
abbrev cX6_nearest : ByteArray := prog_1_method_5_code
def yX6_nearest : MethodName := ⟨RX6, "nearest", "(IIIII)I"⟩
abbrev cX6_within : ByteArray := prog_1_method_6_code
def yX6_within : MethodName := ⟨RX6, "within", "(JIIII)I"⟩
abbrev cX6_listed : ByteArray := prog_1_method_7_code
def yX6_listed : MethodName := ⟨RX6, "listed", "(I)I"⟩
abbrev cX6_distance : ByteArray := prog_1_method_8_code
def yX6_distance : MethodName := ⟨RX6, "distance", "(I)J"⟩
abbrev cX6_looked : ByteArray := prog_1_method_9_code
def yX6_looked : MethodName := ⟨RX6, "looked", "()I"⟩
abbrev cX6_inBox : ByteArray := prog_1_method_10_code
def yX6_inBox : MethodName := ⟨RX6, "inBox", "(IIIIII)I"⟩
abbrev cX6_pair : ByteArray := prog_1_method_11_code
def yX6_pair : MethodName := ⟨RX6, "pair", "(I)J"⟩
abbrev cX6_parts : ByteArray := prog_1_method_12_code
def yX6_parts : MethodName := ⟨RX6, "parts", "(J)I"⟩
abbrev cX6_span : ByteArray := prog_1_method_13_code
def yX6_span : MethodName := ⟨RX6, "span", "()J"⟩
abbrev cX6_node : ByteArray := prog_1_method_14_code
def yX6_node : MethodName := ⟨RX6, "node", "(II)I"⟩
abbrev cX6_walk : ByteArray := prog_1_method_15_code
def yX6_walk : MethodName := ⟨RX6, "walk", "(I)I"⟩
abbrev cX6_count : ByteArray := prog_1_method_16_code
def yX6_count : MethodName := ⟨RX6, "count", "(I)I"⟩
abbrev cX6_isId : ByteArray := prog_1_method_17_code
def yX6_isId : MethodName := ⟨RX6, "isId", "(I)Z"⟩
abbrev cX6_isCountingAxis : ByteArray := prog_1_method_18_code
def yX6_isCountingAxis : MethodName := ⟨RX6, "isCountingAxis", "(I)Z"⟩
abbrev cX6_isPlace : ByteArray := prog_1_method_19_code
def yX6_isPlace : MethodName := ⟨RX6, "isPlace", "(IIII)Z"⟩
abbrev cX6_isNumber : ByteArray := prog_1_method_20_code
def yX6_isNumber : MethodName := ⟨RX6, "isNumber", "(I)Z"⟩
abbrev cX6_deadCount : ByteArray := prog_1_method_21_code
def yX6_deadCount : MethodName := ⟨RX6, "deadCount", "()I"⟩
def RX7 : String := "NearTreeModel"
def TX7 : u_T := fun k => match k with
  | 0 => ("NearTreeModel", "thrown", "I", false)
  | 1 => ("NearTreeModel", "d", "I", true)
  | 2 => ("NearTreeModel", "isLive", "[Z", true)
  | 3 => ("NearTreeModel", "place", "[I", true)
  | 4 => ("NearTreeModel", "nodeOf", "[I", true)
  | 5 => ("NearTreeModel", "lives", "I", false)
  | 6 => ("NearTreeModel", "isUsed", "[Z", true)
  | 7 => ("NearTreeModel", "idOf", "[I", true)
  | 8 => ("NearTreeModel", "spot", "[I", true)
  | 9 => ("NearTreeModel", "isThere", "[Z", true)
  | 10 => ("NearTreeModel", "left", "[I", true)
  | 11 => ("NearTreeModel", "right", "[I", true)
  | 12 => ("NearTreeModel", "up", "[I", true)
  | 13 => ("NearTreeModel", "root", "I", false)
  | 14 => ("NearTreeModel", "builtByMore", "I", false)
  | 15 => ("NearTreeModel", "builtByLess", "I", false)
  | 16 => ("NearTreeModel", "builtPoints", "I", false)
  | 17 => ("NearTreeModel", "way", "[I", true)
  | 18 => ("NearTreeModel", "toDo", "[I", true)
  | 19 => ("NearTreeModel", "ids", "[I", true)
  | 20 => ("NearTreeModel", "from", "[I", true)
  | 21 => ("NearTreeModel", "end", "[I", true)
  | 22 => ("NearTreeModel", "above", "[I", true)
  | 23 => ("NearTreeModel", "onLeft", "[Z", true)
  | 24 => ("NearTreeModel", "aim", "[I", true)
  | 25 => ("NearTreeModel", "list", "[I", true)
  | 26 => ("NearTreeModel", "far", "[J", true)
  | 27 => ("NearTreeModel", "listed", "I", false)
  | 28 => ("NearTreeModel", "looked", "I", false)
  | 29 => ("NearTreeModel", "isLookedAt", "[Z", true)
  | _ => ("NearTreeModel", "isMet", "[Z", true)
def tyX7 : Nat → FieldType := fun k => match k with
  | 0 => .int
  | 1 => .int
  | 2 => .array .boolean
  | 3 => .array .int
  | 4 => .array .int
  | 5 => .int
  | 6 => .array .boolean
  | 7 => .array .int
  | 8 => .array .int
  | 9 => .array .boolean
  | 10 => .array .int
  | 11 => .array .int
  | 12 => .array .int
  | 13 => .int
  | 14 => .int
  | 15 => .int
  | 16 => .int
  | 17 => .array .int
  | 18 => .array .int
  | 19 => .array .int
  | 20 => .array .int
  | 21 => .array .int
  | 22 => .array .int
  | 23 => .array .boolean
  | 24 => .array .int
  | 25 => .array .int
  | 26 => .array .long
  | 27 => .int
  | 28 => .int
  | 29 => .array .boolean
  | _ => .array .boolean
abbrev wsX70 : List Cond := u_ws RX7 TX7 31
theorem nmX7 : ∀ a, a < 31 → ∀ b, b < 31 → a ≠ b → (TX7 a).2.1 ≠ (TX7 b).2.1 := by decide +kernel
theorem tyX7_ok : ∀ k, k < 31 → parseFieldDescriptor (TX7 k).2.2.1 = some (tyX7 k) := by decide +kernel
abbrev cX7_thrown : ByteArray := prog_9_method_1_code
def yX7_thrown : MethodName := ⟨RX7, "thrown", "()I"⟩
abbrev cX7_in : ByteArray := prog_9_method_2_code
def yX7_in : MethodName := ⟨RX7, "in", "(JJJ)Z"⟩
abbrev cX7_init : ByteArray := prog_9_method_3_code
def yX7_init : MethodName := ⟨RX7, "<init>", "(I)V"⟩
abbrev cX7_isId : ByteArray := prog_9_method_4_code
def yX7_isId : MethodName := ⟨RX7, "isId", "(I)Z"⟩
abbrev cX7_areNumbers : ByteArray := prog_9_method_5_code
def yX7_areNumbers : MethodName := ⟨RX7, "areNumbers", "(IIII)Z"⟩
abbrev cX7_depth : ByteArray := prog_9_method_6_code
def yX7_depth : MethodName := ⟨RX7, "depth", "(I)I"⟩
abbrev cX7_walkFrom : ByteArray := prog_9_method_7_code
def yX7_walkFrom : MethodName := ⟨RX7, "walkFrom", "(I)I"⟩
abbrev cX7_newNode : ByteArray := prog_9_method_8_code
def yX7_newNode : MethodName := ⟨RX7, "newNode", "(II)I"⟩
abbrev cX7_hang : ByteArray := prog_9_method_9_code
def yX7_hang : MethodName := ⟨RX7, "hang", "(IIZ)V"⟩
abbrev cX7_isLess : ByteArray := prog_9_method_10_code
def yX7_isLess : MethodName := ⟨RX7, "isLess", "(III)Z"⟩
abbrev cX7_sortBy : ByteArray := prog_9_method_11_code
def yX7_sortBy : MethodName := ⟨RX7, "sortBy", "(III)V"⟩
abbrev cX7_build : ByteArray := prog_9_method_12_code
def yX7_build : MethodName := ⟨RX7, "build", "(I)I"⟩
abbrev cX7_put : ByteArray := prog_9_method_13_code
def yX7_put : MethodName := ⟨RX7, "put", "(IIIII)I"⟩
abbrev cX7_drop : ByteArray := prog_9_method_14_code
def yX7_drop : MethodName := ⟨RX7, "drop", "(I)I"⟩
abbrev cX7_at : ByteArray := prog_9_method_15_code
def yX7_at : MethodName := ⟨RX7, "at", "(II)I"⟩
abbrev cX7_aimAt : ByteArray := prog_9_method_16_code
def yX7_aimAt : MethodName := ⟨RX7, "aimAt", "(IIII)V"⟩
abbrev cX7_away : ByteArray := prog_9_method_17_code
def yX7_away : MethodName := ⟨RX7, "away", "(I)J"⟩
abbrev cX7_come : ByteArray := prog_9_method_18_code
def yX7_come : MethodName := ⟨RX7, "come", "(II)V"⟩
abbrev cX7_nearest : ByteArray := prog_9_method_19_code
def yX7_nearest : MethodName := ⟨RX7, "nearest", "(IIIII)I"⟩
abbrev cX7_within : ByteArray := prog_9_method_20_code
def yX7_within : MethodName := ⟨RX7, "within", "(JIIII)I"⟩
abbrev cX7_listed : ByteArray := prog_9_method_21_code
def yX7_listed : MethodName := ⟨RX7, "listed", "(I)I"⟩
abbrev cX7_distance : ByteArray := prog_9_method_22_code
def yX7_distance : MethodName := ⟨RX7, "distance", "(I)J"⟩
abbrev cX7_looked : ByteArray := prog_9_method_23_code
def yX7_looked : MethodName := ⟨RX7, "looked", "()I"⟩
abbrev cX7_inBox : ByteArray := prog_9_method_24_code
def yX7_inBox : MethodName := ⟨RX7, "inBox", "(IIIIII)I"⟩
abbrev cX7_between : ByteArray := prog_9_method_25_code
def yX7_between : MethodName := ⟨RX7, "between", "(II)J"⟩
abbrev cX7_pair : ByteArray := prog_9_method_26_code
def yX7_pair : MethodName := ⟨RX7, "pair", "(I)J"⟩
abbrev cX7_parts : ByteArray := prog_9_method_27_code
def yX7_parts : MethodName := ⟨RX7, "parts", "(J)I"⟩
abbrev cX7_span : ByteArray := prog_9_method_28_code
def yX7_span : MethodName := ⟨RX7, "span", "()J"⟩
abbrev cX7_node : ByteArray := prog_9_method_29_code
def yX7_node : MethodName := ⟨RX7, "node", "(II)I"⟩
abbrev cX7_walk : ByteArray := prog_9_method_30_code
def yX7_walk : MethodName := ⟨RX7, "walk", "(I)I"⟩
abbrev cX7_count : ByteArray := prog_9_method_31_code
def yX7_count : MethodName := ⟨RX7, "count", "(I)I"⟩
def RJ9 : String := "java/lang/Math"
def TJ9 : u_T := fun k => match k with
  | _ => ("", "", "", false)
def tyJ9 : Nat → FieldType := fun k => match k with
  | _ => .int
abbrev wsJ90 : List Cond := u_ws RJ9 TJ9 0
theorem nmJ9 : ∀ a, a < 0 → ∀ b, b < 0 → a ≠ b → (TJ9 a).2.1 ≠ (TJ9 b).2.1 := by decide +kernel
theorem tyJ9_ok : ∀ k, k < 0 → parseFieldDescriptor (TJ9 k).2.2.1 = some (tyJ9 k) := by decide +kernel
abbrev cJ9_max_7cf53 : ByteArray := prog_14_method_65_code
def yJ9_max_7cf53 : MethodName := ⟨RJ9, "max", "(II)I"⟩
abbrev cJ9_min_7cf53 : ByteArray := prog_14_method_69_code
def yJ9_min_7cf53 : MethodName := ⟨RJ9, "min", "(II)I"⟩
abbrev cJ9_min_f86c9 : ByteArray := prog_14_method_70_code
def yJ9_min_f86c9 : MethodName := ⟨RJ9, "min", "(JJ)J"⟩
def RJ0 : String := "java/lang/String"
def TJ0 : u_T := fun k => match k with
  | _ => ("", "", "", false)
def tyJ0 : Nat → FieldType := fun k => match k with
  | _ => .int
abbrev wsJ00 : List Cond := u_ws RJ0 TJ0 0
theorem nmJ0 : ∀ a, a < 0 → ∀ b, b < 0 → a ≠ b → (TJ0 a).2.1 ≠ (TJ0 b).2.1 := by decide +kernel
theorem tyJ0_ok : ∀ k, k < 0 → parseFieldDescriptor (TJ0 k).2.2.1 = some (tyJ0 k) := by decide +kernel
def RL : String := "NearTreeLaw"
abbrev cL_cell : ByteArray := method_2_code
def yL_cell : MethodName := ⟨RL, "cell", "([II)I"⟩
abbrev cL_put : ByteArray := method_3_code
def yL_put : MethodName := ⟨RL, "put", "(LNearTree;IIIII[J)I"⟩
abbrev cL_drop : ByteArray := method_4_code
def yL_drop : MethodName := ⟨RL, "drop", "(LNearTree;I[J)I"⟩
abbrev cL_at : ByteArray := method_5_code
def yL_at : MethodName := ⟨RL, "at", "(LNearTree;II[J)I"⟩
abbrev cL_nearest : ByteArray := method_6_code
def yL_nearest : MethodName := ⟨RL, "nearest", "(LNearTree;IIIII[J)I"⟩
abbrev cL_within : ByteArray := method_7_code
def yL_within : MethodName := ⟨RL, "within", "(LNearTree;JIIII[J)I"⟩
abbrev cL_listed : ByteArray := method_8_code
def yL_listed : MethodName := ⟨RL, "listed", "(LNearTree;I[J)I"⟩
abbrev cL_distance : ByteArray := method_9_code
def yL_distance : MethodName := ⟨RL, "distance", "(LNearTree;I[J)I"⟩
abbrev cL_inBox : ByteArray := method_10_code
def yL_inBox : MethodName := ⟨RL, "inBox", "(LNearTree;IIIIII[J)I"⟩
abbrev cL_pair : ByteArray := method_11_code
def yL_pair : MethodName := ⟨RL, "pair", "(LNearTree;I[J)I"⟩
abbrev cL_parts : ByteArray := method_12_code
def yL_parts : MethodName := ⟨RL, "parts", "(LNearTree;J[J)I"⟩
abbrev cL_node : ByteArray := method_13_code
def yL_node : MethodName := ⟨RL, "node", "(LNearTree;II[J)I"⟩
abbrev cL_walk : ByteArray := method_14_code
def yL_walk : MethodName := ⟨RL, "walk", "(LNearTree;I[J)I"⟩
abbrev cL_count : ByteArray := method_15_code
def yL_count : MethodName := ⟨RL, "count", "(LNearTree;I[J)I"⟩
abbrev cL_law : ByteArray := code
def yL_law : MethodName := ⟨RL, "law", "([I)Z"⟩
def wsX0_init : List Cond := .code yX0_init cX0_init 1 none :: ([.methodLink RX0 3 objectInit, .instanceMethod objectInit, .code objectInit ⟨#[0xb1]⟩ 1 none, .classLink RX0 9 RX2, .fieldLink RX0 11 "NearTree$Joins" "points" "[LNearTree$Node;", .arrayClass .long, .fieldLink RX0 17 "NearTree$Joins" "lengths" "[J"] ++ wsX00)
def wsX0_gather : List Cond := .code yX0_gather cX0_gather 6 none :: ([.fieldLink RX0 21 "NearTree$Joins" "size" "I", .fieldLink RX0 11 "NearTree$Joins" "points" "[LNearTree$Node;"] ++ wsX00)
def wsX3_square : List Cond := .code yX3_square cX3_square 2 (some .long) :: ([])
def wsX3_distanceTo : List Cond := .code yX3_distanceTo cX3_distanceTo 2 (some .long) :: ([.fieldLink RX3 7 "NearTree$Place" "x" "I", .fieldLink RX3 13 "NearTree$Place" "y" "I", .fieldLink RX3 16 "NearTree$Place" "z" "I", .fieldLink RX3 19 "NearTree$Place" "w" "I", .methodLink RX3 22 yX3_square, .static yX3_square, .initialized RX3, .code yX3_square cX3_square 2 (some .long)] ++ wsX30)
def wsX0_comparePair : List Cond := .code yX0_comparePair cX0_comparePair 5 none :: ([.fieldLink RX0 37 "NearTree$Node" "place" "LNearTree$Place;", .fieldLink RX0 29 "NearTree$Joins" "pairDistance" "J", .fieldLink RX0 47 "NearTree$Node" "id" "I", .fieldLink RX0 50 "NearTree$Joins" "lesserId" "I", .fieldLink RX0 53 "NearTree$Joins" "greaterId" "I", .methodLink RX0 41 yX3_distanceTo, .instanceMethod yX3_distanceTo, .selects RX3 yX3_distanceTo yX3_distanceTo, .initialized RX3, .code yX3_distanceTo cX3_distanceTo 2 (some .long), .fieldLink RX3 7 "NearTree$Place" "x" "I", .fieldLink RX3 13 "NearTree$Place" "y" "I", .fieldLink RX3 16 "NearTree$Place" "z" "I", .fieldLink RX3 19 "NearTree$Place" "w" "I", .methodLink RX3 22 yX3_square, .static yX3_square, .code yX3_square cX3_square 2 (some .long)] ++ wsX20 ++ wsX00 ++ wsX30)
def wsX0_findNearestPair : List Cond := .code yX0_findNearestPair cX0_findNearestPair 4 none :: ([.constantLong RX0 27 (9223372036854775807), .fieldLink RX0 29 "NearTree$Joins" "pairDistance" "J", .methodLink RX0 33 yX0_comparePair, .instanceMethod yX0_comparePair, .selects RX0 yX0_comparePair yX0_comparePair, .initialized RX0, .code yX0_comparePair cX0_comparePair 5 none, .fieldLink RX0 37 "NearTree$Node" "place" "LNearTree$Place;", .fieldLink RX0 47 "NearTree$Node" "id" "I", .fieldLink RX0 50 "NearTree$Joins" "lesserId" "I", .fieldLink RX0 53 "NearTree$Joins" "greaterId" "I", .methodLink RX0 41 yX3_distanceTo, .instanceMethod yX3_distanceTo, .selects RX3 yX3_distanceTo yX3_distanceTo, .initialized RX3, .code yX3_distanceTo cX3_distanceTo 2 (some .long), .fieldLink RX3 7 "NearTree$Place" "x" "I", .fieldLink RX3 13 "NearTree$Place" "y" "I", .fieldLink RX3 16 "NearTree$Place" "z" "I", .fieldLink RX3 19 "NearTree$Place" "w" "I", .methodLink RX3 22 yX3_square, .static yX3_square, .code yX3_square cX3_square 2 (some .long)] ++ wsX00 ++ wsX20 ++ wsX30)
def wsX0_reachFrom : List Cond := .code yX0_reachFrom cX0_reachFrom 5 none :: ([.fieldLink RX0 21 "NearTree$Joins" "size" "I", .fieldLink RX0 11 "NearTree$Joins" "points" "[LNearTree$Node;", .fieldLink RX0 17 "NearTree$Joins" "lengths" "[J", .fieldLink RX0 37 "NearTree$Node" "place" "LNearTree$Place;", .methodLink RX0 72 Lib.MathLoose.min_long.x, .static Lib.MathLoose.min_long.x, .initialized "java/lang/Math", .code Lib.MathLoose.min_long.x Lib.MathLoose.min_long.code 4 (some .long), .methodLink RX0 41 yX3_distanceTo, .instanceMethod yX3_distanceTo, .selects RX3 yX3_distanceTo yX3_distanceTo, .initialized RX3, .code yX3_distanceTo cX3_distanceTo 2 (some .long), .fieldLink RX3 7 "NearTree$Place" "x" "I", .fieldLink RX3 13 "NearTree$Place" "y" "I", .fieldLink RX3 16 "NearTree$Place" "z" "I", .fieldLink RX3 19 "NearTree$Place" "w" "I", .methodLink RX3 22 yX3_square, .static yX3_square, .code yX3_square cX3_square 2 (some .long)] ++ wsX00 ++ wsX20 ++ wsX30)
def wsX0_leastFrom : List Cond := .code yX0_leastFrom cX0_leastFrom 4 (some .int) :: ([.fieldLink RX0 21 "NearTree$Joins" "size" "I", .fieldLink RX0 17 "NearTree$Joins" "lengths" "[J"] ++ wsX00)
def wsX0_swap : List Cond := .code yX0_swap cX0_swap 6 none :: ([.fieldLink RX0 11 "NearTree$Joins" "points" "[LNearTree$Node;", .fieldLink RX0 17 "NearTree$Joins" "lengths" "[J"] ++ wsX00)
def wsX0_joinAll_r1 : List Cond := [Cond.fieldLink RX0 21 "NearTree$Joins" "size" "I", Cond.fieldLink RX0 17 "NearTree$Joins" "lengths" "[J", Cond.constantLong RX0 27 (9223372036854775807), Cond.fieldLink RX0 11 "NearTree$Joins" "points" "[LNearTree$Node;", Cond.methodLink RX0 56 yX0_gather, Cond.instanceMethod yX0_gather, Cond.selects RX0 yX0_gather yX0_gather, Cond.initialized RX0, Cond.code yX0_gather cX0_gather 6 none, Cond.methodLink RX0 60 yX0_reachFrom, Cond.instanceMethod yX0_reachFrom, Cond.selects RX0 yX0_reachFrom yX0_reachFrom, Cond.code yX0_reachFrom cX0_reachFrom 5 none, Cond.fieldLink RX0 37 "NearTree$Node" "place" "LNearTree$Place;", Cond.methodLink RX0 72 Lib.MathLoose.min_long.x, Cond.static Lib.MathLoose.min_long.x, Cond.initialized "java/lang/Math", Cond.code Lib.MathLoose.min_long.x Lib.MathLoose.min_long.code 4 (some .long), Cond.methodLink RX0 41 yX3_distanceTo, Cond.instanceMethod yX3_distanceTo, Cond.selects RX3 yX3_distanceTo yX3_distanceTo, Cond.initialized RX3, Cond.code yX3_distanceTo cX3_distanceTo 2 (some .long), Cond.fieldLink RX3 7 "NearTree$Place" "x" "I"]
def wsX0_joinAll_r2 : List Cond := [Cond.fieldLink RX3 13 "NearTree$Place" "y" "I", Cond.fieldLink RX3 16 "NearTree$Place" "z" "I", Cond.fieldLink RX3 19 "NearTree$Place" "w" "I", Cond.methodLink RX3 22 yX3_square, Cond.static yX3_square, Cond.code yX3_square cX3_square 2 (some .long), Cond.methodLink RX0 64 yX0_leastFrom, Cond.instanceMethod yX0_leastFrom, Cond.selects RX0 yX0_leastFrom yX0_leastFrom, Cond.code yX0_leastFrom cX0_leastFrom 4 (some .int), Cond.methodLink RX0 68 yX0_swap, Cond.instanceMethod yX0_swap, Cond.selects RX0 yX0_swap yX0_swap, Cond.code yX0_swap cX0_swap 6 none]
def wsX0_joinAll : List Cond := .code yX0_joinAll cX0_joinAll 3 none :: ((wsX0_joinAll_r1 ++ wsX0_joinAll_r2) ++ wsX00 ++ wsX20 ++ wsX30)
def wsX0_partsWithin : List Cond := .code yX0_partsWithin cX0_partsWithin 5 (some .int) :: ([.fieldLink RX0 21 "NearTree$Joins" "size" "I", .fieldLink RX0 17 "NearTree$Joins" "lengths" "[J"] ++ wsX00)
def wsX0_sum : List Cond := .code yX0_sum cX0_sum 4 (some .long) :: ([.fieldLink RX0 21 "NearTree$Joins" "size" "I", .fieldLink RX0 17 "NearTree$Joins" "lengths" "[J"] ++ wsX00)
def wsX1_init : List Cond := .code yX1_init cX1_init 1 none :: ([.methodLink RX1 3 objectInit, .instanceMethod objectInit, .code objectInit ⟨#[0xb1]⟩ 1 none, .arrayClass .int, .fieldLink RX1 9 "NearTree$NearList" "ids" "[I", .arrayClass .long, .fieldLink RX1 15 "NearTree$NearList" "distances" "[J"] ++ wsX10)
def wsX1_empty : List Cond := .code yX1_empty cX1_empty 2 none :: ([.fieldLink RX1 19 "NearTree$NearList" "size" "I", .fieldLink RX1 9 "NearTree$NearList" "ids" "[I", .methodLink RX1 23 Lib.Math.min.name, .static Lib.Math.min.name, .initialized "java/lang/Math", .code Lib.Math.min.name Lib.Math.min.code 2 (some .int), .methodLink RX1 29 Lib.Math.max.name, .static Lib.Math.max.name, .code Lib.Math.max.name Lib.Math.max.code 2 (some .int), .fieldLink RX1 32 "NearTree$NearList" "limit" "I"] ++ wsX10)
def wsX1_has : List Cond := .code yX1_has cX1_has 2 (some .boolean) :: ([.fieldLink RX1 19 "NearTree$NearList" "size" "I"] ++ wsX10)
def wsX1_isFull : List Cond := .code yX1_isFull cX1_isFull 1 (some .boolean) :: ([.fieldLink RX1 19 "NearTree$NearList" "size" "I", .fieldLink RX1 32 "NearTree$NearList" "limit" "I"] ++ wsX10)
def wsX1_isAhead : List Cond := .code yX1_isAhead cX1_isAhead 5 (some .boolean) :: ([.fieldLink RX1 15 "NearTree$NearList" "distances" "[J", .fieldLink RX1 9 "NearTree$NearList" "ids" "[I"] ++ wsX10)
def wsX1_offer : List Cond := .code yX1_offer cX1_offer 5 none :: ([.fieldLink RX1 32 "NearTree$NearList" "limit" "I", .fieldLink RX1 19 "NearTree$NearList" "size" "I", .fieldLink RX1 9 "NearTree$NearList" "ids" "[I", .fieldLink RX1 15 "NearTree$NearList" "distances" "[J", .methodLink RX1 35 yX1_isFull, .instanceMethod yX1_isFull, .selects RX1 yX1_isFull yX1_isFull, .initialized RX1, .code yX1_isFull cX1_isFull 1 (some .boolean), .methodLink RX1 39 yX1_isAhead, .instanceMethod yX1_isAhead, .selects RX1 yX1_isAhead yX1_isAhead, .code yX1_isAhead cX1_isAhead 5 (some .boolean)] ++ wsX10)
def wsX1_shutsOut : List Cond := .code yX1_shutsOut cX1_shutsOut 3 (some .boolean) :: ([.fieldLink RX1 19 "NearTree$NearList" "size" "I", .fieldLink RX1 15 "NearTree$NearList" "distances" "[J", .methodLink RX1 35 yX1_isFull, .instanceMethod yX1_isFull, .selects RX1 yX1_isFull yX1_isFull, .initialized RX1, .code yX1_isFull cX1_isFull 1 (some .boolean), .fieldLink RX1 32 "NearTree$NearList" "limit" "I"] ++ wsX10)
def wsX2_init : List Cond := .code yX2_init cX2_init 3 none :: ([.methodLink RX2 1 objectInit, .instanceMethod objectInit, .code objectInit ⟨#[0xb1]⟩ 1 none, .fieldLink RX2 7 "NearTree$Node" "id" "I", .fieldLink RX2 13 "NearTree$Node" "place" "LNearTree$Place;", .fieldLink RX2 17 "NearTree$Node" "size" "I"] ++ wsX20)
def wsX3_number : List Cond := .code yX3_number cX3_number 2 (some .int) :: ([.fieldLink RX3 7 "NearTree$Place" "x" "I", .fieldLink RX3 13 "NearTree$Place" "y" "I", .fieldLink RX3 16 "NearTree$Place" "z" "I", .fieldLink RX3 19 "NearTree$Place" "w" "I"] ++ wsX30)
def wsX2_isLess : List Cond := .code yX2_isLess cX2_isLess 5 (some .boolean) :: ([.fieldLink RX2 13 "NearTree$Node" "place" "LNearTree$Place;", .fieldLink RX2 7 "NearTree$Node" "id" "I", .methodLink RX2 20 yX3_number, .instanceMethod yX3_number, .selects RX3 yX3_number yX3_number, .initialized RX3, .code yX3_number cX3_number 2 (some .int), .fieldLink RX3 7 "NearTree$Place" "x" "I", .fieldLink RX3 13 "NearTree$Place" "y" "I", .fieldLink RX3 16 "NearTree$Place" "z" "I", .fieldLink RX3 19 "NearTree$Place" "w" "I"] ++ wsX20 ++ wsX30)
def wsX2_sideOf : List Cond := .code yX2_sideOf cX2_sideOf 2 (some (.object "NearTree$Node")) :: ([.fieldLink RX2 26 "NearTree$Node" "axis" "I", .fieldLink RX2 33 "NearTree$Node" "left" "LNearTree$Node;", .fieldLink RX2 37 "NearTree$Node" "right" "LNearTree$Node;", .methodLink RX2 29 yX2_isLess, .instanceMethod yX2_isLess, .selects RX2 yX2_isLess yX2_isLess, .initialized RX2, .code yX2_isLess cX2_isLess 5 (some .boolean), .fieldLink RX2 13 "NearTree$Node" "place" "LNearTree$Place;", .fieldLink RX2 7 "NearTree$Node" "id" "I", .methodLink RX2 20 yX3_number, .instanceMethod yX3_number, .selects RX3 yX3_number yX3_number, .initialized RX3, .code yX3_number cX3_number 2 (some .int), .fieldLink RX3 7 "NearTree$Place" "x" "I", .fieldLink RX3 13 "NearTree$Place" "y" "I", .fieldLink RX3 16 "NearTree$Place" "z" "I", .fieldLink RX3 19 "NearTree$Place" "w" "I"] ++ wsX20 ++ wsX30)
def wsX2_sizeOf : List Cond := .code yX2_sizeOf cX2_sizeOf 1 (some .int) :: ([.fieldLink RX2 17 "NearTree$Node" "size" "I"] ++ wsX20)
def wsX2_leans : List Cond := .code yX2_leans cX2_leans 1 (some .boolean) :: ([.fieldLink RX2 33 "NearTree$Node" "left" "LNearTree$Node;", .fieldLink RX2 37 "NearTree$Node" "right" "LNearTree$Node;", .methodLink RX2 44 Lib.Math.max.name, .static Lib.Math.max.name, .initialized "java/lang/Math", .code Lib.Math.max.name Lib.Math.max.code 2 (some .int), .fieldLink RX2 17 "NearTree$Node" "size" "I", .methodLink RX2 40 yX2_sizeOf, .static yX2_sizeOf, .initialized RX2, .code yX2_sizeOf cX2_sizeOf 1 (some .int)] ++ wsX20)
def wsX3_init : List Cond := .code yX3_init cX3_init 6 none :: ([.methodLink RX3 1 objectInit, .instanceMethod objectInit, .code objectInit ⟨#[0xb1]⟩ 1 none, .fieldLink RX3 7 "NearTree$Place" "x" "I", .fieldLink RX3 13 "NearTree$Place" "y" "I", .fieldLink RX3 16 "NearTree$Place" "z" "I", .fieldLink RX3 19 "NearTree$Place" "w" "I"] ++ wsX30)
def wsX3_isBetween : List Cond := .code yX3_isBetween cX3_isBetween 5 (some .boolean) :: ([.methodLink RX3 26 yX3_number, .instanceMethod yX3_number, .selects RX3 yX3_number yX3_number, .initialized RX3, .code yX3_number cX3_number 2 (some .int), .fieldLink RX3 7 "NearTree$Place" "x" "I", .fieldLink RX3 13 "NearTree$Place" "y" "I", .fieldLink RX3 16 "NearTree$Place" "z" "I", .fieldLink RX3 19 "NearTree$Place" "w" "I"] ++ wsX30)
def wsX4_init : List Cond := .code yX4_init cX4_init 3 none :: ([.methodLink RX4 3 objectInit, .instanceMethod objectInit, .code objectInit ⟨#[0xb1]⟩ 1 none, .fieldLink RX4 9 "NearTree$Search" "place" "LNearTree$Place;", .fieldLink RX4 15 "NearTree$Search" "list" "LNearTree$NearList;"] ++ wsX40)
def wsX4_lookAt_r1 : List Cond := [Cond.fieldLink RX4 19 "NearTree$Search" "nodes" "I", Cond.fieldLink RX4 27 "NearTree$Node" "dead" "Z", Cond.fieldLink RX4 15 "NearTree$Search" "list" "LNearTree$NearList;", Cond.fieldLink RX4 33 "NearTree$Node" "id" "I", Cond.fieldLink RX4 9 "NearTree$Search" "place" "LNearTree$Place;", Cond.fieldLink RX4 36 "NearTree$Node" "place" "LNearTree$Place;", Cond.fieldLink RX4 49 "NearTree$Node" "axis" "I", Cond.fieldLink RX4 56 "NearTree$Node" "left" "LNearTree$Node;", Cond.fieldLink RX4 60 "NearTree$Node" "right" "LNearTree$Node;", Cond.methodLink RX4 37 yX3_distanceTo, Cond.instanceMethod yX3_distanceTo, Cond.selects RX3 yX3_distanceTo yX3_distanceTo, Cond.initialized RX3, Cond.code yX3_distanceTo cX3_distanceTo 2 (some .long), Cond.fieldLink RX3 7 "NearTree$Place" "x" "I", Cond.fieldLink RX3 13 "NearTree$Place" "y" "I", Cond.fieldLink RX3 16 "NearTree$Place" "z" "I", Cond.fieldLink RX3 19 "NearTree$Place" "w" "I", Cond.methodLink RX3 22 yX3_square, Cond.static yX3_square, Cond.code yX3_square cX3_square 2 (some .long), Cond.methodLink RX4 43 yX1_offer, Cond.instanceMethod yX1_offer, Cond.selects RX1 yX1_offer yX1_offer]
def wsX4_lookAt_r2 : List Cond := [Cond.initialized RX1, Cond.code yX1_offer cX1_offer 5 none, Cond.fieldLink RX1 32 "NearTree$NearList" "limit" "I", Cond.fieldLink RX1 19 "NearTree$NearList" "size" "I", Cond.fieldLink RX1 9 "NearTree$NearList" "ids" "[I", Cond.fieldLink RX1 15 "NearTree$NearList" "distances" "[J", Cond.methodLink RX1 35 yX1_isFull, Cond.instanceMethod yX1_isFull, Cond.selects RX1 yX1_isFull yX1_isFull, Cond.code yX1_isFull cX1_isFull 1 (some .boolean), Cond.methodLink RX1 39 yX1_isAhead, Cond.instanceMethod yX1_isAhead, Cond.selects RX1 yX1_isAhead yX1_isAhead, Cond.code yX1_isAhead cX1_isAhead 5 (some .boolean), Cond.methodLink RX4 52 yX3_number, Cond.instanceMethod yX3_number, Cond.selects RX3 yX3_number yX3_number, Cond.code yX3_number cX3_number 2 (some .int), Cond.methodLink RX4 23 yX4_lookAt, Cond.instanceMethod yX4_lookAt, Cond.selects RX4 yX4_lookAt yX4_lookAt, Cond.initialized RX4, Cond.methodLink RX4 63 yX3_square, Cond.methodLink RX4 67 yX1_shutsOut]
def wsX4_lookAt_r3 : List Cond := [Cond.instanceMethod yX1_shutsOut, Cond.selects RX1 yX1_shutsOut yX1_shutsOut, Cond.code yX1_shutsOut cX1_shutsOut 3 (some .boolean)]
def wsX4_lookAt : List Cond := .code yX4_lookAt cX4_lookAt 4 none :: ((wsX4_lookAt_r1 ++ (wsX4_lookAt_r2 ++ wsX4_lookAt_r3)) ++ wsX40 ++ wsX20 ++ wsX30 ++ wsX10)
def wsX4_start_r1 : List Cond := [Cond.fieldLink RX4 19 "NearTree$Search" "nodes" "I", Cond.methodLink RX4 23 yX4_lookAt, Cond.instanceMethod yX4_lookAt, Cond.selects RX4 yX4_lookAt yX4_lookAt, Cond.initialized RX4, Cond.code yX4_lookAt cX4_lookAt 4 none, Cond.fieldLink RX4 27 "NearTree$Node" "dead" "Z", Cond.fieldLink RX4 15 "NearTree$Search" "list" "LNearTree$NearList;", Cond.fieldLink RX4 33 "NearTree$Node" "id" "I", Cond.fieldLink RX4 9 "NearTree$Search" "place" "LNearTree$Place;", Cond.fieldLink RX4 36 "NearTree$Node" "place" "LNearTree$Place;", Cond.fieldLink RX4 49 "NearTree$Node" "axis" "I", Cond.fieldLink RX4 56 "NearTree$Node" "left" "LNearTree$Node;", Cond.fieldLink RX4 60 "NearTree$Node" "right" "LNearTree$Node;", Cond.methodLink RX4 37 yX3_distanceTo, Cond.instanceMethod yX3_distanceTo, Cond.selects RX3 yX3_distanceTo yX3_distanceTo, Cond.initialized RX3, Cond.code yX3_distanceTo cX3_distanceTo 2 (some .long), Cond.fieldLink RX3 7 "NearTree$Place" "x" "I", Cond.fieldLink RX3 13 "NearTree$Place" "y" "I", Cond.fieldLink RX3 16 "NearTree$Place" "z" "I", Cond.fieldLink RX3 19 "NearTree$Place" "w" "I", Cond.methodLink RX3 22 yX3_square]
def wsX4_start_r2 : List Cond := [Cond.static yX3_square, Cond.code yX3_square cX3_square 2 (some .long), Cond.methodLink RX4 43 yX1_offer, Cond.instanceMethod yX1_offer, Cond.selects RX1 yX1_offer yX1_offer, Cond.initialized RX1, Cond.code yX1_offer cX1_offer 5 none, Cond.fieldLink RX1 32 "NearTree$NearList" "limit" "I", Cond.fieldLink RX1 19 "NearTree$NearList" "size" "I", Cond.fieldLink RX1 9 "NearTree$NearList" "ids" "[I", Cond.fieldLink RX1 15 "NearTree$NearList" "distances" "[J", Cond.methodLink RX1 35 yX1_isFull, Cond.instanceMethod yX1_isFull, Cond.selects RX1 yX1_isFull yX1_isFull, Cond.code yX1_isFull cX1_isFull 1 (some .boolean), Cond.methodLink RX1 39 yX1_isAhead, Cond.instanceMethod yX1_isAhead, Cond.selects RX1 yX1_isAhead yX1_isAhead, Cond.code yX1_isAhead cX1_isAhead 5 (some .boolean), Cond.methodLink RX4 52 yX3_number, Cond.instanceMethod yX3_number, Cond.selects RX3 yX3_number yX3_number, Cond.code yX3_number cX3_number 2 (some .int), Cond.methodLink RX4 63 yX3_square]
def wsX4_start_r3 : List Cond := [Cond.methodLink RX4 67 yX1_shutsOut, Cond.instanceMethod yX1_shutsOut, Cond.selects RX1 yX1_shutsOut yX1_shutsOut, Cond.code yX1_shutsOut cX1_shutsOut 3 (some .boolean)]
def wsX4_start : List Cond := .code yX4_start cX4_start 2 none :: ((wsX4_start_r1 ++ (wsX4_start_r2 ++ wsX4_start_r3)) ++ wsX40 ++ wsX20 ++ wsX30 ++ wsX10)
def wsX5_init : List Cond := .code yX5_init cX5_init 2 none :: ([.methodLink RX5 3 objectInit, .instanceMethod objectInit, .code objectInit ⟨#[0xb1]⟩ 1 none, .fieldLink RX5 9 "NearTree$Tree" "axes" "I", .classLink RX5 15 RX2, .fieldLink RX5 17 "NearTree$Tree" "row" "[LNearTree$Node;"] ++ wsX50)
def wsX5_nodeCount : List Cond := .code yX5_nodeCount cX5_nodeCount 1 (some .int) :: ([.fieldLink RX5 21 "NearTree$Tree" "root" "LNearTree$Node;", .methodLink RX5 25 yX2_sizeOf, .static yX2_sizeOf, .initialized RX2, .code yX2_sizeOf cX2_sizeOf 1 (some .int), .fieldLink RX2 17 "NearTree$Node" "size" "I"] ++ wsX50 ++ wsX20)
def wsX5_axisBehind : List Cond := .code yX5_axisBehind cX5_axisBehind 2 (some .int) :: ([.fieldLink RX5 9 "NearTree$Tree" "axes" "I"] ++ wsX50)
def wsX5_hang_r1 : List Cond := [Cond.fieldLink RX5 21 "NearTree$Tree" "root" "LNearTree$Node;", Cond.fieldLink RX5 29 "NearTree$Node" "size" "I", Cond.fieldLink RX5 36 "NearTree$Node" "above" "LNearTree$Node;", Cond.fieldLink RX5 39 "NearTree$Node" "depth" "I", Cond.fieldLink RX5 42 "NearTree$Node" "axis" "I", Cond.fieldLink RX5 53 "NearTree$Node" "left" "LNearTree$Node;", Cond.fieldLink RX5 56 "NearTree$Node" "right" "LNearTree$Node;", Cond.methodLink RX5 32 yX2_sideOf, Cond.instanceMethod yX2_sideOf, Cond.selects RX2 yX2_sideOf yX2_sideOf, Cond.initialized RX2, Cond.code yX2_sideOf cX2_sideOf 2 (some (.object "NearTree$Node")), Cond.fieldLink RX2 26 "NearTree$Node" "axis" "I", Cond.fieldLink RX2 33 "NearTree$Node" "left" "LNearTree$Node;", Cond.fieldLink RX2 37 "NearTree$Node" "right" "LNearTree$Node;", Cond.methodLink RX2 29 yX2_isLess, Cond.instanceMethod yX2_isLess, Cond.selects RX2 yX2_isLess yX2_isLess, Cond.code yX2_isLess cX2_isLess 5 (some .boolean), Cond.fieldLink RX2 13 "NearTree$Node" "place" "LNearTree$Place;", Cond.fieldLink RX2 7 "NearTree$Node" "id" "I", Cond.methodLink RX2 20 yX3_number, Cond.instanceMethod yX3_number, Cond.selects RX3 yX3_number yX3_number]
def wsX5_hang_r2 : List Cond := [Cond.initialized RX3, Cond.code yX3_number cX3_number 2 (some .int), Cond.fieldLink RX3 7 "NearTree$Place" "x" "I", Cond.fieldLink RX3 13 "NearTree$Place" "y" "I", Cond.fieldLink RX3 16 "NearTree$Place" "z" "I", Cond.fieldLink RX3 19 "NearTree$Place" "w" "I", Cond.methodLink RX5 45 yX5_axisBehind, Cond.instanceMethod yX5_axisBehind, Cond.selects RX5 yX5_axisBehind yX5_axisBehind, Cond.initialized RX5, Cond.code yX5_axisBehind cX5_axisBehind 2 (some .int), Cond.fieldLink RX5 9 "NearTree$Tree" "axes" "I", Cond.methodLink RX5 49 yX2_isLess]
def wsX5_hang : List Cond := .code yX5_hang cX5_hang 4 none :: ((wsX5_hang_r1 ++ wsX5_hang_r2) ++ wsX50 ++ wsX20 ++ wsX30)
def wsX5_firstLeaningAbove_r1 : List Cond := [Cond.fieldLink RX5 21 "NearTree$Tree" "root" "LNearTree$Node;", Cond.methodLink RX5 59 yX2_leans, Cond.instanceMethod yX2_leans, Cond.selects RX2 yX2_leans yX2_leans, Cond.initialized RX2, Cond.code yX2_leans cX2_leans 1 (some .boolean), Cond.fieldLink RX2 33 "NearTree$Node" "left" "LNearTree$Node;", Cond.fieldLink RX2 37 "NearTree$Node" "right" "LNearTree$Node;", Cond.methodLink RX2 44 Lib.Math.max.name, Cond.static Lib.Math.max.name, Cond.initialized "java/lang/Math", Cond.code Lib.Math.max.name Lib.Math.max.code 2 (some .int), Cond.fieldLink RX2 17 "NearTree$Node" "size" "I", Cond.methodLink RX2 40 yX2_sizeOf, Cond.static yX2_sizeOf, Cond.code yX2_sizeOf cX2_sizeOf 1 (some .int), Cond.methodLink RX5 32 yX2_sideOf, Cond.instanceMethod yX2_sideOf, Cond.selects RX2 yX2_sideOf yX2_sideOf, Cond.code yX2_sideOf cX2_sideOf 2 (some (.object "NearTree$Node")), Cond.fieldLink RX2 26 "NearTree$Node" "axis" "I", Cond.methodLink RX2 29 yX2_isLess, Cond.instanceMethod yX2_isLess, Cond.selects RX2 yX2_isLess yX2_isLess]
def wsX5_firstLeaningAbove_r2 : List Cond := [Cond.code yX2_isLess cX2_isLess 5 (some .boolean), Cond.fieldLink RX2 13 "NearTree$Node" "place" "LNearTree$Place;", Cond.fieldLink RX2 7 "NearTree$Node" "id" "I", Cond.methodLink RX2 20 yX3_number, Cond.instanceMethod yX3_number, Cond.selects RX3 yX3_number yX3_number, Cond.initialized RX3, Cond.code yX3_number cX3_number 2 (some .int), Cond.fieldLink RX3 7 "NearTree$Place" "x" "I", Cond.fieldLink RX3 13 "NearTree$Place" "y" "I", Cond.fieldLink RX3 16 "NearTree$Place" "z" "I", Cond.fieldLink RX3 19 "NearTree$Place" "w" "I"]
def wsX5_firstLeaningAbove : List Cond := .code yX5_firstLeaningAbove cX5_firstLeaningAbove 3 (some (.object "NearTree$Node")) :: ((wsX5_firstLeaningAbove_r1 ++ wsX5_firstLeaningAbove_r2) ++ wsX50 ++ wsX20 ++ wsX30)
def wsX5_nodeOnWalk : List Cond := .code yX5_nodeOnWalk cX5_nodeOnWalk 5 (some (.object "NearTree$Node")) :: ([.fieldLink RX5 53 "NearTree$Node" "left" "LNearTree$Node;", .fieldLink RX5 56 "NearTree$Node" "right" "LNearTree$Node;", .methodLink RX5 25 yX2_sizeOf, .static yX2_sizeOf, .initialized RX2, .code yX2_sizeOf cX2_sizeOf 1 (some .int), .fieldLink RX2 17 "NearTree$Node" "size" "I"] ++ wsX20)
def wsX5_gatherLive : List Cond := .code yX5_gatherLive cX5_gatherLive 5 (some .int) :: ([.fieldLink RX5 29 "NearTree$Node" "size" "I", .fieldLink RX5 17 "NearTree$Tree" "row" "[LNearTree$Node;", .fieldLink RX5 77 "NearTree$Node" "dead" "Z", .methodLink RX5 73 yX5_nodeOnWalk, .static yX5_nodeOnWalk, .initialized RX5, .code yX5_nodeOnWalk cX5_nodeOnWalk 5 (some (.object "NearTree$Node")), .fieldLink RX5 53 "NearTree$Node" "left" "LNearTree$Node;", .fieldLink RX5 56 "NearTree$Node" "right" "LNearTree$Node;", .methodLink RX5 25 yX2_sizeOf, .static yX2_sizeOf, .initialized RX2, .code yX2_sizeOf cX2_sizeOf 1 (some .int), .fieldLink RX2 17 "NearTree$Node" "size" "I"] ++ wsX20 ++ wsX50)
def wsX5_isAhead : List Cond := .code yX5_isAhead cX5_isAhead 3 (some .boolean) :: ([.methodLink RX5 49 yX2_isLess, .instanceMethod yX2_isLess, .selects RX2 yX2_isLess yX2_isLess, .initialized RX2, .code yX2_isLess cX2_isLess 5 (some .boolean), .fieldLink RX2 13 "NearTree$Node" "place" "LNearTree$Place;", .fieldLink RX2 7 "NearTree$Node" "id" "I", .methodLink RX2 20 yX3_number, .instanceMethod yX3_number, .selects RX3 yX3_number yX3_number, .initialized RX3, .code yX3_number cX3_number 2 (some .int), .fieldLink RX3 7 "NearTree$Place" "x" "I", .fieldLink RX3 13 "NearTree$Place" "y" "I", .fieldLink RX3 16 "NearTree$Place" "z" "I", .fieldLink RX3 19 "NearTree$Place" "w" "I"] ++ wsX20 ++ wsX30)
def wsX5_order : List Cond := .code yX5_order cX5_order 7 none :: ([.fieldLink RX5 17 "NearTree$Tree" "row" "[LNearTree$Node;", .methodLink RX5 85 yX5_isAhead, .static yX5_isAhead, .initialized RX5, .code yX5_isAhead cX5_isAhead 3 (some .boolean), .methodLink RX5 49 yX2_isLess, .instanceMethod yX2_isLess, .selects RX2 yX2_isLess yX2_isLess, .initialized RX2, .code yX2_isLess cX2_isLess 5 (some .boolean), .fieldLink RX2 13 "NearTree$Node" "place" "LNearTree$Place;", .fieldLink RX2 7 "NearTree$Node" "id" "I", .methodLink RX2 20 yX3_number, .instanceMethod yX3_number, .selects RX3 yX3_number yX3_number, .initialized RX3, .code yX3_number cX3_number 2 (some .int), .fieldLink RX3 7 "NearTree$Place" "x" "I", .fieldLink RX3 13 "NearTree$Place" "y" "I", .fieldLink RX3 16 "NearTree$Place" "z" "I", .fieldLink RX3 19 "NearTree$Place" "w" "I"] ++ wsX50 ++ wsX20 ++ wsX30)
def wsX5_build_r1 : List Cond := [Cond.fieldLink RX5 17 "NearTree$Tree" "row" "[LNearTree$Node;", Cond.fieldLink RX5 36 "NearTree$Node" "above" "LNearTree$Node;", Cond.fieldLink RX5 39 "NearTree$Node" "depth" "I", Cond.fieldLink RX5 42 "NearTree$Node" "axis" "I", Cond.fieldLink RX5 29 "NearTree$Node" "size" "I", Cond.fieldLink RX5 53 "NearTree$Node" "left" "LNearTree$Node;", Cond.fieldLink RX5 56 "NearTree$Node" "right" "LNearTree$Node;", Cond.methodLink RX5 81 yX5_order, Cond.instanceMethod yX5_order, Cond.selects RX5 yX5_order yX5_order, Cond.initialized RX5, Cond.code yX5_order cX5_order 7 none, Cond.methodLink RX5 85 yX5_isAhead, Cond.static yX5_isAhead, Cond.code yX5_isAhead cX5_isAhead 3 (some .boolean), Cond.methodLink RX5 49 yX2_isLess, Cond.instanceMethod yX2_isLess, Cond.selects RX2 yX2_isLess yX2_isLess, Cond.initialized RX2, Cond.code yX2_isLess cX2_isLess 5 (some .boolean), Cond.fieldLink RX2 13 "NearTree$Node" "place" "LNearTree$Place;", Cond.fieldLink RX2 7 "NearTree$Node" "id" "I", Cond.methodLink RX2 20 yX3_number, Cond.instanceMethod yX3_number]
def wsX5_build_r2 : List Cond := [Cond.selects RX3 yX3_number yX3_number, Cond.initialized RX3, Cond.code yX3_number cX3_number 2 (some .int), Cond.fieldLink RX3 7 "NearTree$Place" "x" "I", Cond.fieldLink RX3 13 "NearTree$Place" "y" "I", Cond.fieldLink RX3 16 "NearTree$Place" "z" "I", Cond.fieldLink RX3 19 "NearTree$Place" "w" "I", Cond.methodLink RX5 45 yX5_axisBehind, Cond.instanceMethod yX5_axisBehind, Cond.selects RX5 yX5_axisBehind yX5_axisBehind, Cond.code yX5_axisBehind cX5_axisBehind 2 (some .int), Cond.fieldLink RX5 9 "NearTree$Tree" "axes" "I", Cond.methodLink RX5 66 yX5_build, Cond.instanceMethod yX5_build, Cond.selects RX5 yX5_build yX5_build]
def wsX5_build : List Cond := .code yX5_build cX5_build 9 (some (.object "NearTree$Node")) :: ((wsX5_build_r1 ++ wsX5_build_r2) ++ wsX50 ++ wsX20 ++ wsX30)
def wsX5_buildAnew_r1 : List Cond := [Cond.fieldLink RX5 36 "NearTree$Node" "above" "LNearTree$Node;", Cond.fieldLink RX5 53 "NearTree$Node" "left" "LNearTree$Node;", Cond.fieldLink RX5 29 "NearTree$Node" "size" "I", Cond.fieldLink RX5 39 "NearTree$Node" "depth" "I", Cond.fieldLink RX5 42 "NearTree$Node" "axis" "I", Cond.fieldLink RX5 21 "NearTree$Tree" "root" "LNearTree$Node;", Cond.fieldLink RX5 56 "NearTree$Node" "right" "LNearTree$Node;", Cond.fieldLink RX5 70 "NearTree$Tree" "builtPoints" "I", Cond.methodLink RX5 63 yX5_gatherLive, Cond.instanceMethod yX5_gatherLive, Cond.selects RX5 yX5_gatherLive yX5_gatherLive, Cond.initialized RX5, Cond.code yX5_gatherLive cX5_gatherLive 5 (some .int), Cond.fieldLink RX5 17 "NearTree$Tree" "row" "[LNearTree$Node;", Cond.fieldLink RX5 77 "NearTree$Node" "dead" "Z", Cond.methodLink RX5 73 yX5_nodeOnWalk, Cond.static yX5_nodeOnWalk, Cond.code yX5_nodeOnWalk cX5_nodeOnWalk 5 (some (.object "NearTree$Node")), Cond.methodLink RX5 25 yX2_sizeOf, Cond.static yX2_sizeOf, Cond.initialized RX2, Cond.code yX2_sizeOf cX2_sizeOf 1 (some .int), Cond.fieldLink RX2 17 "NearTree$Node" "size" "I", Cond.methodLink RX5 66 yX5_build]
def wsX5_buildAnew_r2 : List Cond := [Cond.instanceMethod yX5_build, Cond.selects RX5 yX5_build yX5_build, Cond.code yX5_build cX5_build 9 (some (.object "NearTree$Node")), Cond.methodLink RX5 81 yX5_order, Cond.instanceMethod yX5_order, Cond.selects RX5 yX5_order yX5_order, Cond.code yX5_order cX5_order 7 none, Cond.methodLink RX5 85 yX5_isAhead, Cond.static yX5_isAhead, Cond.code yX5_isAhead cX5_isAhead 3 (some .boolean), Cond.methodLink RX5 49 yX2_isLess, Cond.instanceMethod yX2_isLess, Cond.selects RX2 yX2_isLess yX2_isLess, Cond.code yX2_isLess cX2_isLess 5 (some .boolean), Cond.fieldLink RX2 13 "NearTree$Node" "place" "LNearTree$Place;", Cond.fieldLink RX2 7 "NearTree$Node" "id" "I", Cond.methodLink RX2 20 yX3_number, Cond.instanceMethod yX3_number, Cond.selects RX3 yX3_number yX3_number, Cond.initialized RX3, Cond.code yX3_number cX3_number 2 (some .int), Cond.fieldLink RX3 7 "NearTree$Place" "x" "I", Cond.fieldLink RX3 13 "NearTree$Place" "y" "I", Cond.fieldLink RX3 16 "NearTree$Place" "z" "I"]
def wsX5_buildAnew_r3 : List Cond := [Cond.fieldLink RX3 19 "NearTree$Place" "w" "I", Cond.methodLink RX5 45 yX5_axisBehind, Cond.instanceMethod yX5_axisBehind, Cond.selects RX5 yX5_axisBehind yX5_axisBehind, Cond.code yX5_axisBehind cX5_axisBehind 2 (some .int), Cond.fieldLink RX5 9 "NearTree$Tree" "axes" "I"]
def wsX5_buildAnew : List Cond := .code yX5_buildAnew cX5_buildAnew 8 none :: ((wsX5_buildAnew_r1 ++ (wsX5_buildAnew_r2 ++ wsX5_buildAnew_r3)) ++ wsX20 ++ wsX50 ++ wsX30)
def wsX5_levels : List Cond := .code yX5_levels cX5_levels 5 (some .int) :: ([.fieldLink RX5 21 "NearTree$Tree" "root" "LNearTree$Node;", .fieldLink RX5 39 "NearTree$Node" "depth" "I", .methodLink RX5 93 Lib.Math.max.name, .static Lib.Math.max.name, .initialized "java/lang/Math", .code Lib.Math.max.name Lib.Math.max.code 2 (some .int), .methodLink RX5 89 yX5_nodeCount, .instanceMethod yX5_nodeCount, .selects RX5 yX5_nodeCount yX5_nodeCount, .initialized RX5, .code yX5_nodeCount cX5_nodeCount 1 (some .int), .methodLink RX5 25 yX2_sizeOf, .static yX2_sizeOf, .initialized RX2, .code yX2_sizeOf cX2_sizeOf 1 (some .int), .fieldLink RX2 17 "NearTree$Node" "size" "I", .methodLink RX5 73 yX5_nodeOnWalk, .static yX5_nodeOnWalk, .code yX5_nodeOnWalk cX5_nodeOnWalk 5 (some (.object "NearTree$Node")), .fieldLink RX5 53 "NearTree$Node" "left" "LNearTree$Node;", .fieldLink RX5 56 "NearTree$Node" "right" "LNearTree$Node;"] ++ wsX50 ++ wsX20)
def wsX6_init_r1 : List Cond := [Cond.methodLink RX6 3 objectInit, Cond.instanceMethod objectInit, Cond.code objectInit ⟨#[0xb1]⟩ 1 none, Cond.methodLink RX6 9 Lib.Math.min.name, Cond.static Lib.Math.min.name, Cond.initialized "java/lang/Math", Cond.code Lib.Math.min.name Lib.Math.min.code 2 (some .int), Cond.methodLink RX6 15 Lib.Math.max.name, Cond.static Lib.Math.max.name, Cond.code Lib.Math.max.name Lib.Math.max.code 2 (some .int), Cond.fieldLink RX6 18 "NearTree" "axes" "I", Cond.classLink RX6 22 RX2, Cond.fieldLink RX6 24 "NearTree" "liveById" "[LNearTree$Node;", Cond.classLink RX6 28 RX5, Cond.instantiable RX5 4, Cond.initialized RX5, Cond.fieldLink RX6 33 "NearTree" "tree" "LNearTree$Tree;", Cond.classLink RX6 37 RX1, Cond.instantiable RX1 4, Cond.initialized RX1, Cond.fieldLink RX6 40 "NearTree" "list" "LNearTree$NearList;", Cond.classLink RX6 44 RX0, Cond.instantiable RX0 6, Cond.initialized RX0]
def wsX6_init_r2 : List Cond := [Cond.fieldLink RX6 47 "NearTree" "joins" "LNearTree$Joins;", Cond.methodLink RX6 30 yX5_init, Cond.instanceMethod yX5_init, Cond.code yX5_init cX5_init 2 none, Cond.methodLink RX5 3 objectInit, Cond.fieldLink RX5 9 "NearTree$Tree" "axes" "I", Cond.classLink RX5 15 RX2, Cond.fieldLink RX5 17 "NearTree$Tree" "row" "[LNearTree$Node;", Cond.methodLink RX6 39 yX1_init, Cond.instanceMethod yX1_init, Cond.code yX1_init cX1_init 1 none, Cond.methodLink RX1 3 objectInit, Cond.arrayClass .int, Cond.fieldLink RX1 9 "NearTree$NearList" "ids" "[I", Cond.arrayClass .long, Cond.fieldLink RX1 15 "NearTree$NearList" "distances" "[J", Cond.methodLink RX6 46 yX0_init, Cond.instanceMethod yX0_init, Cond.code yX0_init cX0_init 1 none, Cond.methodLink RX0 3 objectInit, Cond.classLink RX0 9 RX2, Cond.fieldLink RX0 11 "NearTree$Joins" "points" "[LNearTree$Node;", Cond.fieldLink RX0 17 "NearTree$Joins" "lengths" "[J"]
def wsX6_init : List Cond := .code yX6_init cX6_init 2 none :: ((wsX6_init_r1 ++ wsX6_init_r2) ++ wsX60 ++ wsX50 ++ wsX10 ++ wsX00)
def wsX6_isId : List Cond := .code yX6_isId cX6_isId 1 (some .boolean) :: ([])
def wsX6_isNumber : List Cond := .code yX6_isNumber cX6_isNumber 1 (some .boolean) :: ([])
def wsX6_isPlace : List Cond := .code yX6_isPlace cX6_isPlace 5 (some .boolean) :: ([.fieldLink RX6 18 "NearTree" "axes" "I", .methodLink RX6 251 yX6_isNumber, .static yX6_isNumber, .initialized RX6, .code yX6_isNumber cX6_isNumber 1 (some .boolean)] ++ wsX60)
def wsX6_put_r1 : List Cond := [Cond.classLink RX6 59 "java/lang/IllegalArgumentException", Cond.initialized "java/lang/IllegalArgumentException", Cond.classLink RX6 69 "java/lang/IllegalStateException", Cond.initialized "java/lang/IllegalStateException", Cond.fieldLink RX6 24 "NearTree" "liveById" "[LNearTree$Node;", Cond.fieldLink RX6 66 "NearTree" "liveCount" "I", Cond.classLink RX6 22 RX2, Cond.instantiable RX2 9, Cond.initialized RX2, Cond.classLink RX6 74 RX3, Cond.instantiable RX3 4, Cond.initialized RX3, Cond.fieldLink RX6 18 "NearTree" "axes" "I", Cond.fieldLink RX6 33 "NearTree" "tree" "LNearTree$Tree;", Cond.fieldLink RX6 90 "NearTree" "builtByComing" "I", Cond.methodLink RX6 51 yX6_isId, Cond.static yX6_isId, Cond.initialized RX6, Cond.code yX6_isId cX6_isId 1 (some .boolean), Cond.methodLink RX6 55 yX6_isPlace, Cond.instanceMethod yX6_isPlace, Cond.selects RX6 yX6_isPlace yX6_isPlace, Cond.code yX6_isPlace cX6_isPlace 5 (some .boolean), Cond.methodLink RX6 251 yX6_isNumber]
def wsX6_put_r2 : List Cond := [Cond.static yX6_isNumber, Cond.code yX6_isNumber cX6_isNumber 1 (some .boolean), Cond.methodLink RX6 76 yX3_init, Cond.instanceMethod yX3_init, Cond.code yX3_init cX3_init 6 none, Cond.methodLink RX3 1 objectInit, Cond.instanceMethod objectInit, Cond.code objectInit ⟨#[0xb1]⟩ 1 none, Cond.fieldLink RX3 7 "NearTree$Place" "x" "I", Cond.fieldLink RX3 13 "NearTree$Place" "y" "I", Cond.fieldLink RX3 16 "NearTree$Place" "z" "I", Cond.fieldLink RX3 19 "NearTree$Place" "w" "I", Cond.methodLink RX6 79 yX2_init, Cond.instanceMethod yX2_init, Cond.code yX2_init cX2_init 3 none, Cond.methodLink RX2 1 objectInit, Cond.fieldLink RX2 7 "NearTree$Node" "id" "I", Cond.fieldLink RX2 13 "NearTree$Node" "place" "LNearTree$Place;", Cond.fieldLink RX2 17 "NearTree$Node" "size" "I", Cond.methodLink RX6 82 yX5_hang, Cond.instanceMethod yX5_hang, Cond.selects RX5 yX5_hang yX5_hang, Cond.initialized RX5, Cond.code yX5_hang cX5_hang 4 none]
def wsX6_put_r3 : List Cond := [Cond.fieldLink RX5 21 "NearTree$Tree" "root" "LNearTree$Node;", Cond.fieldLink RX5 29 "NearTree$Node" "size" "I", Cond.fieldLink RX5 36 "NearTree$Node" "above" "LNearTree$Node;", Cond.fieldLink RX5 39 "NearTree$Node" "depth" "I", Cond.fieldLink RX5 42 "NearTree$Node" "axis" "I", Cond.fieldLink RX5 53 "NearTree$Node" "left" "LNearTree$Node;", Cond.fieldLink RX5 56 "NearTree$Node" "right" "LNearTree$Node;", Cond.methodLink RX5 32 yX2_sideOf, Cond.instanceMethod yX2_sideOf, Cond.selects RX2 yX2_sideOf yX2_sideOf, Cond.code yX2_sideOf cX2_sideOf 2 (some (.object "NearTree$Node")), Cond.fieldLink RX2 26 "NearTree$Node" "axis" "I", Cond.fieldLink RX2 33 "NearTree$Node" "left" "LNearTree$Node;", Cond.fieldLink RX2 37 "NearTree$Node" "right" "LNearTree$Node;", Cond.methodLink RX2 29 yX2_isLess, Cond.instanceMethod yX2_isLess, Cond.selects RX2 yX2_isLess yX2_isLess, Cond.code yX2_isLess cX2_isLess 5 (some .boolean), Cond.methodLink RX2 20 yX3_number, Cond.instanceMethod yX3_number, Cond.selects RX3 yX3_number yX3_number, Cond.code yX3_number cX3_number 2 (some .int), Cond.methodLink RX5 45 yX5_axisBehind, Cond.instanceMethod yX5_axisBehind]
def wsX6_put_r4 : List Cond := [Cond.selects RX5 yX5_axisBehind yX5_axisBehind, Cond.code yX5_axisBehind cX5_axisBehind 2 (some .int), Cond.fieldLink RX5 9 "NearTree$Tree" "axes" "I", Cond.methodLink RX5 49 yX2_isLess, Cond.methodLink RX6 86 yX5_firstLeaningAbove, Cond.instanceMethod yX5_firstLeaningAbove, Cond.selects RX5 yX5_firstLeaningAbove yX5_firstLeaningAbove, Cond.code yX5_firstLeaningAbove cX5_firstLeaningAbove 3 (some (.object "NearTree$Node")), Cond.methodLink RX5 59 yX2_leans, Cond.instanceMethod yX2_leans, Cond.selects RX2 yX2_leans yX2_leans, Cond.code yX2_leans cX2_leans 1 (some .boolean), Cond.methodLink RX2 44 Lib.Math.max.name, Cond.static Lib.Math.max.name, Cond.initialized "java/lang/Math", Cond.code Lib.Math.max.name Lib.Math.max.code 2 (some .int), Cond.methodLink RX2 40 yX2_sizeOf, Cond.static yX2_sizeOf, Cond.code yX2_sizeOf cX2_sizeOf 1 (some .int), Cond.methodLink RX6 93 yX5_buildAnew, Cond.instanceMethod yX5_buildAnew, Cond.selects RX5 yX5_buildAnew yX5_buildAnew, Cond.code yX5_buildAnew cX5_buildAnew 8 none, Cond.fieldLink RX5 70 "NearTree$Tree" "builtPoints" "I"]
def wsX6_put_r5 : List Cond := [Cond.methodLink RX5 63 yX5_gatherLive, Cond.instanceMethod yX5_gatherLive, Cond.selects RX5 yX5_gatherLive yX5_gatherLive, Cond.code yX5_gatherLive cX5_gatherLive 5 (some .int), Cond.fieldLink RX5 17 "NearTree$Tree" "row" "[LNearTree$Node;", Cond.fieldLink RX5 77 "NearTree$Node" "dead" "Z", Cond.methodLink RX5 73 yX5_nodeOnWalk, Cond.static yX5_nodeOnWalk, Cond.code yX5_nodeOnWalk cX5_nodeOnWalk 5 (some (.object "NearTree$Node")), Cond.methodLink RX5 25 yX2_sizeOf, Cond.methodLink RX5 66 yX5_build, Cond.instanceMethod yX5_build, Cond.selects RX5 yX5_build yX5_build, Cond.code yX5_build cX5_build 9 (some (.object "NearTree$Node")), Cond.methodLink RX5 81 yX5_order, Cond.instanceMethod yX5_order, Cond.selects RX5 yX5_order yX5_order, Cond.code yX5_order cX5_order 7 none, Cond.methodLink RX5 85 yX5_isAhead, Cond.static yX5_isAhead, Cond.code yX5_isAhead cX5_isAhead 3 (some .boolean)]
def wsX6_put : List Cond := .code yX6_put cX6_put 8 (some .int) :: ((wsX6_put_r1 ++ (wsX6_put_r2 ++ (wsX6_put_r3 ++ (wsX6_put_r4 ++ wsX6_put_r5)))) ++ wsX60 ++ wsX20 ++ wsX30 ++ wsX50 ++ (vx_atS RX6 63 "java/lang/IllegalArgumentException" ["java/lang/RuntimeException", "java/lang/Exception"]).filter goodWord ++ (vx_atS RX6 73 "java/lang/IllegalStateException" ["java/lang/RuntimeException", "java/lang/Exception"]).filter goodWord)
def wsX6_deadCount : List Cond := .code yX6_deadCount cX6_deadCount 1 (some .int) :: ([.fieldLink RX6 33 "NearTree" "tree" "LNearTree$Tree;", .fieldLink RX6 66 "NearTree" "liveCount" "I", .methodLink RX6 108 yX5_nodeCount, .instanceMethod yX5_nodeCount, .selects RX5 yX5_nodeCount yX5_nodeCount, .initialized RX5, .code yX5_nodeCount cX5_nodeCount 1 (some .int), .fieldLink RX5 21 "NearTree$Tree" "root" "LNearTree$Node;", .methodLink RX5 25 yX2_sizeOf, .static yX2_sizeOf, .initialized RX2, .code yX2_sizeOf cX2_sizeOf 1 (some .int), .fieldLink RX2 17 "NearTree$Node" "size" "I"] ++ wsX60 ++ wsX50 ++ wsX20)
def wsX6_drop_r1 : List Cond := [Cond.classLink RX6 59 "java/lang/IllegalArgumentException", Cond.initialized "java/lang/IllegalArgumentException", Cond.classLink RX6 69 "java/lang/IllegalStateException", Cond.initialized "java/lang/IllegalStateException", Cond.fieldLink RX6 24 "NearTree" "liveById" "[LNearTree$Node;", Cond.fieldLink RX6 100 "NearTree$Node" "dead" "Z", Cond.fieldLink RX6 66 "NearTree" "liveCount" "I", Cond.fieldLink RX6 33 "NearTree" "tree" "LNearTree$Tree;", Cond.fieldLink RX6 111 "NearTree" "builtByGoing" "I", Cond.fieldLink RX6 114 "NearTree$Tree" "root" "LNearTree$Node;", Cond.methodLink RX6 51 yX6_isId, Cond.static yX6_isId, Cond.initialized RX6, Cond.code yX6_isId cX6_isId 1 (some .boolean), Cond.methodLink RX6 104 yX6_deadCount, Cond.instanceMethod yX6_deadCount, Cond.selects RX6 yX6_deadCount yX6_deadCount, Cond.code yX6_deadCount cX6_deadCount 1 (some .int), Cond.methodLink RX6 108 yX5_nodeCount, Cond.instanceMethod yX5_nodeCount, Cond.selects RX5 yX5_nodeCount yX5_nodeCount, Cond.initialized RX5, Cond.code yX5_nodeCount cX5_nodeCount 1 (some .int), Cond.fieldLink RX5 21 "NearTree$Tree" "root" "LNearTree$Node;"]
def wsX6_drop_r2 : List Cond := [Cond.methodLink RX5 25 yX2_sizeOf, Cond.static yX2_sizeOf, Cond.initialized RX2, Cond.code yX2_sizeOf cX2_sizeOf 1 (some .int), Cond.fieldLink RX2 17 "NearTree$Node" "size" "I", Cond.methodLink RX6 93 yX5_buildAnew, Cond.instanceMethod yX5_buildAnew, Cond.selects RX5 yX5_buildAnew yX5_buildAnew, Cond.code yX5_buildAnew cX5_buildAnew 8 none, Cond.fieldLink RX5 36 "NearTree$Node" "above" "LNearTree$Node;", Cond.fieldLink RX5 53 "NearTree$Node" "left" "LNearTree$Node;", Cond.fieldLink RX5 29 "NearTree$Node" "size" "I", Cond.fieldLink RX5 39 "NearTree$Node" "depth" "I", Cond.fieldLink RX5 42 "NearTree$Node" "axis" "I", Cond.fieldLink RX5 56 "NearTree$Node" "right" "LNearTree$Node;", Cond.fieldLink RX5 70 "NearTree$Tree" "builtPoints" "I", Cond.methodLink RX5 63 yX5_gatherLive, Cond.instanceMethod yX5_gatherLive, Cond.selects RX5 yX5_gatherLive yX5_gatherLive, Cond.code yX5_gatherLive cX5_gatherLive 5 (some .int), Cond.fieldLink RX5 17 "NearTree$Tree" "row" "[LNearTree$Node;", Cond.fieldLink RX5 77 "NearTree$Node" "dead" "Z", Cond.methodLink RX5 73 yX5_nodeOnWalk, Cond.static yX5_nodeOnWalk]
def wsX6_drop_r3 : List Cond := [Cond.code yX5_nodeOnWalk cX5_nodeOnWalk 5 (some (.object "NearTree$Node")), Cond.methodLink RX5 66 yX5_build, Cond.instanceMethod yX5_build, Cond.selects RX5 yX5_build yX5_build, Cond.code yX5_build cX5_build 9 (some (.object "NearTree$Node")), Cond.methodLink RX5 81 yX5_order, Cond.instanceMethod yX5_order, Cond.selects RX5 yX5_order yX5_order, Cond.code yX5_order cX5_order 7 none, Cond.methodLink RX5 85 yX5_isAhead, Cond.static yX5_isAhead, Cond.code yX5_isAhead cX5_isAhead 3 (some .boolean), Cond.methodLink RX5 49 yX2_isLess, Cond.instanceMethod yX2_isLess, Cond.selects RX2 yX2_isLess yX2_isLess, Cond.code yX2_isLess cX2_isLess 5 (some .boolean), Cond.fieldLink RX2 13 "NearTree$Node" "place" "LNearTree$Place;", Cond.fieldLink RX2 7 "NearTree$Node" "id" "I", Cond.methodLink RX2 20 yX3_number, Cond.instanceMethod yX3_number, Cond.selects RX3 yX3_number yX3_number, Cond.initialized RX3, Cond.code yX3_number cX3_number 2 (some .int), Cond.fieldLink RX3 7 "NearTree$Place" "x" "I"]
def wsX6_drop_r4 : List Cond := [Cond.fieldLink RX3 13 "NearTree$Place" "y" "I", Cond.fieldLink RX3 16 "NearTree$Place" "z" "I", Cond.fieldLink RX3 19 "NearTree$Place" "w" "I", Cond.methodLink RX5 45 yX5_axisBehind, Cond.instanceMethod yX5_axisBehind, Cond.selects RX5 yX5_axisBehind yX5_axisBehind, Cond.code yX5_axisBehind cX5_axisBehind 2 (some .int), Cond.fieldLink RX5 9 "NearTree$Tree" "axes" "I"]
def wsX6_drop : List Cond := .code yX6_drop cX6_drop 3 (some .int) :: ((wsX6_drop_r1 ++ (wsX6_drop_r2 ++ (wsX6_drop_r3 ++ wsX6_drop_r4))) ++ wsX60 ++ wsX20 ++ wsX50 ++ wsX30 ++ (vx_atS RX6 63 "java/lang/IllegalArgumentException" ["java/lang/RuntimeException", "java/lang/Exception"]).filter goodWord ++ (vx_atS RX6 73 "java/lang/IllegalStateException" ["java/lang/RuntimeException", "java/lang/Exception"]).filter goodWord)
def wsX6_at : List Cond := .code yX6_at cX6_at 4 (some .int) :: ([.classLink RX6 59 "java/lang/IllegalArgumentException", .initialized "java/lang/IllegalArgumentException", .classLink RX6 69 "java/lang/IllegalStateException", .initialized "java/lang/IllegalStateException", .fieldLink RX6 24 "NearTree" "liveById" "[LNearTree$Node;", .fieldLink RX6 122 "NearTree$Node" "place" "LNearTree$Place;", .methodLink RX6 51 yX6_isId, .static yX6_isId, .initialized RX6, .code yX6_isId cX6_isId 1 (some .boolean), .methodLink RX6 126 yX3_number, .instanceMethod yX3_number, .selects RX3 yX3_number yX3_number, .initialized RX3, .code yX3_number cX3_number 2 (some .int), .fieldLink RX3 7 "NearTree$Place" "x" "I", .fieldLink RX3 13 "NearTree$Place" "y" "I", .fieldLink RX3 16 "NearTree$Place" "z" "I", .fieldLink RX3 19 "NearTree$Place" "w" "I"] ++ wsX60 ++ wsX20 ++ wsX30 ++ (vx_atS RX6 63 "java/lang/IllegalArgumentException" ["java/lang/RuntimeException", "java/lang/Exception"]).filter goodWord ++ (vx_atS RX6 73 "java/lang/IllegalStateException" ["java/lang/RuntimeException", "java/lang/Exception"]).filter goodWord)
def wsX6_nearest_r1 : List Cond := [Cond.classLink RX6 59 "java/lang/IllegalArgumentException", Cond.initialized "java/lang/IllegalArgumentException", Cond.fieldLink RX6 40 "NearTree" "list" "LNearTree$NearList;", Cond.classLink RX6 135 RX4, Cond.instantiable RX4 3, Cond.initialized RX4, Cond.classLink RX6 74 RX3, Cond.instantiable RX3 4, Cond.initialized RX3, Cond.fieldLink RX6 18 "NearTree" "axes" "I", Cond.fieldLink RX6 33 "NearTree" "tree" "LNearTree$Tree;", Cond.fieldLink RX6 114 "NearTree$Tree" "root" "LNearTree$Node;", Cond.fieldLink RX6 143 "NearTree$Search" "nodes" "I", Cond.fieldLink RX6 146 "NearTree" "lookedAt" "I", Cond.fieldLink RX6 149 "NearTree$NearList" "size" "I", Cond.methodLink RX6 55 yX6_isPlace, Cond.instanceMethod yX6_isPlace, Cond.selects RX6 yX6_isPlace yX6_isPlace, Cond.initialized RX6, Cond.code yX6_isPlace cX6_isPlace 5 (some .boolean), Cond.methodLink RX6 251 yX6_isNumber, Cond.static yX6_isNumber, Cond.code yX6_isNumber cX6_isNumber 1 (some .boolean), Cond.methodLink RX6 132 yX1_empty]
def wsX6_nearest_r2 : List Cond := [Cond.instanceMethod yX1_empty, Cond.selects RX1 yX1_empty yX1_empty, Cond.initialized RX1, Cond.code yX1_empty cX1_empty 2 none, Cond.fieldLink RX1 19 "NearTree$NearList" "size" "I", Cond.fieldLink RX1 9 "NearTree$NearList" "ids" "[I", Cond.methodLink RX1 23 Lib.Math.min.name, Cond.static Lib.Math.min.name, Cond.initialized "java/lang/Math", Cond.code Lib.Math.min.name Lib.Math.min.code 2 (some .int), Cond.methodLink RX1 29 Lib.Math.max.name, Cond.static Lib.Math.max.name, Cond.code Lib.Math.max.name Lib.Math.max.code 2 (some .int), Cond.fieldLink RX1 32 "NearTree$NearList" "limit" "I", Cond.methodLink RX6 76 yX3_init, Cond.instanceMethod yX3_init, Cond.code yX3_init cX3_init 6 none, Cond.methodLink RX3 1 objectInit, Cond.instanceMethod objectInit, Cond.code objectInit ⟨#[0xb1]⟩ 1 none, Cond.fieldLink RX3 7 "NearTree$Place" "x" "I", Cond.fieldLink RX3 13 "NearTree$Place" "y" "I", Cond.fieldLink RX3 16 "NearTree$Place" "z" "I", Cond.fieldLink RX3 19 "NearTree$Place" "w" "I"]
def wsX6_nearest_r3 : List Cond := [Cond.methodLink RX6 137 yX4_init, Cond.instanceMethod yX4_init, Cond.code yX4_init cX4_init 3 none, Cond.methodLink RX4 3 objectInit, Cond.fieldLink RX4 9 "NearTree$Search" "place" "LNearTree$Place;", Cond.fieldLink RX4 15 "NearTree$Search" "list" "LNearTree$NearList;", Cond.methodLink RX6 140 yX4_start, Cond.instanceMethod yX4_start, Cond.selects RX4 yX4_start yX4_start, Cond.code yX4_start cX4_start 2 none, Cond.fieldLink RX4 19 "NearTree$Search" "nodes" "I", Cond.methodLink RX4 23 yX4_lookAt, Cond.instanceMethod yX4_lookAt, Cond.selects RX4 yX4_lookAt yX4_lookAt, Cond.code yX4_lookAt cX4_lookAt 4 none, Cond.fieldLink RX4 27 "NearTree$Node" "dead" "Z", Cond.fieldLink RX4 33 "NearTree$Node" "id" "I", Cond.fieldLink RX4 36 "NearTree$Node" "place" "LNearTree$Place;", Cond.fieldLink RX4 49 "NearTree$Node" "axis" "I", Cond.fieldLink RX4 56 "NearTree$Node" "left" "LNearTree$Node;", Cond.fieldLink RX4 60 "NearTree$Node" "right" "LNearTree$Node;", Cond.methodLink RX4 37 yX3_distanceTo, Cond.instanceMethod yX3_distanceTo, Cond.selects RX3 yX3_distanceTo yX3_distanceTo]
def wsX6_nearest_r4 : List Cond := [Cond.code yX3_distanceTo cX3_distanceTo 2 (some .long), Cond.methodLink RX3 22 yX3_square, Cond.static yX3_square, Cond.code yX3_square cX3_square 2 (some .long), Cond.methodLink RX4 43 yX1_offer, Cond.instanceMethod yX1_offer, Cond.selects RX1 yX1_offer yX1_offer, Cond.code yX1_offer cX1_offer 5 none, Cond.fieldLink RX1 15 "NearTree$NearList" "distances" "[J", Cond.methodLink RX1 35 yX1_isFull, Cond.instanceMethod yX1_isFull, Cond.selects RX1 yX1_isFull yX1_isFull, Cond.code yX1_isFull cX1_isFull 1 (some .boolean), Cond.methodLink RX1 39 yX1_isAhead, Cond.instanceMethod yX1_isAhead, Cond.selects RX1 yX1_isAhead yX1_isAhead, Cond.code yX1_isAhead cX1_isAhead 5 (some .boolean), Cond.methodLink RX4 52 yX3_number, Cond.instanceMethod yX3_number, Cond.selects RX3 yX3_number yX3_number, Cond.code yX3_number cX3_number 2 (some .int), Cond.methodLink RX4 63 yX3_square, Cond.methodLink RX4 67 yX1_shutsOut, Cond.instanceMethod yX1_shutsOut]
def wsX6_nearest_r5 : List Cond := [Cond.selects RX1 yX1_shutsOut yX1_shutsOut, Cond.code yX1_shutsOut cX1_shutsOut 3 (some .boolean)]
def wsX6_nearest : List Cond := .code yX6_nearest cX6_nearest 7 (some .int) :: ((wsX6_nearest_r1 ++ (wsX6_nearest_r2 ++ (wsX6_nearest_r3 ++ (wsX6_nearest_r4 ++ wsX6_nearest_r5)))) ++ wsX60 ++ wsX40 ++ wsX30 ++ wsX50 ++ wsX10 ++ wsX20 ++ (vx_atS RX6 63 "java/lang/IllegalArgumentException" ["java/lang/RuntimeException", "java/lang/Exception"]).filter goodWord)
def wsX6_within_r1 : List Cond := [Cond.classLink RX6 59 "java/lang/IllegalArgumentException", Cond.initialized "java/lang/IllegalArgumentException", Cond.classLink RX6 74 RX3, Cond.instantiable RX3 4, Cond.initialized RX3, Cond.fieldLink RX6 18 "NearTree" "axes" "I", Cond.fieldLink RX6 40 "NearTree" "list" "LNearTree$NearList;", Cond.fieldLink RX6 24 "NearTree" "liveById" "[LNearTree$Node;", Cond.fieldLink RX6 122 "NearTree$Node" "place" "LNearTree$Place;", Cond.fieldLink RX6 158 "NearTree$Node" "id" "I", Cond.fieldLink RX6 149 "NearTree$NearList" "size" "I", Cond.methodLink RX6 55 yX6_isPlace, Cond.instanceMethod yX6_isPlace, Cond.selects RX6 yX6_isPlace yX6_isPlace, Cond.initialized RX6, Cond.code yX6_isPlace cX6_isPlace 5 (some .boolean), Cond.methodLink RX6 251 yX6_isNumber, Cond.static yX6_isNumber, Cond.code yX6_isNumber cX6_isNumber 1 (some .boolean), Cond.methodLink RX6 76 yX3_init, Cond.instanceMethod yX3_init, Cond.code yX3_init cX3_init 6 none, Cond.methodLink RX3 1 objectInit, Cond.instanceMethod objectInit]
def wsX6_within_r2 : List Cond := [Cond.code objectInit ⟨#[0xb1]⟩ 1 none, Cond.fieldLink RX3 7 "NearTree$Place" "x" "I", Cond.fieldLink RX3 13 "NearTree$Place" "y" "I", Cond.fieldLink RX3 16 "NearTree$Place" "z" "I", Cond.fieldLink RX3 19 "NearTree$Place" "w" "I", Cond.methodLink RX6 132 yX1_empty, Cond.instanceMethod yX1_empty, Cond.selects RX1 yX1_empty yX1_empty, Cond.initialized RX1, Cond.code yX1_empty cX1_empty 2 none, Cond.fieldLink RX1 19 "NearTree$NearList" "size" "I", Cond.fieldLink RX1 9 "NearTree$NearList" "ids" "[I", Cond.methodLink RX1 23 Lib.Math.min.name, Cond.static Lib.Math.min.name, Cond.initialized "java/lang/Math", Cond.code Lib.Math.min.name Lib.Math.min.code 2 (some .int), Cond.methodLink RX1 29 Lib.Math.max.name, Cond.static Lib.Math.max.name, Cond.code Lib.Math.max.name Lib.Math.max.code 2 (some .int), Cond.fieldLink RX1 32 "NearTree$NearList" "limit" "I", Cond.methodLink RX6 154 yX3_distanceTo, Cond.instanceMethod yX3_distanceTo, Cond.selects RX3 yX3_distanceTo yX3_distanceTo, Cond.code yX3_distanceTo cX3_distanceTo 2 (some .long)]
def wsX6_within_r3 : List Cond := [Cond.methodLink RX3 22 yX3_square, Cond.static yX3_square, Cond.code yX3_square cX3_square 2 (some .long), Cond.methodLink RX6 161 yX1_offer, Cond.instanceMethod yX1_offer, Cond.selects RX1 yX1_offer yX1_offer, Cond.code yX1_offer cX1_offer 5 none, Cond.fieldLink RX1 15 "NearTree$NearList" "distances" "[J", Cond.methodLink RX1 35 yX1_isFull, Cond.instanceMethod yX1_isFull, Cond.selects RX1 yX1_isFull yX1_isFull, Cond.code yX1_isFull cX1_isFull 1 (some .boolean), Cond.methodLink RX1 39 yX1_isAhead, Cond.instanceMethod yX1_isAhead, Cond.selects RX1 yX1_isAhead yX1_isAhead, Cond.code yX1_isAhead cX1_isAhead 5 (some .boolean)]
def wsX6_within : List Cond := .code yX6_within cX6_within 14 (some .int) :: ((wsX6_within_r1 ++ (wsX6_within_r2 ++ wsX6_within_r3)) ++ wsX30 ++ wsX60 ++ wsX20 ++ wsX10 ++ (vx_atS RX6 63 "java/lang/IllegalArgumentException" ["java/lang/RuntimeException", "java/lang/Exception"]).filter goodWord)
def wsX6_listed : List Cond := .code yX6_listed cX6_listed 2 (some .int) :: ([.classLink RX6 168 "java/lang/IndexOutOfBoundsException", .initialized "java/lang/IndexOutOfBoundsException", .fieldLink RX6 40 "NearTree" "list" "LNearTree$NearList;", .fieldLink RX6 173 "NearTree$NearList" "ids" "[I", .methodLink RX6 165 yX1_has, .instanceMethod yX1_has, .selects RX1 yX1_has yX1_has, .initialized RX1, .code yX1_has cX1_has 2 (some .boolean), .fieldLink RX1 19 "NearTree$NearList" "size" "I"] ++ wsX60 ++ wsX10 ++ (vx_atS RX6 172 "java/lang/IndexOutOfBoundsException" ["java/lang/RuntimeException", "java/lang/Exception"]).filter goodWord)
def wsX6_distance : List Cond := .code yX6_distance cX6_distance 2 (some .long) :: ([.classLink RX6 168 "java/lang/IndexOutOfBoundsException", .initialized "java/lang/IndexOutOfBoundsException", .fieldLink RX6 40 "NearTree" "list" "LNearTree$NearList;", .fieldLink RX6 179 "NearTree$NearList" "distances" "[J", .methodLink RX6 165 yX1_has, .instanceMethod yX1_has, .selects RX1 yX1_has yX1_has, .initialized RX1, .code yX1_has cX1_has 2 (some .boolean), .fieldLink RX1 19 "NearTree$NearList" "size" "I"] ++ wsX60 ++ wsX10 ++ (vx_atS RX6 172 "java/lang/IndexOutOfBoundsException" ["java/lang/RuntimeException", "java/lang/Exception"]).filter goodWord)
def wsX6_looked : List Cond := .code yX6_looked cX6_looked 1 (some .int) :: ([.fieldLink RX6 146 "NearTree" "lookedAt" "I"] ++ wsX60)
def wsX6_isCountingAxis : List Cond := .code yX6_isCountingAxis cX6_isCountingAxis 2 (some .boolean) :: ([.fieldLink RX6 18 "NearTree" "axes" "I"] ++ wsX60)
def wsX6_inBox : List Cond := .code yX6_inBox cX6_inBox 12 (some .int) :: ([.classLink RX6 59 "java/lang/IllegalArgumentException", .initialized "java/lang/IllegalArgumentException", .fieldLink RX6 24 "NearTree" "liveById" "[LNearTree$Node;", .fieldLink RX6 122 "NearTree$Node" "place" "LNearTree$Place;", .methodLink RX6 183 yX6_isCountingAxis, .instanceMethod yX6_isCountingAxis, .selects RX6 yX6_isCountingAxis yX6_isCountingAxis, .initialized RX6, .code yX6_isCountingAxis cX6_isCountingAxis 2 (some .boolean), .fieldLink RX6 18 "NearTree" "axes" "I", .methodLink RX6 188 yX3_isBetween, .instanceMethod yX3_isBetween, .selects RX3 yX3_isBetween yX3_isBetween, .initialized RX3, .code yX3_isBetween cX3_isBetween 5 (some .boolean), .methodLink RX3 26 yX3_number, .instanceMethod yX3_number, .selects RX3 yX3_number yX3_number, .code yX3_number cX3_number 2 (some .int), .fieldLink RX3 7 "NearTree$Place" "x" "I", .fieldLink RX3 13 "NearTree$Place" "y" "I", .fieldLink RX3 16 "NearTree$Place" "z" "I", .fieldLink RX3 19 "NearTree$Place" "w" "I"] ++ wsX60 ++ wsX20 ++ wsX30 ++ (vx_atS RX6 63 "java/lang/IllegalArgumentException" ["java/lang/RuntimeException", "java/lang/Exception"]).filter goodWord)
def wsX6_pair_r1 : List Cond := [Cond.classLink RX6 59 "java/lang/IllegalArgumentException", Cond.initialized "java/lang/IllegalArgumentException", Cond.classLink RX6 69 "java/lang/IllegalStateException", Cond.initialized "java/lang/IllegalStateException", Cond.fieldLink RX6 66 "NearTree" "liveCount" "I", Cond.fieldLink RX6 47 "NearTree" "joins" "LNearTree$Joins;", Cond.fieldLink RX6 24 "NearTree" "liveById" "[LNearTree$Node;", Cond.fieldLink RX6 200 "NearTree$Joins" "lesserId" "I", Cond.fieldLink RX6 203 "NearTree$Joins" "greaterId" "I", Cond.fieldLink RX6 206 "NearTree$Joins" "pairDistance" "J", Cond.methodLink RX6 196 yX0_findNearestPair, Cond.instanceMethod yX0_findNearestPair, Cond.selects RX0 yX0_findNearestPair yX0_findNearestPair, Cond.initialized RX0, Cond.code yX0_findNearestPair cX0_findNearestPair 4 none, Cond.constantLong RX0 27 (9223372036854775807), Cond.fieldLink RX0 29 "NearTree$Joins" "pairDistance" "J", Cond.methodLink RX0 33 yX0_comparePair, Cond.instanceMethod yX0_comparePair, Cond.selects RX0 yX0_comparePair yX0_comparePair, Cond.code yX0_comparePair cX0_comparePair 5 none, Cond.fieldLink RX0 37 "NearTree$Node" "place" "LNearTree$Place;", Cond.fieldLink RX0 47 "NearTree$Node" "id" "I", Cond.fieldLink RX0 50 "NearTree$Joins" "lesserId" "I"]
def wsX6_pair_r2 : List Cond := [Cond.fieldLink RX0 53 "NearTree$Joins" "greaterId" "I", Cond.methodLink RX0 41 yX3_distanceTo, Cond.instanceMethod yX3_distanceTo, Cond.selects RX3 yX3_distanceTo yX3_distanceTo, Cond.initialized RX3, Cond.code yX3_distanceTo cX3_distanceTo 2 (some .long), Cond.fieldLink RX3 7 "NearTree$Place" "x" "I", Cond.fieldLink RX3 13 "NearTree$Place" "y" "I", Cond.fieldLink RX3 16 "NearTree$Place" "z" "I", Cond.fieldLink RX3 19 "NearTree$Place" "w" "I", Cond.methodLink RX3 22 yX3_square, Cond.static yX3_square, Cond.code yX3_square cX3_square 2 (some .long)]
def wsX6_pair : List Cond := .code yX6_pair cX6_pair 2 (some .long) :: ((wsX6_pair_r1 ++ wsX6_pair_r2) ++ wsX60 ++ wsX00 ++ wsX20 ++ wsX30 ++ (vx_atS RX6 63 "java/lang/IllegalArgumentException" ["java/lang/RuntimeException", "java/lang/Exception"]).filter goodWord ++ (vx_atS RX6 73 "java/lang/IllegalStateException" ["java/lang/RuntimeException", "java/lang/Exception"]).filter goodWord)
def wsX6_parts_r1 : List Cond := [Cond.classLink RX6 59 "java/lang/IllegalArgumentException", Cond.initialized "java/lang/IllegalArgumentException", Cond.fieldLink RX6 47 "NearTree" "joins" "LNearTree$Joins;", Cond.fieldLink RX6 24 "NearTree" "liveById" "[LNearTree$Node;", Cond.methodLink RX6 212 yX0_joinAll, Cond.instanceMethod yX0_joinAll, Cond.selects RX0 yX0_joinAll yX0_joinAll, Cond.initialized RX0, Cond.code yX0_joinAll cX0_joinAll 3 none, Cond.fieldLink RX0 21 "NearTree$Joins" "size" "I", Cond.fieldLink RX0 17 "NearTree$Joins" "lengths" "[J", Cond.constantLong RX0 27 (9223372036854775807), Cond.fieldLink RX0 11 "NearTree$Joins" "points" "[LNearTree$Node;", Cond.methodLink RX0 56 yX0_gather, Cond.instanceMethod yX0_gather, Cond.selects RX0 yX0_gather yX0_gather, Cond.code yX0_gather cX0_gather 6 none, Cond.methodLink RX0 60 yX0_reachFrom, Cond.instanceMethod yX0_reachFrom, Cond.selects RX0 yX0_reachFrom yX0_reachFrom, Cond.code yX0_reachFrom cX0_reachFrom 5 none, Cond.fieldLink RX0 37 "NearTree$Node" "place" "LNearTree$Place;", Cond.methodLink RX0 72 Lib.MathLoose.min_long.x, Cond.static Lib.MathLoose.min_long.x]
def wsX6_parts_r2 : List Cond := [Cond.initialized "java/lang/Math", Cond.code Lib.MathLoose.min_long.x Lib.MathLoose.min_long.code 4 (some .long), Cond.methodLink RX0 41 yX3_distanceTo, Cond.instanceMethod yX3_distanceTo, Cond.selects RX3 yX3_distanceTo yX3_distanceTo, Cond.initialized RX3, Cond.code yX3_distanceTo cX3_distanceTo 2 (some .long), Cond.fieldLink RX3 7 "NearTree$Place" "x" "I", Cond.fieldLink RX3 13 "NearTree$Place" "y" "I", Cond.fieldLink RX3 16 "NearTree$Place" "z" "I", Cond.fieldLink RX3 19 "NearTree$Place" "w" "I", Cond.methodLink RX3 22 yX3_square, Cond.static yX3_square, Cond.code yX3_square cX3_square 2 (some .long), Cond.methodLink RX0 64 yX0_leastFrom, Cond.instanceMethod yX0_leastFrom, Cond.selects RX0 yX0_leastFrom yX0_leastFrom, Cond.code yX0_leastFrom cX0_leastFrom 4 (some .int), Cond.methodLink RX0 68 yX0_swap, Cond.instanceMethod yX0_swap, Cond.selects RX0 yX0_swap yX0_swap, Cond.code yX0_swap cX0_swap 6 none, Cond.methodLink RX6 215 yX0_partsWithin, Cond.instanceMethod yX0_partsWithin]
def wsX6_parts_r3 : List Cond := [Cond.selects RX0 yX0_partsWithin yX0_partsWithin, Cond.code yX0_partsWithin cX0_partsWithin 5 (some .int)]
def wsX6_parts : List Cond := .code yX6_parts cX6_parts 3 (some .int) :: ((wsX6_parts_r1 ++ (wsX6_parts_r2 ++ wsX6_parts_r3)) ++ wsX60 ++ wsX00 ++ wsX20 ++ wsX30 ++ (vx_atS RX6 63 "java/lang/IllegalArgumentException" ["java/lang/RuntimeException", "java/lang/Exception"]).filter goodWord)
def wsX6_span_r1 : List Cond := [Cond.fieldLink RX6 47 "NearTree" "joins" "LNearTree$Joins;", Cond.fieldLink RX6 24 "NearTree" "liveById" "[LNearTree$Node;", Cond.methodLink RX6 212 yX0_joinAll, Cond.instanceMethod yX0_joinAll, Cond.selects RX0 yX0_joinAll yX0_joinAll, Cond.initialized RX0, Cond.code yX0_joinAll cX0_joinAll 3 none, Cond.fieldLink RX0 21 "NearTree$Joins" "size" "I", Cond.fieldLink RX0 17 "NearTree$Joins" "lengths" "[J", Cond.constantLong RX0 27 (9223372036854775807), Cond.fieldLink RX0 11 "NearTree$Joins" "points" "[LNearTree$Node;", Cond.methodLink RX0 56 yX0_gather, Cond.instanceMethod yX0_gather, Cond.selects RX0 yX0_gather yX0_gather, Cond.code yX0_gather cX0_gather 6 none, Cond.methodLink RX0 60 yX0_reachFrom, Cond.instanceMethod yX0_reachFrom, Cond.selects RX0 yX0_reachFrom yX0_reachFrom, Cond.code yX0_reachFrom cX0_reachFrom 5 none, Cond.fieldLink RX0 37 "NearTree$Node" "place" "LNearTree$Place;", Cond.methodLink RX0 72 Lib.MathLoose.min_long.x, Cond.static Lib.MathLoose.min_long.x, Cond.initialized "java/lang/Math", Cond.code Lib.MathLoose.min_long.x Lib.MathLoose.min_long.code 4 (some .long)]
def wsX6_span_r2 : List Cond := [Cond.methodLink RX0 41 yX3_distanceTo, Cond.instanceMethod yX3_distanceTo, Cond.selects RX3 yX3_distanceTo yX3_distanceTo, Cond.initialized RX3, Cond.code yX3_distanceTo cX3_distanceTo 2 (some .long), Cond.fieldLink RX3 7 "NearTree$Place" "x" "I", Cond.fieldLink RX3 13 "NearTree$Place" "y" "I", Cond.fieldLink RX3 16 "NearTree$Place" "z" "I", Cond.fieldLink RX3 19 "NearTree$Place" "w" "I", Cond.methodLink RX3 22 yX3_square, Cond.static yX3_square, Cond.code yX3_square cX3_square 2 (some .long), Cond.methodLink RX0 64 yX0_leastFrom, Cond.instanceMethod yX0_leastFrom, Cond.selects RX0 yX0_leastFrom yX0_leastFrom, Cond.code yX0_leastFrom cX0_leastFrom 4 (some .int), Cond.methodLink RX0 68 yX0_swap, Cond.instanceMethod yX0_swap, Cond.selects RX0 yX0_swap yX0_swap, Cond.code yX0_swap cX0_swap 6 none, Cond.methodLink RX6 219 yX0_sum, Cond.instanceMethod yX0_sum, Cond.selects RX0 yX0_sum yX0_sum, Cond.code yX0_sum cX0_sum 4 (some .long)]
def wsX6_span : List Cond := .code yX6_span cX6_span 1 (some .long) :: ((wsX6_span_r1 ++ wsX6_span_r2) ++ wsX60 ++ wsX00 ++ wsX20 ++ wsX30)
def wsX6_node : List Cond := .code yX6_node cX6_node 5 (some .int) :: ([.classLink RX6 59 "java/lang/IllegalArgumentException", .initialized "java/lang/IllegalArgumentException", .classLink RX6 69 "java/lang/IllegalStateException", .initialized "java/lang/IllegalStateException", .fieldLink RX6 24 "NearTree" "liveById" "[LNearTree$Node;", .fieldLink RX6 227 "NearTree$Node" "above" "LNearTree$Node;", .fieldLink RX6 230 "NearTree$Node" "depth" "I", .fieldLink RX6 233 "NearTree$Node" "size" "I", .fieldLink RX6 158 "NearTree$Node" "id" "I", .fieldLink RX6 100 "NearTree$Node" "dead" "Z", .fieldLink RX6 234 "NearTree$Node" "left" "LNearTree$Node;", .methodLink RX6 51 yX6_isId, .static yX6_isId, .initialized RX6, .code yX6_isId cX6_isId 1 (some .boolean)] ++ wsX60 ++ wsX20 ++ (vx_atS RX6 63 "java/lang/IllegalArgumentException" ["java/lang/RuntimeException", "java/lang/Exception"]).filter goodWord ++ (vx_atS RX6 73 "java/lang/IllegalStateException" ["java/lang/RuntimeException", "java/lang/Exception"]).filter goodWord)
def wsX6_walk : List Cond := .code yX6_walk cX6_walk 3 (some .int) :: ([.classLink RX6 168 "java/lang/IndexOutOfBoundsException", .initialized "java/lang/IndexOutOfBoundsException", .fieldLink RX6 33 "NearTree" "tree" "LNearTree$Tree;", .fieldLink RX6 114 "NearTree$Tree" "root" "LNearTree$Node;", .fieldLink RX6 100 "NearTree$Node" "dead" "Z", .fieldLink RX6 158 "NearTree$Node" "id" "I", .methodLink RX6 237 yX5_nodeOnWalk, .static yX5_nodeOnWalk, .initialized RX5, .code yX5_nodeOnWalk cX5_nodeOnWalk 5 (some (.object "NearTree$Node")), .fieldLink RX5 53 "NearTree$Node" "left" "LNearTree$Node;", .fieldLink RX5 56 "NearTree$Node" "right" "LNearTree$Node;", .methodLink RX5 25 yX2_sizeOf, .static yX2_sizeOf, .initialized RX2, .code yX2_sizeOf cX2_sizeOf 1 (some .int), .fieldLink RX2 17 "NearTree$Node" "size" "I"] ++ wsX60 ++ wsX50 ++ wsX20 ++ (vx_atS RX6 172 "java/lang/IndexOutOfBoundsException" ["java/lang/RuntimeException", "java/lang/Exception"]).filter goodWord)
def wsX6_count_r1 : List Cond := [Cond.classLink RX6 59 "java/lang/IllegalArgumentException", Cond.initialized "java/lang/IllegalArgumentException", Cond.fieldLink RX6 18 "NearTree" "axes" "I", Cond.fieldLink RX6 66 "NearTree" "liveCount" "I", Cond.fieldLink RX6 33 "NearTree" "tree" "LNearTree$Tree;", Cond.fieldLink RX6 90 "NearTree" "builtByComing" "I", Cond.fieldLink RX6 111 "NearTree" "builtByGoing" "I", Cond.fieldLink RX6 246 "NearTree$Tree" "builtPoints" "I", Cond.methodLink RX6 108 yX5_nodeCount, Cond.instanceMethod yX5_nodeCount, Cond.selects RX5 yX5_nodeCount yX5_nodeCount, Cond.initialized RX5, Cond.code yX5_nodeCount cX5_nodeCount 1 (some .int), Cond.fieldLink RX5 21 "NearTree$Tree" "root" "LNearTree$Node;", Cond.methodLink RX5 25 yX2_sizeOf, Cond.static yX2_sizeOf, Cond.initialized RX2, Cond.code yX2_sizeOf cX2_sizeOf 1 (some .int), Cond.fieldLink RX2 17 "NearTree$Node" "size" "I", Cond.methodLink RX6 104 yX6_deadCount, Cond.instanceMethod yX6_deadCount, Cond.selects RX6 yX6_deadCount yX6_deadCount, Cond.initialized RX6, Cond.code yX6_deadCount cX6_deadCount 1 (some .int)]
def wsX6_count_r2 : List Cond := [Cond.methodLink RX6 243 yX5_levels, Cond.instanceMethod yX5_levels, Cond.selects RX5 yX5_levels yX5_levels, Cond.code yX5_levels cX5_levels 5 (some .int), Cond.fieldLink RX5 39 "NearTree$Node" "depth" "I", Cond.methodLink RX5 93 Lib.Math.max.name, Cond.static Lib.Math.max.name, Cond.initialized "java/lang/Math", Cond.code Lib.Math.max.name Lib.Math.max.code 2 (some .int), Cond.methodLink RX5 89 yX5_nodeCount, Cond.methodLink RX5 73 yX5_nodeOnWalk, Cond.static yX5_nodeOnWalk, Cond.code yX5_nodeOnWalk cX5_nodeOnWalk 5 (some (.object "NearTree$Node")), Cond.fieldLink RX5 53 "NearTree$Node" "left" "LNearTree$Node;", Cond.fieldLink RX5 56 "NearTree$Node" "right" "LNearTree$Node;"]
def wsX6_count : List Cond := .code yX6_count cX6_count 2 (some .int) :: ((wsX6_count_r1 ++ wsX6_count_r2) ++ wsX60 ++ wsX50 ++ wsX20 ++ (vx_atS RX6 63 "java/lang/IllegalArgumentException" ["java/lang/RuntimeException", "java/lang/Exception"]).filter goodWord)
def wsX7_thrown : List Cond := .code yX7_thrown cX7_thrown 1 (some .int) :: ([.fieldLink RX7 1 "NearTreeModel" "thrown" "I"] ++ wsX70)
def wsX7_in : List Cond := .code yX7_in cX7_in 6 (some .boolean) :: ([])
def wsX7_init_r1 : List Cond := [Cond.methodLink RX7 7 objectInit, Cond.instanceMethod objectInit, Cond.code objectInit ⟨#[0xb1]⟩ 1 none, Cond.arrayClass .boolean, Cond.fieldLink RX7 13 "NearTreeModel" "isLive" "[Z", Cond.arrayClass .int, Cond.fieldLink RX7 17 "NearTreeModel" "place" "[I", Cond.fieldLink RX7 21 "NearTreeModel" "nodeOf" "[I", Cond.fieldLink RX7 24 "NearTreeModel" "isUsed" "[Z", Cond.fieldLink RX7 27 "NearTreeModel" "idOf" "[I", Cond.fieldLink RX7 30 "NearTreeModel" "spot" "[I", Cond.fieldLink RX7 33 "NearTreeModel" "isThere" "[Z", Cond.fieldLink RX7 36 "NearTreeModel" "left" "[I", Cond.fieldLink RX7 39 "NearTreeModel" "right" "[I", Cond.fieldLink RX7 42 "NearTreeModel" "up" "[I", Cond.fieldLink RX7 45 "NearTreeModel" "root" "I", Cond.fieldLink RX7 48 "NearTreeModel" "way" "[I", Cond.fieldLink RX7 51 "NearTreeModel" "toDo" "[I", Cond.fieldLink RX7 54 "NearTreeModel" "ids" "[I", Cond.fieldLink RX7 57 "NearTreeModel" "from" "[I", Cond.fieldLink RX7 60 "NearTreeModel" "end" "[I", Cond.fieldLink RX7 63 "NearTreeModel" "above" "[I", Cond.fieldLink RX7 66 "NearTreeModel" "onLeft" "[Z", Cond.fieldLink RX7 69 "NearTreeModel" "aim" "[I"]
def wsX7_init_r2 : List Cond := [Cond.fieldLink RX7 72 "NearTreeModel" "list" "[I", Cond.arrayClass .long, Cond.fieldLink RX7 75 "NearTreeModel" "far" "[J", Cond.fieldLink RX7 79 "NearTreeModel" "isLookedAt" "[Z", Cond.fieldLink RX7 82 "NearTreeModel" "isMet" "[Z", Cond.fieldLink RX7 85 "NearTreeModel" "d" "I"]
def wsX7_init : List Cond := .code yX7_init cX7_init 2 none :: ((wsX7_init_r1 ++ wsX7_init_r2) ++ wsX70)
def wsX7_isId : List Cond := .code yX7_isId cX7_isId 1 (some .boolean) :: ([.constantLong RX7 88 (99), .methodLink RX7 90 yX7_in, .static yX7_in, .initialized RX7, .code yX7_in cX7_in 6 (some .boolean)])
def wsX7_areNumbers : List Cond := .code yX7_areNumbers cX7_areNumbers 5 (some .boolean) :: ([.constantLong RX7 94 (-10000), .constantLong RX7 96 (10000), .fieldLink RX7 85 "NearTreeModel" "d" "I", .methodLink RX7 90 yX7_in, .static yX7_in, .initialized RX7, .code yX7_in cX7_in 6 (some .boolean)] ++ wsX70)
def wsX7_depth : List Cond := .code yX7_depth cX7_depth 4 (some .int) :: ([.fieldLink RX7 42 "NearTreeModel" "up" "[I"] ++ wsX70)
def wsX7_walkFrom : List Cond := .code yX7_walkFrom cX7_walkFrom 5 (some .int) :: ([.fieldLink RX7 51 "NearTreeModel" "toDo" "[I", .fieldLink RX7 48 "NearTreeModel" "way" "[I", .fieldLink RX7 39 "NearTreeModel" "right" "[I", .fieldLink RX7 36 "NearTreeModel" "left" "[I"] ++ wsX70)
def wsX7_newNode : List Cond := .code yX7_newNode cX7_newNode 5 (some .int) :: ([.fieldLink RX7 24 "NearTreeModel" "isUsed" "[Z", .fieldLink RX7 27 "NearTreeModel" "idOf" "[I", .fieldLink RX7 30 "NearTreeModel" "spot" "[I", .fieldLink RX7 17 "NearTreeModel" "place" "[I", .fieldLink RX7 33 "NearTreeModel" "isThere" "[Z", .fieldLink RX7 36 "NearTreeModel" "left" "[I", .fieldLink RX7 39 "NearTreeModel" "right" "[I", .fieldLink RX7 42 "NearTreeModel" "up" "[I", .fieldLink RX7 21 "NearTreeModel" "nodeOf" "[I"] ++ wsX70)
def wsX7_hang : List Cond := .code yX7_hang cX7_hang 4 none :: ([.fieldLink RX7 45 "NearTreeModel" "root" "I", .fieldLink RX7 36 "NearTreeModel" "left" "[I", .fieldLink RX7 39 "NearTreeModel" "right" "[I"] ++ wsX70)
def wsX7_isLess : List Cond := .code yX7_isLess cX7_isLess 6 (some .boolean) :: ([.fieldLink RX7 17 "NearTreeModel" "place" "[I", .fieldLink RX7 30 "NearTreeModel" "spot" "[I", .fieldLink RX7 27 "NearTreeModel" "idOf" "[I"] ++ wsX70)
def wsX7_sortBy : List Cond := .code yX7_sortBy cX7_sortBy 7 none :: ([.fieldLink RX7 54 "NearTreeModel" "ids" "[I", .fieldLink RX7 17 "NearTreeModel" "place" "[I"] ++ wsX70)
def wsX7_build_r1 : List Cond := [Cond.fieldLink RX7 42 "NearTreeModel" "up" "[I", Cond.fieldLink RX7 36 "NearTreeModel" "left" "[I", Cond.fieldLink RX7 24 "NearTreeModel" "isUsed" "[Z", Cond.fieldLink RX7 48 "NearTreeModel" "way" "[I", Cond.fieldLink RX7 33 "NearTreeModel" "isThere" "[Z", Cond.fieldLink RX7 54 "NearTreeModel" "ids" "[I", Cond.fieldLink RX7 27 "NearTreeModel" "idOf" "[I", Cond.fieldLink RX7 57 "NearTreeModel" "from" "[I", Cond.fieldLink RX7 60 "NearTreeModel" "end" "[I", Cond.fieldLink RX7 63 "NearTreeModel" "above" "[I", Cond.fieldLink RX7 66 "NearTreeModel" "onLeft" "[Z", Cond.fieldLink RX7 85 "NearTreeModel" "d" "I", Cond.methodLink RX7 98 yX7_walkFrom, Cond.instanceMethod yX7_walkFrom, Cond.selects RX7 yX7_walkFrom yX7_walkFrom, Cond.initialized RX7, Cond.code yX7_walkFrom cX7_walkFrom 5 (some .int), Cond.fieldLink RX7 51 "NearTreeModel" "toDo" "[I", Cond.fieldLink RX7 39 "NearTreeModel" "right" "[I", Cond.methodLink RX7 102 yX7_hang, Cond.instanceMethod yX7_hang, Cond.selects RX7 yX7_hang yX7_hang, Cond.code yX7_hang cX7_hang 4 none, Cond.fieldLink RX7 45 "NearTreeModel" "root" "I"]
def wsX7_build_r2 : List Cond := [Cond.methodLink RX7 106 yX7_depth, Cond.instanceMethod yX7_depth, Cond.selects RX7 yX7_depth yX7_depth, Cond.code yX7_depth cX7_depth 4 (some .int), Cond.methodLink RX7 109 yX7_sortBy, Cond.instanceMethod yX7_sortBy, Cond.selects RX7 yX7_sortBy yX7_sortBy, Cond.code yX7_sortBy cX7_sortBy 7 none, Cond.fieldLink RX7 17 "NearTreeModel" "place" "[I", Cond.methodLink RX7 113 yX7_newNode, Cond.instanceMethod yX7_newNode, Cond.selects RX7 yX7_newNode yX7_newNode, Cond.code yX7_newNode cX7_newNode 5 (some .int), Cond.fieldLink RX7 30 "NearTreeModel" "spot" "[I", Cond.fieldLink RX7 21 "NearTreeModel" "nodeOf" "[I"]
def wsX7_build : List Cond := .code yX7_build cX7_build 14 (some .int) :: ((wsX7_build_r1 ++ wsX7_build_r2) ++ wsX70)
def wsX7_put_r1 : List Cond := [Cond.fieldLink RX7 13 "NearTreeModel" "isLive" "[Z", Cond.fieldLink RX7 125 "NearTreeModel" "lives" "I", Cond.fieldLink RX7 1 "NearTreeModel" "thrown" "I", Cond.fieldLink RX7 17 "NearTreeModel" "place" "[I", Cond.fieldLink RX7 85 "NearTreeModel" "d" "I", Cond.fieldLink RX7 45 "NearTreeModel" "root" "I", Cond.fieldLink RX7 36 "NearTreeModel" "left" "[I", Cond.fieldLink RX7 39 "NearTreeModel" "right" "[I", Cond.fieldLink RX7 42 "NearTreeModel" "up" "[I", Cond.fieldLink RX7 132 "NearTreeModel" "builtByMore" "I", Cond.fieldLink RX7 135 "NearTreeModel" "builtPoints" "I", Cond.methodLink RX7 117 yX7_isId, Cond.static yX7_isId, Cond.initialized RX7, Cond.code yX7_isId cX7_isId 1 (some .boolean), Cond.constantLong RX7 88 (99), Cond.methodLink RX7 90 yX7_in, Cond.static yX7_in, Cond.code yX7_in cX7_in 6 (some .boolean), Cond.methodLink RX7 121 yX7_areNumbers, Cond.instanceMethod yX7_areNumbers, Cond.selects RX7 yX7_areNumbers yX7_areNumbers, Cond.code yX7_areNumbers cX7_areNumbers 5 (some .boolean), Cond.constantLong RX7 94 (-10000)]
def wsX7_put_r2 : List Cond := [Cond.constantLong RX7 96 (10000), Cond.methodLink RX7 128 yX7_isLess, Cond.instanceMethod yX7_isLess, Cond.selects RX7 yX7_isLess yX7_isLess, Cond.code yX7_isLess cX7_isLess 6 (some .boolean), Cond.fieldLink RX7 30 "NearTreeModel" "spot" "[I", Cond.fieldLink RX7 27 "NearTreeModel" "idOf" "[I", Cond.methodLink RX7 113 yX7_newNode, Cond.instanceMethod yX7_newNode, Cond.selects RX7 yX7_newNode yX7_newNode, Cond.code yX7_newNode cX7_newNode 5 (some .int), Cond.fieldLink RX7 24 "NearTreeModel" "isUsed" "[Z", Cond.fieldLink RX7 33 "NearTreeModel" "isThere" "[Z", Cond.fieldLink RX7 21 "NearTreeModel" "nodeOf" "[I", Cond.methodLink RX7 102 yX7_hang, Cond.instanceMethod yX7_hang, Cond.selects RX7 yX7_hang yX7_hang, Cond.code yX7_hang cX7_hang 4 none, Cond.methodLink RX7 98 yX7_walkFrom, Cond.instanceMethod yX7_walkFrom, Cond.selects RX7 yX7_walkFrom yX7_walkFrom, Cond.code yX7_walkFrom cX7_walkFrom 5 (some .int), Cond.fieldLink RX7 51 "NearTreeModel" "toDo" "[I", Cond.fieldLink RX7 48 "NearTreeModel" "way" "[I"]
def wsX7_put_r3 : List Cond := [Cond.methodLink RX7 138 yX7_build, Cond.instanceMethod yX7_build, Cond.selects RX7 yX7_build yX7_build, Cond.code yX7_build cX7_build 14 (some .int), Cond.fieldLink RX7 54 "NearTreeModel" "ids" "[I", Cond.fieldLink RX7 57 "NearTreeModel" "from" "[I", Cond.fieldLink RX7 60 "NearTreeModel" "end" "[I", Cond.fieldLink RX7 63 "NearTreeModel" "above" "[I", Cond.fieldLink RX7 66 "NearTreeModel" "onLeft" "[Z", Cond.methodLink RX7 106 yX7_depth, Cond.instanceMethod yX7_depth, Cond.selects RX7 yX7_depth yX7_depth, Cond.code yX7_depth cX7_depth 4 (some .int), Cond.methodLink RX7 109 yX7_sortBy, Cond.instanceMethod yX7_sortBy, Cond.selects RX7 yX7_sortBy yX7_sortBy, Cond.code yX7_sortBy cX7_sortBy 7 none]
def wsX7_put : List Cond := .code yX7_put cX7_put 16 (some .int) :: ((wsX7_put_r1 ++ (wsX7_put_r2 ++ wsX7_put_r3)) ++ wsX70)
def wsX7_drop_r1 : List Cond := [Cond.fieldLink RX7 13 "NearTreeModel" "isLive" "[Z", Cond.fieldLink RX7 1 "NearTreeModel" "thrown" "I", Cond.fieldLink RX7 125 "NearTreeModel" "lives" "I", Cond.fieldLink RX7 33 "NearTreeModel" "isThere" "[Z", Cond.fieldLink RX7 21 "NearTreeModel" "nodeOf" "[I", Cond.fieldLink RX7 45 "NearTreeModel" "root" "I", Cond.fieldLink RX7 141 "NearTreeModel" "builtByLess" "I", Cond.fieldLink RX7 135 "NearTreeModel" "builtPoints" "I", Cond.methodLink RX7 117 yX7_isId, Cond.static yX7_isId, Cond.initialized RX7, Cond.code yX7_isId cX7_isId 1 (some .boolean), Cond.constantLong RX7 88 (99), Cond.methodLink RX7 90 yX7_in, Cond.static yX7_in, Cond.code yX7_in cX7_in 6 (some .boolean), Cond.methodLink RX7 98 yX7_walkFrom, Cond.instanceMethod yX7_walkFrom, Cond.selects RX7 yX7_walkFrom yX7_walkFrom, Cond.code yX7_walkFrom cX7_walkFrom 5 (some .int), Cond.fieldLink RX7 51 "NearTreeModel" "toDo" "[I", Cond.fieldLink RX7 48 "NearTreeModel" "way" "[I", Cond.fieldLink RX7 39 "NearTreeModel" "right" "[I", Cond.fieldLink RX7 36 "NearTreeModel" "left" "[I"]
def wsX7_drop_r2 : List Cond := [Cond.methodLink RX7 138 yX7_build, Cond.instanceMethod yX7_build, Cond.selects RX7 yX7_build yX7_build, Cond.code yX7_build cX7_build 14 (some .int), Cond.fieldLink RX7 42 "NearTreeModel" "up" "[I", Cond.fieldLink RX7 24 "NearTreeModel" "isUsed" "[Z", Cond.fieldLink RX7 54 "NearTreeModel" "ids" "[I", Cond.fieldLink RX7 27 "NearTreeModel" "idOf" "[I", Cond.fieldLink RX7 57 "NearTreeModel" "from" "[I", Cond.fieldLink RX7 60 "NearTreeModel" "end" "[I", Cond.fieldLink RX7 63 "NearTreeModel" "above" "[I", Cond.fieldLink RX7 66 "NearTreeModel" "onLeft" "[Z", Cond.fieldLink RX7 85 "NearTreeModel" "d" "I", Cond.methodLink RX7 102 yX7_hang, Cond.instanceMethod yX7_hang, Cond.selects RX7 yX7_hang yX7_hang, Cond.code yX7_hang cX7_hang 4 none, Cond.methodLink RX7 106 yX7_depth, Cond.instanceMethod yX7_depth, Cond.selects RX7 yX7_depth yX7_depth, Cond.code yX7_depth cX7_depth 4 (some .int), Cond.methodLink RX7 109 yX7_sortBy, Cond.instanceMethod yX7_sortBy, Cond.selects RX7 yX7_sortBy yX7_sortBy]
def wsX7_drop_r3 : List Cond := [Cond.code yX7_sortBy cX7_sortBy 7 none, Cond.fieldLink RX7 17 "NearTreeModel" "place" "[I", Cond.methodLink RX7 113 yX7_newNode, Cond.instanceMethod yX7_newNode, Cond.selects RX7 yX7_newNode yX7_newNode, Cond.code yX7_newNode cX7_newNode 5 (some .int), Cond.fieldLink RX7 30 "NearTreeModel" "spot" "[I"]
def wsX7_drop : List Cond := .code yX7_drop cX7_drop 3 (some .int) :: ((wsX7_drop_r1 ++ (wsX7_drop_r2 ++ wsX7_drop_r3)) ++ wsX70)
def wsX7_at : List Cond := .code yX7_at cX7_at 3 (some .int) :: ([.constantLong RX7 144 (3), .fieldLink RX7 13 "NearTreeModel" "isLive" "[Z", .fieldLink RX7 1 "NearTreeModel" "thrown" "I", .fieldLink RX7 17 "NearTreeModel" "place" "[I", .methodLink RX7 117 yX7_isId, .static yX7_isId, .initialized RX7, .code yX7_isId cX7_isId 1 (some .boolean), .constantLong RX7 88 (99), .methodLink RX7 90 yX7_in, .static yX7_in, .code yX7_in cX7_in 6 (some .boolean)] ++ wsX70)
def wsX7_aimAt : List Cond := .code yX7_aimAt cX7_aimAt 5 none :: ([.fieldLink RX7 69 "NearTreeModel" "aim" "[I", .fieldLink RX7 85 "NearTreeModel" "d" "I"] ++ wsX70)
def wsX7_away : List Cond := .code yX7_away cX7_away 7 (some .long) :: ([.fieldLink RX7 69 "NearTreeModel" "aim" "[I", .fieldLink RX7 17 "NearTreeModel" "place" "[I"] ++ wsX70)
def wsX7_come : List Cond := .code yX7_come cX7_come 8 none :: ([.fieldLink RX7 150 "NearTreeModel" "listed" "I", .fieldLink RX7 75 "NearTreeModel" "far" "[J", .fieldLink RX7 72 "NearTreeModel" "list" "[I", .methodLink RX7 146 yX7_away, .instanceMethod yX7_away, .selects RX7 yX7_away yX7_away, .initialized RX7, .code yX7_away cX7_away 7 (some .long), .fieldLink RX7 69 "NearTreeModel" "aim" "[I", .fieldLink RX7 17 "NearTreeModel" "place" "[I"] ++ wsX70)
def wsX7_nearest_r1 : List Cond := [Cond.constantLong RX7 153 (100), Cond.fieldLink RX7 1 "NearTreeModel" "thrown" "I", Cond.fieldLink RX7 150 "NearTreeModel" "listed" "I", Cond.fieldLink RX7 159 "NearTreeModel" "looked" "I", Cond.fieldLink RX7 45 "NearTreeModel" "root" "I", Cond.fieldLink RX7 51 "NearTreeModel" "toDo" "[I", Cond.fieldLink RX7 79 "NearTreeModel" "isLookedAt" "[Z", Cond.fieldLink RX7 85 "NearTreeModel" "d" "I", Cond.fieldLink RX7 69 "NearTreeModel" "aim" "[I", Cond.fieldLink RX7 30 "NearTreeModel" "spot" "[I", Cond.fieldLink RX7 33 "NearTreeModel" "isThere" "[Z", Cond.fieldLink RX7 27 "NearTreeModel" "idOf" "[I", Cond.fieldLink RX7 36 "NearTreeModel" "left" "[I", Cond.fieldLink RX7 39 "NearTreeModel" "right" "[I", Cond.fieldLink RX7 75 "NearTreeModel" "far" "[J", Cond.methodLink RX7 90 yX7_in, Cond.static yX7_in, Cond.initialized RX7, Cond.code yX7_in cX7_in 6 (some .boolean), Cond.methodLink RX7 121 yX7_areNumbers, Cond.instanceMethod yX7_areNumbers, Cond.selects RX7 yX7_areNumbers yX7_areNumbers, Cond.code yX7_areNumbers cX7_areNumbers 5 (some .boolean), Cond.constantLong RX7 94 (-10000)]
def wsX7_nearest_r2 : List Cond := [Cond.constantLong RX7 96 (10000), Cond.methodLink RX7 155 yX7_aimAt, Cond.instanceMethod yX7_aimAt, Cond.selects RX7 yX7_aimAt yX7_aimAt, Cond.code yX7_aimAt cX7_aimAt 5 none, Cond.methodLink RX7 106 yX7_depth, Cond.instanceMethod yX7_depth, Cond.selects RX7 yX7_depth yX7_depth, Cond.code yX7_depth cX7_depth 4 (some .int), Cond.fieldLink RX7 42 "NearTreeModel" "up" "[I", Cond.methodLink RX7 162 yX7_come, Cond.instanceMethod yX7_come, Cond.selects RX7 yX7_come yX7_come, Cond.code yX7_come cX7_come 8 none, Cond.fieldLink RX7 72 "NearTreeModel" "list" "[I", Cond.methodLink RX7 146 yX7_away, Cond.instanceMethod yX7_away, Cond.selects RX7 yX7_away yX7_away, Cond.code yX7_away cX7_away 7 (some .long), Cond.fieldLink RX7 17 "NearTreeModel" "place" "[I"]
def wsX7_nearest : List Cond := .code yX7_nearest cX7_nearest 14 (some .int) :: ((wsX7_nearest_r1 ++ wsX7_nearest_r2) ++ wsX70)
def wsX7_within_r1 : List Cond := [Cond.fieldLink RX7 1 "NearTreeModel" "thrown" "I", Cond.fieldLink RX7 150 "NearTreeModel" "listed" "I", Cond.fieldLink RX7 13 "NearTreeModel" "isLive" "[Z", Cond.methodLink RX7 121 yX7_areNumbers, Cond.instanceMethod yX7_areNumbers, Cond.selects RX7 yX7_areNumbers yX7_areNumbers, Cond.initialized RX7, Cond.code yX7_areNumbers cX7_areNumbers 5 (some .boolean), Cond.constantLong RX7 94 (-10000), Cond.constantLong RX7 96 (10000), Cond.fieldLink RX7 85 "NearTreeModel" "d" "I", Cond.methodLink RX7 90 yX7_in, Cond.static yX7_in, Cond.code yX7_in cX7_in 6 (some .boolean), Cond.methodLink RX7 155 yX7_aimAt, Cond.instanceMethod yX7_aimAt, Cond.selects RX7 yX7_aimAt yX7_aimAt, Cond.code yX7_aimAt cX7_aimAt 5 none, Cond.fieldLink RX7 69 "NearTreeModel" "aim" "[I", Cond.methodLink RX7 146 yX7_away, Cond.instanceMethod yX7_away, Cond.selects RX7 yX7_away yX7_away, Cond.code yX7_away cX7_away 7 (some .long), Cond.fieldLink RX7 17 "NearTreeModel" "place" "[I"]
def wsX7_within_r2 : List Cond := [Cond.methodLink RX7 162 yX7_come, Cond.instanceMethod yX7_come, Cond.selects RX7 yX7_come yX7_come, Cond.code yX7_come cX7_come 8 none, Cond.fieldLink RX7 75 "NearTreeModel" "far" "[J", Cond.fieldLink RX7 72 "NearTreeModel" "list" "[I"]
def wsX7_within : List Cond := .code yX7_within cX7_within 8 (some .int) :: ((wsX7_within_r1 ++ wsX7_within_r2) ++ wsX70)
def wsX7_listed : List Cond := .code yX7_listed cX7_listed 2 (some .int) :: ([.fieldLink RX7 150 "NearTreeModel" "listed" "I", .fieldLink RX7 1 "NearTreeModel" "thrown" "I", .fieldLink RX7 72 "NearTreeModel" "list" "[I", .methodLink RX7 90 yX7_in, .static yX7_in, .initialized RX7, .code yX7_in cX7_in 6 (some .boolean)] ++ wsX70)
def wsX7_distance : List Cond := .code yX7_distance cX7_distance 2 (some .long) :: ([.fieldLink RX7 150 "NearTreeModel" "listed" "I", .fieldLink RX7 1 "NearTreeModel" "thrown" "I", .fieldLink RX7 75 "NearTreeModel" "far" "[J", .methodLink RX7 90 yX7_in, .static yX7_in, .initialized RX7, .code yX7_in cX7_in 6 (some .boolean)] ++ wsX70)
def wsX7_looked : List Cond := .code yX7_looked cX7_looked 1 (some .int) :: ([.fieldLink RX7 1 "NearTreeModel" "thrown" "I", .fieldLink RX7 159 "NearTreeModel" "looked" "I"] ++ wsX70)
def wsX7_inBox : List Cond := .code yX7_inBox cX7_inBox 9 (some .int) :: ([.fieldLink RX7 85 "NearTreeModel" "d" "I", .fieldLink RX7 1 "NearTreeModel" "thrown" "I", .fieldLink RX7 13 "NearTreeModel" "isLive" "[Z", .fieldLink RX7 17 "NearTreeModel" "place" "[I", .methodLink RX7 90 yX7_in, .static yX7_in, .initialized RX7, .code yX7_in cX7_in 6 (some .boolean)] ++ wsX70)
def wsX7_between : List Cond := .code yX7_between cX7_between 8 (some .long) :: ([.fieldLink RX7 17 "NearTreeModel" "place" "[I"] ++ wsX70)
def wsX7_pair : List Cond := .code yX7_pair cX7_pair 6 (some .long) :: ([.constantLong RX7 166 (2), .fieldLink RX7 125 "NearTreeModel" "lives" "I", .fieldLink RX7 1 "NearTreeModel" "thrown" "I", .fieldLink RX7 13 "NearTreeModel" "isLive" "[Z", .methodLink RX7 90 yX7_in, .static yX7_in, .initialized RX7, .code yX7_in cX7_in 6 (some .boolean), .methodLink RX7 168 yX7_between, .instanceMethod yX7_between, .selects RX7 yX7_between yX7_between, .code yX7_between cX7_between 8 (some .long), .fieldLink RX7 17 "NearTreeModel" "place" "[I"] ++ wsX70)
def wsX7_parts : List Cond := .code yX7_parts cX7_parts 8 (some .int) :: ([.fieldLink RX7 1 "NearTreeModel" "thrown" "I", .fieldLink RX7 82 "NearTreeModel" "isMet" "[Z", .fieldLink RX7 13 "NearTreeModel" "isLive" "[Z", .fieldLink RX7 54 "NearTreeModel" "ids" "[I", .methodLink RX7 168 yX7_between, .instanceMethod yX7_between, .selects RX7 yX7_between yX7_between, .initialized RX7, .code yX7_between cX7_between 8 (some .long), .fieldLink RX7 17 "NearTreeModel" "place" "[I"] ++ wsX70)
def wsX7_span : List Cond := .code yX7_span cX7_span 9 (some .long) :: ([.fieldLink RX7 1 "NearTreeModel" "thrown" "I", .fieldLink RX7 82 "NearTreeModel" "isMet" "[Z", .fieldLink RX7 13 "NearTreeModel" "isLive" "[Z", .fieldLink RX7 54 "NearTreeModel" "ids" "[I", .fieldLink RX7 125 "NearTreeModel" "lives" "I", .methodLink RX7 168 yX7_between, .instanceMethod yX7_between, .selects RX7 yX7_between yX7_between, .initialized RX7, .code yX7_between cX7_between 8 (some .long), .fieldLink RX7 17 "NearTreeModel" "place" "[I"] ++ wsX70)
def wsX7_node_r1 : List Cond := [Cond.constantLong RX7 172 (4), Cond.fieldLink RX7 13 "NearTreeModel" "isLive" "[Z", Cond.fieldLink RX7 1 "NearTreeModel" "thrown" "I", Cond.fieldLink RX7 21 "NearTreeModel" "nodeOf" "[I", Cond.fieldLink RX7 42 "NearTreeModel" "up" "[I", Cond.fieldLink RX7 27 "NearTreeModel" "idOf" "[I", Cond.fieldLink RX7 33 "NearTreeModel" "isThere" "[Z", Cond.fieldLink RX7 36 "NearTreeModel" "left" "[I", Cond.methodLink RX7 117 yX7_isId, Cond.static yX7_isId, Cond.initialized RX7, Cond.code yX7_isId cX7_isId 1 (some .boolean), Cond.constantLong RX7 88 (99), Cond.methodLink RX7 90 yX7_in, Cond.static yX7_in, Cond.code yX7_in cX7_in 6 (some .boolean), Cond.methodLink RX7 106 yX7_depth, Cond.instanceMethod yX7_depth, Cond.selects RX7 yX7_depth yX7_depth, Cond.code yX7_depth cX7_depth 4 (some .int), Cond.methodLink RX7 98 yX7_walkFrom, Cond.instanceMethod yX7_walkFrom, Cond.selects RX7 yX7_walkFrom yX7_walkFrom, Cond.code yX7_walkFrom cX7_walkFrom 5 (some .int)]
def wsX7_node_r2 : List Cond := [Cond.fieldLink RX7 51 "NearTreeModel" "toDo" "[I", Cond.fieldLink RX7 48 "NearTreeModel" "way" "[I", Cond.fieldLink RX7 39 "NearTreeModel" "right" "[I"]
def wsX7_node : List Cond := .code yX7_node cX7_node 5 (some .int) :: ((wsX7_node_r1 ++ wsX7_node_r2) ++ wsX70)
def wsX7_walk : List Cond := .code yX7_walk cX7_walk 3 (some .int) :: ([.fieldLink RX7 45 "NearTreeModel" "root" "I", .fieldLink RX7 1 "NearTreeModel" "thrown" "I", .fieldLink RX7 33 "NearTreeModel" "isThere" "[Z", .fieldLink RX7 48 "NearTreeModel" "way" "[I", .fieldLink RX7 27 "NearTreeModel" "idOf" "[I", .methodLink RX7 98 yX7_walkFrom, .instanceMethod yX7_walkFrom, .selects RX7 yX7_walkFrom yX7_walkFrom, .initialized RX7, .code yX7_walkFrom cX7_walkFrom 5 (some .int), .fieldLink RX7 51 "NearTreeModel" "toDo" "[I", .fieldLink RX7 39 "NearTreeModel" "right" "[I", .fieldLink RX7 36 "NearTreeModel" "left" "[I", .methodLink RX7 90 yX7_in, .static yX7_in, .code yX7_in cX7_in 6 (some .boolean)] ++ wsX70)
def wsX7_count_r1 : List Cond := [Cond.constantLong RX7 174 (7), Cond.fieldLink RX7 1 "NearTreeModel" "thrown" "I", Cond.fieldLink RX7 45 "NearTreeModel" "root" "I", Cond.fieldLink RX7 48 "NearTreeModel" "way" "[I", Cond.fieldLink RX7 85 "NearTreeModel" "d" "I", Cond.fieldLink RX7 125 "NearTreeModel" "lives" "I", Cond.fieldLink RX7 132 "NearTreeModel" "builtByMore" "I", Cond.fieldLink RX7 141 "NearTreeModel" "builtByLess" "I", Cond.fieldLink RX7 135 "NearTreeModel" "builtPoints" "I", Cond.methodLink RX7 90 yX7_in, Cond.static yX7_in, Cond.initialized RX7, Cond.code yX7_in cX7_in 6 (some .boolean), Cond.methodLink RX7 98 yX7_walkFrom, Cond.instanceMethod yX7_walkFrom, Cond.selects RX7 yX7_walkFrom yX7_walkFrom, Cond.code yX7_walkFrom cX7_walkFrom 5 (some .int), Cond.fieldLink RX7 51 "NearTreeModel" "toDo" "[I", Cond.fieldLink RX7 39 "NearTreeModel" "right" "[I", Cond.fieldLink RX7 36 "NearTreeModel" "left" "[I", Cond.methodLink RX7 106 yX7_depth, Cond.instanceMethod yX7_depth, Cond.selects RX7 yX7_depth yX7_depth, Cond.code yX7_depth cX7_depth 4 (some .int)]
def wsX7_count_r2 : List Cond := [Cond.fieldLink RX7 42 "NearTreeModel" "up" "[I"]
def wsX7_count : List Cond := .code yX7_count cX7_count 5 (some .int) :: ((wsX7_count_r1 ++ wsX7_count_r2) ++ wsX70)
def wsJ9_max_7cf53 : List Cond := .code yJ9_max_7cf53 cJ9_max_7cf53 2 (some .int) :: ([])
def wsJ9_min_7cf53 : List Cond := .code yJ9_min_7cf53 cJ9_min_7cf53 2 (some .int) :: ([])
def wsJ9_min_f86c9 : List Cond := .code yJ9_min_f86c9 cJ9_min_f86c9 4 (some .long) :: ([])
def wsL_cell : List Cond := .code yL_cell cL_cell 2 (some .int) :: ([])
def wsL_put_r1 : List Cond := [Cond.classLink RL 13 "java/lang/IllegalArgumentException", Cond.classLink RL 15 "java/lang/IllegalStateException", Cond.methodLink RL 7 yX6_put, Cond.instanceMethod yX6_put, Cond.selects RX6 yX6_put yX6_put, Cond.initialized RX6, Cond.code yX6_put cX6_put 8 (some .int), Cond.classLink RX6 59 "java/lang/IllegalArgumentException", Cond.initialized "java/lang/IllegalArgumentException", Cond.classLink RX6 69 "java/lang/IllegalStateException", Cond.initialized "java/lang/IllegalStateException", Cond.fieldLink RX6 24 "NearTree" "liveById" "[LNearTree$Node;", Cond.fieldLink RX6 66 "NearTree" "liveCount" "I", Cond.classLink RX6 22 RX2, Cond.instantiable RX2 9, Cond.initialized RX2, Cond.classLink RX6 74 RX3, Cond.instantiable RX3 4, Cond.initialized RX3, Cond.fieldLink RX6 18 "NearTree" "axes" "I", Cond.fieldLink RX6 33 "NearTree" "tree" "LNearTree$Tree;", Cond.fieldLink RX6 90 "NearTree" "builtByComing" "I", Cond.methodLink RX6 51 yX6_isId, Cond.static yX6_isId]
def wsL_put_r2 : List Cond := [Cond.code yX6_isId cX6_isId 1 (some .boolean), Cond.methodLink RX6 55 yX6_isPlace, Cond.instanceMethod yX6_isPlace, Cond.selects RX6 yX6_isPlace yX6_isPlace, Cond.code yX6_isPlace cX6_isPlace 5 (some .boolean), Cond.methodLink RX6 251 yX6_isNumber, Cond.static yX6_isNumber, Cond.code yX6_isNumber cX6_isNumber 1 (some .boolean), Cond.methodLink RX6 76 yX3_init, Cond.instanceMethod yX3_init, Cond.code yX3_init cX3_init 6 none, Cond.methodLink RX3 1 objectInit, Cond.instanceMethod objectInit, Cond.code objectInit ⟨#[0xb1]⟩ 1 none, Cond.fieldLink RX3 7 "NearTree$Place" "x" "I", Cond.fieldLink RX3 13 "NearTree$Place" "y" "I", Cond.fieldLink RX3 16 "NearTree$Place" "z" "I", Cond.fieldLink RX3 19 "NearTree$Place" "w" "I", Cond.methodLink RX6 79 yX2_init, Cond.instanceMethod yX2_init, Cond.code yX2_init cX2_init 3 none, Cond.methodLink RX2 1 objectInit, Cond.fieldLink RX2 7 "NearTree$Node" "id" "I", Cond.fieldLink RX2 13 "NearTree$Node" "place" "LNearTree$Place;"]
def wsL_put_r3 : List Cond := [Cond.fieldLink RX2 17 "NearTree$Node" "size" "I", Cond.methodLink RX6 82 yX5_hang, Cond.instanceMethod yX5_hang, Cond.selects RX5 yX5_hang yX5_hang, Cond.initialized RX5, Cond.code yX5_hang cX5_hang 4 none, Cond.fieldLink RX5 21 "NearTree$Tree" "root" "LNearTree$Node;", Cond.fieldLink RX5 29 "NearTree$Node" "size" "I", Cond.fieldLink RX5 36 "NearTree$Node" "above" "LNearTree$Node;", Cond.fieldLink RX5 39 "NearTree$Node" "depth" "I", Cond.fieldLink RX5 42 "NearTree$Node" "axis" "I", Cond.fieldLink RX5 53 "NearTree$Node" "left" "LNearTree$Node;", Cond.fieldLink RX5 56 "NearTree$Node" "right" "LNearTree$Node;", Cond.methodLink RX5 32 yX2_sideOf, Cond.instanceMethod yX2_sideOf, Cond.selects RX2 yX2_sideOf yX2_sideOf, Cond.code yX2_sideOf cX2_sideOf 2 (some (.object "NearTree$Node")), Cond.fieldLink RX2 26 "NearTree$Node" "axis" "I", Cond.fieldLink RX2 33 "NearTree$Node" "left" "LNearTree$Node;", Cond.fieldLink RX2 37 "NearTree$Node" "right" "LNearTree$Node;", Cond.methodLink RX2 29 yX2_isLess, Cond.instanceMethod yX2_isLess, Cond.selects RX2 yX2_isLess yX2_isLess, Cond.code yX2_isLess cX2_isLess 5 (some .boolean)]
def wsL_put_r4 : List Cond := [Cond.methodLink RX2 20 yX3_number, Cond.instanceMethod yX3_number, Cond.selects RX3 yX3_number yX3_number, Cond.code yX3_number cX3_number 2 (some .int), Cond.methodLink RX5 45 yX5_axisBehind, Cond.instanceMethod yX5_axisBehind, Cond.selects RX5 yX5_axisBehind yX5_axisBehind, Cond.code yX5_axisBehind cX5_axisBehind 2 (some .int), Cond.fieldLink RX5 9 "NearTree$Tree" "axes" "I", Cond.methodLink RX5 49 yX2_isLess, Cond.methodLink RX6 86 yX5_firstLeaningAbove, Cond.instanceMethod yX5_firstLeaningAbove, Cond.selects RX5 yX5_firstLeaningAbove yX5_firstLeaningAbove, Cond.code yX5_firstLeaningAbove cX5_firstLeaningAbove 3 (some (.object "NearTree$Node")), Cond.methodLink RX5 59 yX2_leans, Cond.instanceMethod yX2_leans, Cond.selects RX2 yX2_leans yX2_leans, Cond.code yX2_leans cX2_leans 1 (some .boolean), Cond.methodLink RX2 44 Lib.Math.max.name, Cond.static Lib.Math.max.name, Cond.initialized "java/lang/Math", Cond.code Lib.Math.max.name Lib.Math.max.code 2 (some .int), Cond.methodLink RX2 40 yX2_sizeOf, Cond.static yX2_sizeOf]
def wsL_put_r5 : List Cond := [Cond.code yX2_sizeOf cX2_sizeOf 1 (some .int), Cond.methodLink RX6 93 yX5_buildAnew, Cond.instanceMethod yX5_buildAnew, Cond.selects RX5 yX5_buildAnew yX5_buildAnew, Cond.code yX5_buildAnew cX5_buildAnew 8 none, Cond.fieldLink RX5 70 "NearTree$Tree" "builtPoints" "I", Cond.methodLink RX5 63 yX5_gatherLive, Cond.instanceMethod yX5_gatherLive, Cond.selects RX5 yX5_gatherLive yX5_gatherLive, Cond.code yX5_gatherLive cX5_gatherLive 5 (some .int), Cond.fieldLink RX5 17 "NearTree$Tree" "row" "[LNearTree$Node;", Cond.fieldLink RX5 77 "NearTree$Node" "dead" "Z", Cond.methodLink RX5 73 yX5_nodeOnWalk, Cond.static yX5_nodeOnWalk, Cond.code yX5_nodeOnWalk cX5_nodeOnWalk 5 (some (.object "NearTree$Node")), Cond.methodLink RX5 25 yX2_sizeOf, Cond.methodLink RX5 66 yX5_build, Cond.instanceMethod yX5_build, Cond.selects RX5 yX5_build yX5_build, Cond.code yX5_build cX5_build 9 (some (.object "NearTree$Node")), Cond.methodLink RX5 81 yX5_order, Cond.instanceMethod yX5_order, Cond.selects RX5 yX5_order yX5_order, Cond.code yX5_order cX5_order 7 none]
def wsL_put_r6 : List Cond := [Cond.methodLink RX5 85 yX5_isAhead, Cond.static yX5_isAhead, Cond.code yX5_isAhead cX5_isAhead 3 (some .boolean)]
def wsL_put : List Cond := .codeWith yL_put cL_put 8 (some .int) [(0, 16, 19, 13), (0, 16, 23, 15)] :: ((wsL_put_r1 ++ (wsL_put_r2 ++ (wsL_put_r3 ++ (wsL_put_r4 ++ (wsL_put_r5 ++ wsL_put_r6))))) ++ wsX60 ++ wsX20 ++ wsX30 ++ wsX50 ++ (vx_atS RX6 63 "java/lang/IllegalArgumentException" ["java/lang/RuntimeException", "java/lang/Exception"]).filter goodWord ++ (vx_atS RX6 73 "java/lang/IllegalStateException" ["java/lang/RuntimeException", "java/lang/Exception"]).filter goodWord)
def wsL_drop_r1 : List Cond := [Cond.classLink RL 13 "java/lang/IllegalArgumentException", Cond.classLink RL 15 "java/lang/IllegalStateException", Cond.methodLink RL 17 yX6_drop, Cond.instanceMethod yX6_drop, Cond.selects RX6 yX6_drop yX6_drop, Cond.initialized RX6, Cond.code yX6_drop cX6_drop 3 (some .int), Cond.classLink RX6 59 "java/lang/IllegalArgumentException", Cond.initialized "java/lang/IllegalArgumentException", Cond.classLink RX6 69 "java/lang/IllegalStateException", Cond.initialized "java/lang/IllegalStateException", Cond.fieldLink RX6 24 "NearTree" "liveById" "[LNearTree$Node;", Cond.fieldLink RX6 100 "NearTree$Node" "dead" "Z", Cond.fieldLink RX6 66 "NearTree" "liveCount" "I", Cond.fieldLink RX6 33 "NearTree" "tree" "LNearTree$Tree;", Cond.fieldLink RX6 111 "NearTree" "builtByGoing" "I", Cond.fieldLink RX6 114 "NearTree$Tree" "root" "LNearTree$Node;", Cond.methodLink RX6 51 yX6_isId, Cond.static yX6_isId, Cond.code yX6_isId cX6_isId 1 (some .boolean), Cond.methodLink RX6 104 yX6_deadCount, Cond.instanceMethod yX6_deadCount, Cond.selects RX6 yX6_deadCount yX6_deadCount, Cond.code yX6_deadCount cX6_deadCount 1 (some .int)]
def wsL_drop_r2 : List Cond := [Cond.methodLink RX6 108 yX5_nodeCount, Cond.instanceMethod yX5_nodeCount, Cond.selects RX5 yX5_nodeCount yX5_nodeCount, Cond.initialized RX5, Cond.code yX5_nodeCount cX5_nodeCount 1 (some .int), Cond.fieldLink RX5 21 "NearTree$Tree" "root" "LNearTree$Node;", Cond.methodLink RX5 25 yX2_sizeOf, Cond.static yX2_sizeOf, Cond.initialized RX2, Cond.code yX2_sizeOf cX2_sizeOf 1 (some .int), Cond.fieldLink RX2 17 "NearTree$Node" "size" "I", Cond.methodLink RX6 93 yX5_buildAnew, Cond.instanceMethod yX5_buildAnew, Cond.selects RX5 yX5_buildAnew yX5_buildAnew, Cond.code yX5_buildAnew cX5_buildAnew 8 none, Cond.fieldLink RX5 36 "NearTree$Node" "above" "LNearTree$Node;", Cond.fieldLink RX5 53 "NearTree$Node" "left" "LNearTree$Node;", Cond.fieldLink RX5 29 "NearTree$Node" "size" "I", Cond.fieldLink RX5 39 "NearTree$Node" "depth" "I", Cond.fieldLink RX5 42 "NearTree$Node" "axis" "I", Cond.fieldLink RX5 56 "NearTree$Node" "right" "LNearTree$Node;", Cond.fieldLink RX5 70 "NearTree$Tree" "builtPoints" "I", Cond.methodLink RX5 63 yX5_gatherLive, Cond.instanceMethod yX5_gatherLive]
def wsL_drop_r3 : List Cond := [Cond.selects RX5 yX5_gatherLive yX5_gatherLive, Cond.code yX5_gatherLive cX5_gatherLive 5 (some .int), Cond.fieldLink RX5 17 "NearTree$Tree" "row" "[LNearTree$Node;", Cond.fieldLink RX5 77 "NearTree$Node" "dead" "Z", Cond.methodLink RX5 73 yX5_nodeOnWalk, Cond.static yX5_nodeOnWalk, Cond.code yX5_nodeOnWalk cX5_nodeOnWalk 5 (some (.object "NearTree$Node")), Cond.methodLink RX5 66 yX5_build, Cond.instanceMethod yX5_build, Cond.selects RX5 yX5_build yX5_build, Cond.code yX5_build cX5_build 9 (some (.object "NearTree$Node")), Cond.methodLink RX5 81 yX5_order, Cond.instanceMethod yX5_order, Cond.selects RX5 yX5_order yX5_order, Cond.code yX5_order cX5_order 7 none, Cond.methodLink RX5 85 yX5_isAhead, Cond.static yX5_isAhead, Cond.code yX5_isAhead cX5_isAhead 3 (some .boolean), Cond.methodLink RX5 49 yX2_isLess, Cond.instanceMethod yX2_isLess, Cond.selects RX2 yX2_isLess yX2_isLess, Cond.code yX2_isLess cX2_isLess 5 (some .boolean), Cond.fieldLink RX2 13 "NearTree$Node" "place" "LNearTree$Place;", Cond.fieldLink RX2 7 "NearTree$Node" "id" "I"]
def wsL_drop_r4 : List Cond := [Cond.methodLink RX2 20 yX3_number, Cond.instanceMethod yX3_number, Cond.selects RX3 yX3_number yX3_number, Cond.initialized RX3, Cond.code yX3_number cX3_number 2 (some .int), Cond.fieldLink RX3 7 "NearTree$Place" "x" "I", Cond.fieldLink RX3 13 "NearTree$Place" "y" "I", Cond.fieldLink RX3 16 "NearTree$Place" "z" "I", Cond.fieldLink RX3 19 "NearTree$Place" "w" "I", Cond.methodLink RX5 45 yX5_axisBehind, Cond.instanceMethod yX5_axisBehind, Cond.selects RX5 yX5_axisBehind yX5_axisBehind, Cond.code yX5_axisBehind cX5_axisBehind 2 (some .int), Cond.fieldLink RX5 9 "NearTree$Tree" "axes" "I"]
def wsL_drop : List Cond := .codeWith yL_drop cL_drop 4 (some .int) [(0, 9, 12, 13), (0, 9, 15, 15)] :: ((wsL_drop_r1 ++ (wsL_drop_r2 ++ (wsL_drop_r3 ++ wsL_drop_r4))) ++ wsX60 ++ wsX20 ++ wsX50 ++ wsX30 ++ (vx_atS RX6 63 "java/lang/IllegalArgumentException" ["java/lang/RuntimeException", "java/lang/Exception"]).filter goodWord ++ (vx_atS RX6 73 "java/lang/IllegalStateException" ["java/lang/RuntimeException", "java/lang/Exception"]).filter goodWord)
def wsL_at_r1 : List Cond := [Cond.classLink RL 13 "java/lang/IllegalArgumentException", Cond.classLink RL 15 "java/lang/IllegalStateException", Cond.methodLink RL 21 yX6_at, Cond.instanceMethod yX6_at, Cond.selects RX6 yX6_at yX6_at, Cond.initialized RX6, Cond.code yX6_at cX6_at 4 (some .int), Cond.classLink RX6 59 "java/lang/IllegalArgumentException", Cond.initialized "java/lang/IllegalArgumentException", Cond.classLink RX6 69 "java/lang/IllegalStateException", Cond.initialized "java/lang/IllegalStateException", Cond.fieldLink RX6 24 "NearTree" "liveById" "[LNearTree$Node;", Cond.fieldLink RX6 122 "NearTree$Node" "place" "LNearTree$Place;", Cond.methodLink RX6 51 yX6_isId, Cond.static yX6_isId, Cond.code yX6_isId cX6_isId 1 (some .boolean), Cond.methodLink RX6 126 yX3_number, Cond.instanceMethod yX3_number, Cond.selects RX3 yX3_number yX3_number, Cond.initialized RX3, Cond.code yX3_number cX3_number 2 (some .int), Cond.fieldLink RX3 7 "NearTree$Place" "x" "I", Cond.fieldLink RX3 13 "NearTree$Place" "y" "I", Cond.fieldLink RX3 16 "NearTree$Place" "z" "I"]
def wsL_at_r2 : List Cond := [Cond.fieldLink RX3 19 "NearTree$Place" "w" "I"]
def wsL_at : List Cond := .codeWith yL_at cL_at 5 (some .int) [(0, 10, 13, 13), (0, 10, 17, 15)] :: ((wsL_at_r1 ++ wsL_at_r2) ++ wsX60 ++ wsX20 ++ wsX30 ++ (vx_atS RX6 63 "java/lang/IllegalArgumentException" ["java/lang/RuntimeException", "java/lang/Exception"]).filter goodWord ++ (vx_atS RX6 73 "java/lang/IllegalStateException" ["java/lang/RuntimeException", "java/lang/Exception"]).filter goodWord)
def wsL_nearest_r1 : List Cond := [Cond.classLink RL 13 "java/lang/IllegalArgumentException", Cond.methodLink RL 25 yX6_nearest, Cond.instanceMethod yX6_nearest, Cond.selects RX6 yX6_nearest yX6_nearest, Cond.initialized RX6, Cond.code yX6_nearest cX6_nearest 7 (some .int), Cond.classLink RX6 59 "java/lang/IllegalArgumentException", Cond.initialized "java/lang/IllegalArgumentException", Cond.fieldLink RX6 40 "NearTree" "list" "LNearTree$NearList;", Cond.classLink RX6 135 RX4, Cond.instantiable RX4 3, Cond.initialized RX4, Cond.classLink RX6 74 RX3, Cond.instantiable RX3 4, Cond.initialized RX3, Cond.fieldLink RX6 18 "NearTree" "axes" "I", Cond.fieldLink RX6 33 "NearTree" "tree" "LNearTree$Tree;", Cond.fieldLink RX6 114 "NearTree$Tree" "root" "LNearTree$Node;", Cond.fieldLink RX6 143 "NearTree$Search" "nodes" "I", Cond.fieldLink RX6 146 "NearTree" "lookedAt" "I", Cond.fieldLink RX6 149 "NearTree$NearList" "size" "I", Cond.methodLink RX6 55 yX6_isPlace, Cond.instanceMethod yX6_isPlace, Cond.selects RX6 yX6_isPlace yX6_isPlace]
def wsL_nearest_r2 : List Cond := [Cond.code yX6_isPlace cX6_isPlace 5 (some .boolean), Cond.methodLink RX6 251 yX6_isNumber, Cond.static yX6_isNumber, Cond.code yX6_isNumber cX6_isNumber 1 (some .boolean), Cond.methodLink RX6 132 yX1_empty, Cond.instanceMethod yX1_empty, Cond.selects RX1 yX1_empty yX1_empty, Cond.initialized RX1, Cond.code yX1_empty cX1_empty 2 none, Cond.fieldLink RX1 19 "NearTree$NearList" "size" "I", Cond.fieldLink RX1 9 "NearTree$NearList" "ids" "[I", Cond.methodLink RX1 23 Lib.Math.min.name, Cond.static Lib.Math.min.name, Cond.initialized "java/lang/Math", Cond.code Lib.Math.min.name Lib.Math.min.code 2 (some .int), Cond.methodLink RX1 29 Lib.Math.max.name, Cond.static Lib.Math.max.name, Cond.code Lib.Math.max.name Lib.Math.max.code 2 (some .int), Cond.fieldLink RX1 32 "NearTree$NearList" "limit" "I", Cond.methodLink RX6 76 yX3_init, Cond.instanceMethod yX3_init, Cond.code yX3_init cX3_init 6 none, Cond.methodLink RX3 1 objectInit, Cond.instanceMethod objectInit]
def wsL_nearest_r3 : List Cond := [Cond.code objectInit ⟨#[0xb1]⟩ 1 none, Cond.fieldLink RX3 7 "NearTree$Place" "x" "I", Cond.fieldLink RX3 13 "NearTree$Place" "y" "I", Cond.fieldLink RX3 16 "NearTree$Place" "z" "I", Cond.fieldLink RX3 19 "NearTree$Place" "w" "I", Cond.methodLink RX6 137 yX4_init, Cond.instanceMethod yX4_init, Cond.code yX4_init cX4_init 3 none, Cond.methodLink RX4 3 objectInit, Cond.fieldLink RX4 9 "NearTree$Search" "place" "LNearTree$Place;", Cond.fieldLink RX4 15 "NearTree$Search" "list" "LNearTree$NearList;", Cond.methodLink RX6 140 yX4_start, Cond.instanceMethod yX4_start, Cond.selects RX4 yX4_start yX4_start, Cond.code yX4_start cX4_start 2 none, Cond.fieldLink RX4 19 "NearTree$Search" "nodes" "I", Cond.methodLink RX4 23 yX4_lookAt, Cond.instanceMethod yX4_lookAt, Cond.selects RX4 yX4_lookAt yX4_lookAt, Cond.code yX4_lookAt cX4_lookAt 4 none, Cond.fieldLink RX4 27 "NearTree$Node" "dead" "Z", Cond.fieldLink RX4 33 "NearTree$Node" "id" "I", Cond.fieldLink RX4 36 "NearTree$Node" "place" "LNearTree$Place;", Cond.fieldLink RX4 49 "NearTree$Node" "axis" "I"]
def wsL_nearest_r4 : List Cond := [Cond.fieldLink RX4 56 "NearTree$Node" "left" "LNearTree$Node;", Cond.fieldLink RX4 60 "NearTree$Node" "right" "LNearTree$Node;", Cond.methodLink RX4 37 yX3_distanceTo, Cond.instanceMethod yX3_distanceTo, Cond.selects RX3 yX3_distanceTo yX3_distanceTo, Cond.code yX3_distanceTo cX3_distanceTo 2 (some .long), Cond.methodLink RX3 22 yX3_square, Cond.static yX3_square, Cond.code yX3_square cX3_square 2 (some .long), Cond.methodLink RX4 43 yX1_offer, Cond.instanceMethod yX1_offer, Cond.selects RX1 yX1_offer yX1_offer, Cond.code yX1_offer cX1_offer 5 none, Cond.fieldLink RX1 15 "NearTree$NearList" "distances" "[J", Cond.methodLink RX1 35 yX1_isFull, Cond.instanceMethod yX1_isFull, Cond.selects RX1 yX1_isFull yX1_isFull, Cond.code yX1_isFull cX1_isFull 1 (some .boolean), Cond.methodLink RX1 39 yX1_isAhead, Cond.instanceMethod yX1_isAhead, Cond.selects RX1 yX1_isAhead yX1_isAhead, Cond.code yX1_isAhead cX1_isAhead 5 (some .boolean), Cond.methodLink RX4 52 yX3_number, Cond.instanceMethod yX3_number]
def wsL_nearest_r5 : List Cond := [Cond.selects RX3 yX3_number yX3_number, Cond.code yX3_number cX3_number 2 (some .int), Cond.methodLink RX4 63 yX3_square, Cond.methodLink RX4 67 yX1_shutsOut, Cond.instanceMethod yX1_shutsOut, Cond.selects RX1 yX1_shutsOut yX1_shutsOut, Cond.code yX1_shutsOut cX1_shutsOut 3 (some .boolean)]
def wsL_nearest : List Cond := .codeWith yL_nearest cL_nearest 8 (some .int) [(0, 16, 19, 13)] :: ((wsL_nearest_r1 ++ (wsL_nearest_r2 ++ (wsL_nearest_r3 ++ (wsL_nearest_r4 ++ wsL_nearest_r5)))) ++ wsX60 ++ wsX40 ++ wsX30 ++ wsX50 ++ wsX10 ++ wsX20 ++ (vx_atS RX6 63 "java/lang/IllegalArgumentException" ["java/lang/RuntimeException", "java/lang/Exception"]).filter goodWord)
def wsL_within_r1 : List Cond := [Cond.classLink RL 13 "java/lang/IllegalArgumentException", Cond.methodLink RL 28 yX6_within, Cond.instanceMethod yX6_within, Cond.selects RX6 yX6_within yX6_within, Cond.initialized RX6, Cond.code yX6_within cX6_within 14 (some .int), Cond.classLink RX6 59 "java/lang/IllegalArgumentException", Cond.initialized "java/lang/IllegalArgumentException", Cond.classLink RX6 74 RX3, Cond.instantiable RX3 4, Cond.initialized RX3, Cond.fieldLink RX6 18 "NearTree" "axes" "I", Cond.fieldLink RX6 40 "NearTree" "list" "LNearTree$NearList;", Cond.fieldLink RX6 24 "NearTree" "liveById" "[LNearTree$Node;", Cond.fieldLink RX6 122 "NearTree$Node" "place" "LNearTree$Place;", Cond.fieldLink RX6 158 "NearTree$Node" "id" "I", Cond.fieldLink RX6 149 "NearTree$NearList" "size" "I", Cond.methodLink RX6 55 yX6_isPlace, Cond.instanceMethod yX6_isPlace, Cond.selects RX6 yX6_isPlace yX6_isPlace, Cond.code yX6_isPlace cX6_isPlace 5 (some .boolean), Cond.methodLink RX6 251 yX6_isNumber, Cond.static yX6_isNumber, Cond.code yX6_isNumber cX6_isNumber 1 (some .boolean)]
def wsL_within_r2 : List Cond := [Cond.methodLink RX6 76 yX3_init, Cond.instanceMethod yX3_init, Cond.code yX3_init cX3_init 6 none, Cond.methodLink RX3 1 objectInit, Cond.instanceMethod objectInit, Cond.code objectInit ⟨#[0xb1]⟩ 1 none, Cond.fieldLink RX3 7 "NearTree$Place" "x" "I", Cond.fieldLink RX3 13 "NearTree$Place" "y" "I", Cond.fieldLink RX3 16 "NearTree$Place" "z" "I", Cond.fieldLink RX3 19 "NearTree$Place" "w" "I", Cond.methodLink RX6 132 yX1_empty, Cond.instanceMethod yX1_empty, Cond.selects RX1 yX1_empty yX1_empty, Cond.initialized RX1, Cond.code yX1_empty cX1_empty 2 none, Cond.fieldLink RX1 19 "NearTree$NearList" "size" "I", Cond.fieldLink RX1 9 "NearTree$NearList" "ids" "[I", Cond.methodLink RX1 23 Lib.Math.min.name, Cond.static Lib.Math.min.name, Cond.initialized "java/lang/Math", Cond.code Lib.Math.min.name Lib.Math.min.code 2 (some .int), Cond.methodLink RX1 29 Lib.Math.max.name, Cond.static Lib.Math.max.name, Cond.code Lib.Math.max.name Lib.Math.max.code 2 (some .int)]
def wsL_within_r3 : List Cond := [Cond.fieldLink RX1 32 "NearTree$NearList" "limit" "I", Cond.methodLink RX6 154 yX3_distanceTo, Cond.instanceMethod yX3_distanceTo, Cond.selects RX3 yX3_distanceTo yX3_distanceTo, Cond.code yX3_distanceTo cX3_distanceTo 2 (some .long), Cond.methodLink RX3 22 yX3_square, Cond.static yX3_square, Cond.code yX3_square cX3_square 2 (some .long), Cond.methodLink RX6 161 yX1_offer, Cond.instanceMethod yX1_offer, Cond.selects RX1 yX1_offer yX1_offer, Cond.code yX1_offer cX1_offer 5 none, Cond.fieldLink RX1 15 "NearTree$NearList" "distances" "[J", Cond.methodLink RX1 35 yX1_isFull, Cond.instanceMethod yX1_isFull, Cond.selects RX1 yX1_isFull yX1_isFull, Cond.code yX1_isFull cX1_isFull 1 (some .boolean), Cond.methodLink RX1 39 yX1_isAhead, Cond.instanceMethod yX1_isAhead, Cond.selects RX1 yX1_isAhead yX1_isAhead, Cond.code yX1_isAhead cX1_isAhead 5 (some .boolean)]
def wsL_within : List Cond := .codeWith yL_within cL_within 9 (some .int) [(0, 17, 20, 13)] :: ((wsL_within_r1 ++ (wsL_within_r2 ++ wsL_within_r3)) ++ wsX30 ++ wsX60 ++ wsX20 ++ wsX10 ++ (vx_atS RX6 63 "java/lang/IllegalArgumentException" ["java/lang/RuntimeException", "java/lang/Exception"]).filter goodWord)
def wsL_listed : List Cond := .codeWith yL_listed cL_listed 4 (some .int) [(0, 9, 12, 35)] :: ([.classLink RL 35 "java/lang/IndexOutOfBoundsException", .methodLink RL 32 yX6_listed, .instanceMethod yX6_listed, .selects RX6 yX6_listed yX6_listed, .initialized RX6, .code yX6_listed cX6_listed 2 (some .int), .classLink RX6 168 "java/lang/IndexOutOfBoundsException", .initialized "java/lang/IndexOutOfBoundsException", .fieldLink RX6 40 "NearTree" "list" "LNearTree$NearList;", .fieldLink RX6 173 "NearTree$NearList" "ids" "[I", .methodLink RX6 165 yX1_has, .instanceMethod yX1_has, .selects RX1 yX1_has yX1_has, .initialized RX1, .code yX1_has cX1_has 2 (some .boolean), .fieldLink RX1 19 "NearTree$NearList" "size" "I"] ++ wsX60 ++ wsX10 ++ (vx_atS RX6 172 "java/lang/IndexOutOfBoundsException" ["java/lang/RuntimeException", "java/lang/Exception"]).filter goodWord)
def wsL_distance : List Cond := .codeWith yL_distance cL_distance 4 (some .int) [(0, 8, 11, 35)] :: ([.classLink RL 35 "java/lang/IndexOutOfBoundsException", .methodLink RL 37 yX6_distance, .instanceMethod yX6_distance, .selects RX6 yX6_distance yX6_distance, .initialized RX6, .code yX6_distance cX6_distance 2 (some .long), .classLink RX6 168 "java/lang/IndexOutOfBoundsException", .initialized "java/lang/IndexOutOfBoundsException", .fieldLink RX6 40 "NearTree" "list" "LNearTree$NearList;", .fieldLink RX6 179 "NearTree$NearList" "distances" "[J", .methodLink RX6 165 yX1_has, .instanceMethod yX1_has, .selects RX1 yX1_has yX1_has, .initialized RX1, .code yX1_has cX1_has 2 (some .boolean), .fieldLink RX1 19 "NearTree$NearList" "size" "I"] ++ wsX60 ++ wsX10 ++ (vx_atS RX6 172 "java/lang/IndexOutOfBoundsException" ["java/lang/RuntimeException", "java/lang/Exception"]).filter goodWord)
def wsL_inBox_r1 : List Cond := [Cond.classLink RL 13 "java/lang/IllegalArgumentException", Cond.methodLink RL 41 yX6_inBox, Cond.instanceMethod yX6_inBox, Cond.selects RX6 yX6_inBox yX6_inBox, Cond.initialized RX6, Cond.code yX6_inBox cX6_inBox 12 (some .int), Cond.classLink RX6 59 "java/lang/IllegalArgumentException", Cond.initialized "java/lang/IllegalArgumentException", Cond.fieldLink RX6 24 "NearTree" "liveById" "[LNearTree$Node;", Cond.fieldLink RX6 122 "NearTree$Node" "place" "LNearTree$Place;", Cond.methodLink RX6 183 yX6_isCountingAxis, Cond.instanceMethod yX6_isCountingAxis, Cond.selects RX6 yX6_isCountingAxis yX6_isCountingAxis, Cond.code yX6_isCountingAxis cX6_isCountingAxis 2 (some .boolean), Cond.fieldLink RX6 18 "NearTree" "axes" "I", Cond.methodLink RX6 188 yX3_isBetween, Cond.instanceMethod yX3_isBetween, Cond.selects RX3 yX3_isBetween yX3_isBetween, Cond.initialized RX3, Cond.code yX3_isBetween cX3_isBetween 5 (some .boolean), Cond.methodLink RX3 26 yX3_number, Cond.instanceMethod yX3_number, Cond.selects RX3 yX3_number yX3_number, Cond.code yX3_number cX3_number 2 (some .int)]
def wsL_inBox_r2 : List Cond := [Cond.fieldLink RX3 7 "NearTree$Place" "x" "I", Cond.fieldLink RX3 13 "NearTree$Place" "y" "I", Cond.fieldLink RX3 16 "NearTree$Place" "z" "I", Cond.fieldLink RX3 19 "NearTree$Place" "w" "I"]
def wsL_inBox : List Cond := .codeWith yL_inBox cL_inBox 9 (some .int) [(0, 18, 21, 13)] :: ((wsL_inBox_r1 ++ wsL_inBox_r2) ++ wsX60 ++ wsX20 ++ wsX30 ++ (vx_atS RX6 63 "java/lang/IllegalArgumentException" ["java/lang/RuntimeException", "java/lang/Exception"]).filter goodWord)
def wsL_pair_r1 : List Cond := [Cond.classLink RL 13 "java/lang/IllegalArgumentException", Cond.classLink RL 15 "java/lang/IllegalStateException", Cond.methodLink RL 45 yX6_pair, Cond.instanceMethod yX6_pair, Cond.selects RX6 yX6_pair yX6_pair, Cond.initialized RX6, Cond.code yX6_pair cX6_pair 2 (some .long), Cond.classLink RX6 59 "java/lang/IllegalArgumentException", Cond.initialized "java/lang/IllegalArgumentException", Cond.classLink RX6 69 "java/lang/IllegalStateException", Cond.initialized "java/lang/IllegalStateException", Cond.fieldLink RX6 66 "NearTree" "liveCount" "I", Cond.fieldLink RX6 47 "NearTree" "joins" "LNearTree$Joins;", Cond.fieldLink RX6 24 "NearTree" "liveById" "[LNearTree$Node;", Cond.fieldLink RX6 200 "NearTree$Joins" "lesserId" "I", Cond.fieldLink RX6 203 "NearTree$Joins" "greaterId" "I", Cond.fieldLink RX6 206 "NearTree$Joins" "pairDistance" "J", Cond.methodLink RX6 196 yX0_findNearestPair, Cond.instanceMethod yX0_findNearestPair, Cond.selects RX0 yX0_findNearestPair yX0_findNearestPair, Cond.initialized RX0, Cond.code yX0_findNearestPair cX0_findNearestPair 4 none, Cond.constantLong RX0 27 (9223372036854775807), Cond.fieldLink RX0 29 "NearTree$Joins" "pairDistance" "J"]
def wsL_pair_r2 : List Cond := [Cond.methodLink RX0 33 yX0_comparePair, Cond.instanceMethod yX0_comparePair, Cond.selects RX0 yX0_comparePair yX0_comparePair, Cond.code yX0_comparePair cX0_comparePair 5 none, Cond.fieldLink RX0 37 "NearTree$Node" "place" "LNearTree$Place;", Cond.fieldLink RX0 47 "NearTree$Node" "id" "I", Cond.fieldLink RX0 50 "NearTree$Joins" "lesserId" "I", Cond.fieldLink RX0 53 "NearTree$Joins" "greaterId" "I", Cond.methodLink RX0 41 yX3_distanceTo, Cond.instanceMethod yX3_distanceTo, Cond.selects RX3 yX3_distanceTo yX3_distanceTo, Cond.initialized RX3, Cond.code yX3_distanceTo cX3_distanceTo 2 (some .long), Cond.fieldLink RX3 7 "NearTree$Place" "x" "I", Cond.fieldLink RX3 13 "NearTree$Place" "y" "I", Cond.fieldLink RX3 16 "NearTree$Place" "z" "I", Cond.fieldLink RX3 19 "NearTree$Place" "w" "I", Cond.methodLink RX3 22 yX3_square, Cond.static yX3_square, Cond.code yX3_square cX3_square 2 (some .long)]
def wsL_pair : List Cond := .codeWith yL_pair cL_pair 4 (some .int) [(0, 8, 11, 13), (0, 8, 14, 15)] :: ((wsL_pair_r1 ++ wsL_pair_r2) ++ wsX60 ++ wsX00 ++ wsX20 ++ wsX30 ++ (vx_atS RX6 63 "java/lang/IllegalArgumentException" ["java/lang/RuntimeException", "java/lang/Exception"]).filter goodWord ++ (vx_atS RX6 73 "java/lang/IllegalStateException" ["java/lang/RuntimeException", "java/lang/Exception"]).filter goodWord)
def wsL_parts_r1 : List Cond := [Cond.classLink RL 13 "java/lang/IllegalArgumentException", Cond.methodLink RL 48 yX6_parts, Cond.instanceMethod yX6_parts, Cond.selects RX6 yX6_parts yX6_parts, Cond.initialized RX6, Cond.code yX6_parts cX6_parts 3 (some .int), Cond.classLink RX6 59 "java/lang/IllegalArgumentException", Cond.initialized "java/lang/IllegalArgumentException", Cond.fieldLink RX6 47 "NearTree" "joins" "LNearTree$Joins;", Cond.fieldLink RX6 24 "NearTree" "liveById" "[LNearTree$Node;", Cond.methodLink RX6 212 yX0_joinAll, Cond.instanceMethod yX0_joinAll, Cond.selects RX0 yX0_joinAll yX0_joinAll, Cond.initialized RX0, Cond.code yX0_joinAll cX0_joinAll 3 none, Cond.fieldLink RX0 21 "NearTree$Joins" "size" "I", Cond.fieldLink RX0 17 "NearTree$Joins" "lengths" "[J", Cond.constantLong RX0 27 (9223372036854775807), Cond.fieldLink RX0 11 "NearTree$Joins" "points" "[LNearTree$Node;", Cond.methodLink RX0 56 yX0_gather, Cond.instanceMethod yX0_gather, Cond.selects RX0 yX0_gather yX0_gather, Cond.code yX0_gather cX0_gather 6 none, Cond.methodLink RX0 60 yX0_reachFrom]
def wsL_parts_r2 : List Cond := [Cond.instanceMethod yX0_reachFrom, Cond.selects RX0 yX0_reachFrom yX0_reachFrom, Cond.code yX0_reachFrom cX0_reachFrom 5 none, Cond.fieldLink RX0 37 "NearTree$Node" "place" "LNearTree$Place;", Cond.methodLink RX0 72 Lib.MathLoose.min_long.x, Cond.static Lib.MathLoose.min_long.x, Cond.initialized "java/lang/Math", Cond.code Lib.MathLoose.min_long.x Lib.MathLoose.min_long.code 4 (some .long), Cond.methodLink RX0 41 yX3_distanceTo, Cond.instanceMethod yX3_distanceTo, Cond.selects RX3 yX3_distanceTo yX3_distanceTo, Cond.initialized RX3, Cond.code yX3_distanceTo cX3_distanceTo 2 (some .long), Cond.fieldLink RX3 7 "NearTree$Place" "x" "I", Cond.fieldLink RX3 13 "NearTree$Place" "y" "I", Cond.fieldLink RX3 16 "NearTree$Place" "z" "I", Cond.fieldLink RX3 19 "NearTree$Place" "w" "I", Cond.methodLink RX3 22 yX3_square, Cond.static yX3_square, Cond.code yX3_square cX3_square 2 (some .long), Cond.methodLink RX0 64 yX0_leastFrom, Cond.instanceMethod yX0_leastFrom, Cond.selects RX0 yX0_leastFrom yX0_leastFrom, Cond.code yX0_leastFrom cX0_leastFrom 4 (some .int)]
def wsL_parts_r3 : List Cond := [Cond.methodLink RX0 68 yX0_swap, Cond.instanceMethod yX0_swap, Cond.selects RX0 yX0_swap yX0_swap, Cond.code yX0_swap cX0_swap 6 none, Cond.methodLink RX6 215 yX0_partsWithin, Cond.instanceMethod yX0_partsWithin, Cond.selects RX0 yX0_partsWithin yX0_partsWithin, Cond.code yX0_partsWithin cX0_partsWithin 5 (some .int)]
def wsL_parts : List Cond := .codeWith yL_parts cL_parts 5 (some .int) [(0, 9, 12, 13)] :: ((wsL_parts_r1 ++ (wsL_parts_r2 ++ wsL_parts_r3)) ++ wsX60 ++ wsX00 ++ wsX20 ++ wsX30 ++ (vx_atS RX6 63 "java/lang/IllegalArgumentException" ["java/lang/RuntimeException", "java/lang/Exception"]).filter goodWord)
def wsL_node : List Cond := .codeWith yL_node cL_node 5 (some .int) [(0, 10, 13, 13), (0, 10, 17, 15)] :: ([.classLink RL 13 "java/lang/IllegalArgumentException", .classLink RL 15 "java/lang/IllegalStateException", .methodLink RL 52 yX6_node, .instanceMethod yX6_node, .selects RX6 yX6_node yX6_node, .initialized RX6, .code yX6_node cX6_node 5 (some .int), .classLink RX6 59 "java/lang/IllegalArgumentException", .initialized "java/lang/IllegalArgumentException", .classLink RX6 69 "java/lang/IllegalStateException", .initialized "java/lang/IllegalStateException", .fieldLink RX6 24 "NearTree" "liveById" "[LNearTree$Node;", .fieldLink RX6 227 "NearTree$Node" "above" "LNearTree$Node;", .fieldLink RX6 230 "NearTree$Node" "depth" "I", .fieldLink RX6 233 "NearTree$Node" "size" "I", .fieldLink RX6 158 "NearTree$Node" "id" "I", .fieldLink RX6 100 "NearTree$Node" "dead" "Z", .fieldLink RX6 234 "NearTree$Node" "left" "LNearTree$Node;", .methodLink RX6 51 yX6_isId, .static yX6_isId, .code yX6_isId cX6_isId 1 (some .boolean)] ++ wsX60 ++ wsX20 ++ (vx_atS RX6 63 "java/lang/IllegalArgumentException" ["java/lang/RuntimeException", "java/lang/Exception"]).filter goodWord ++ (vx_atS RX6 73 "java/lang/IllegalStateException" ["java/lang/RuntimeException", "java/lang/Exception"]).filter goodWord)
def wsL_walk : List Cond := .codeWith yL_walk cL_walk 4 (some .int) [(0, 9, 12, 35)] :: ([.classLink RL 35 "java/lang/IndexOutOfBoundsException", .methodLink RL 55 yX6_walk, .instanceMethod yX6_walk, .selects RX6 yX6_walk yX6_walk, .initialized RX6, .code yX6_walk cX6_walk 3 (some .int), .classLink RX6 168 "java/lang/IndexOutOfBoundsException", .initialized "java/lang/IndexOutOfBoundsException", .fieldLink RX6 33 "NearTree" "tree" "LNearTree$Tree;", .fieldLink RX6 114 "NearTree$Tree" "root" "LNearTree$Node;", .fieldLink RX6 100 "NearTree$Node" "dead" "Z", .fieldLink RX6 158 "NearTree$Node" "id" "I", .methodLink RX6 237 yX5_nodeOnWalk, .static yX5_nodeOnWalk, .initialized RX5, .code yX5_nodeOnWalk cX5_nodeOnWalk 5 (some (.object "NearTree$Node")), .fieldLink RX5 53 "NearTree$Node" "left" "LNearTree$Node;", .fieldLink RX5 56 "NearTree$Node" "right" "LNearTree$Node;", .methodLink RX5 25 yX2_sizeOf, .static yX2_sizeOf, .initialized RX2, .code yX2_sizeOf cX2_sizeOf 1 (some .int), .fieldLink RX2 17 "NearTree$Node" "size" "I"] ++ wsX60 ++ wsX50 ++ wsX20 ++ (vx_atS RX6 172 "java/lang/IndexOutOfBoundsException" ["java/lang/RuntimeException", "java/lang/Exception"]).filter goodWord)
def wsL_count_r1 : List Cond := [Cond.classLink RL 13 "java/lang/IllegalArgumentException", Cond.methodLink RL 58 yX6_count, Cond.instanceMethod yX6_count, Cond.selects RX6 yX6_count yX6_count, Cond.initialized RX6, Cond.code yX6_count cX6_count 2 (some .int), Cond.classLink RX6 59 "java/lang/IllegalArgumentException", Cond.initialized "java/lang/IllegalArgumentException", Cond.fieldLink RX6 18 "NearTree" "axes" "I", Cond.fieldLink RX6 66 "NearTree" "liveCount" "I", Cond.fieldLink RX6 33 "NearTree" "tree" "LNearTree$Tree;", Cond.fieldLink RX6 90 "NearTree" "builtByComing" "I", Cond.fieldLink RX6 111 "NearTree" "builtByGoing" "I", Cond.fieldLink RX6 246 "NearTree$Tree" "builtPoints" "I", Cond.methodLink RX6 108 yX5_nodeCount, Cond.instanceMethod yX5_nodeCount, Cond.selects RX5 yX5_nodeCount yX5_nodeCount, Cond.initialized RX5, Cond.code yX5_nodeCount cX5_nodeCount 1 (some .int), Cond.fieldLink RX5 21 "NearTree$Tree" "root" "LNearTree$Node;", Cond.methodLink RX5 25 yX2_sizeOf, Cond.static yX2_sizeOf, Cond.initialized RX2, Cond.code yX2_sizeOf cX2_sizeOf 1 (some .int)]
def wsL_count_r2 : List Cond := [Cond.fieldLink RX2 17 "NearTree$Node" "size" "I", Cond.methodLink RX6 104 yX6_deadCount, Cond.instanceMethod yX6_deadCount, Cond.selects RX6 yX6_deadCount yX6_deadCount, Cond.code yX6_deadCount cX6_deadCount 1 (some .int), Cond.methodLink RX6 243 yX5_levels, Cond.instanceMethod yX5_levels, Cond.selects RX5 yX5_levels yX5_levels, Cond.code yX5_levels cX5_levels 5 (some .int), Cond.fieldLink RX5 39 "NearTree$Node" "depth" "I", Cond.methodLink RX5 93 Lib.Math.max.name, Cond.static Lib.Math.max.name, Cond.initialized "java/lang/Math", Cond.code Lib.Math.max.name Lib.Math.max.code 2 (some .int), Cond.methodLink RX5 89 yX5_nodeCount, Cond.methodLink RX5 73 yX5_nodeOnWalk, Cond.static yX5_nodeOnWalk, Cond.code yX5_nodeOnWalk cX5_nodeOnWalk 5 (some (.object "NearTree$Node")), Cond.fieldLink RX5 53 "NearTree$Node" "left" "LNearTree$Node;", Cond.fieldLink RX5 56 "NearTree$Node" "right" "LNearTree$Node;"]
def wsL_count : List Cond := .codeWith yL_count cL_count 4 (some .int) [(0, 9, 12, 13)] :: ((wsL_count_r1 ++ wsL_count_r2) ++ wsX60 ++ wsX50 ++ wsX20 ++ (vx_atS RX6 63 "java/lang/IllegalArgumentException" ["java/lang/RuntimeException", "java/lang/Exception"]).filter goodWord)
def wsL_law0_r1 : List Cond := [Cond.classLink RL 8 RX6, Cond.instantiable RX6 9, Cond.initialized RX6, Cond.classLink RL 70 RX7, Cond.instantiable RX7 31, Cond.initialized RX7, Cond.arrayClass .long, Cond.constantLong RL 92 (4294967295), Cond.methodLink RL 61 yL_cell, Cond.static yL_cell, Cond.initialized RL, Cond.code yL_cell cL_cell 2 (some .int), Cond.methodLink RL 67 yX6_init, Cond.instanceMethod yX6_init, Cond.code yX6_init cX6_init 2 none, Cond.methodLink RX6 3 objectInit, Cond.instanceMethod objectInit, Cond.code objectInit ⟨#[0xb1]⟩ 1 none, Cond.methodLink RX6 9 Lib.Math.min.name, Cond.static Lib.Math.min.name, Cond.initialized "java/lang/Math", Cond.code Lib.Math.min.name Lib.Math.min.code 2 (some .int), Cond.methodLink RX6 15 Lib.Math.max.name, Cond.static Lib.Math.max.name]
def wsL_law0_r2 : List Cond := [Cond.code Lib.Math.max.name Lib.Math.max.code 2 (some .int), Cond.fieldLink RX6 18 "NearTree" "axes" "I", Cond.classLink RX6 22 RX2, Cond.fieldLink RX6 24 "NearTree" "liveById" "[LNearTree$Node;", Cond.classLink RX6 28 RX5, Cond.instantiable RX5 4, Cond.initialized RX5, Cond.fieldLink RX6 33 "NearTree" "tree" "LNearTree$Tree;", Cond.classLink RX6 37 RX1, Cond.instantiable RX1 4, Cond.initialized RX1, Cond.fieldLink RX6 40 "NearTree" "list" "LNearTree$NearList;", Cond.classLink RX6 44 RX0, Cond.instantiable RX0 6, Cond.initialized RX0, Cond.fieldLink RX6 47 "NearTree" "joins" "LNearTree$Joins;", Cond.methodLink RX6 30 yX5_init, Cond.instanceMethod yX5_init, Cond.code yX5_init cX5_init 2 none, Cond.methodLink RX5 3 objectInit, Cond.fieldLink RX5 9 "NearTree$Tree" "axes" "I", Cond.classLink RX5 15 RX2, Cond.fieldLink RX5 17 "NearTree$Tree" "row" "[LNearTree$Node;", Cond.methodLink RX6 39 yX1_init]
def wsL_law0_r3 : List Cond := [Cond.instanceMethod yX1_init, Cond.code yX1_init cX1_init 1 none, Cond.methodLink RX1 3 objectInit, Cond.arrayClass .int, Cond.fieldLink RX1 9 "NearTree$NearList" "ids" "[I", Cond.fieldLink RX1 15 "NearTree$NearList" "distances" "[J", Cond.methodLink RX6 46 yX0_init, Cond.instanceMethod yX0_init, Cond.code yX0_init cX0_init 1 none, Cond.methodLink RX0 3 objectInit, Cond.classLink RX0 9 RX2, Cond.fieldLink RX0 11 "NearTree$Joins" "points" "[LNearTree$Node;", Cond.fieldLink RX0 17 "NearTree$Joins" "lengths" "[J", Cond.methodLink RL 72 yX7_init, Cond.instanceMethod yX7_init, Cond.code yX7_init cX7_init 2 none, Cond.methodLink RX7 7 objectInit, Cond.arrayClass .boolean, Cond.fieldLink RX7 13 "NearTreeModel" "isLive" "[Z", Cond.fieldLink RX7 17 "NearTreeModel" "place" "[I", Cond.fieldLink RX7 21 "NearTreeModel" "nodeOf" "[I", Cond.fieldLink RX7 24 "NearTreeModel" "isUsed" "[Z", Cond.fieldLink RX7 27 "NearTreeModel" "idOf" "[I", Cond.fieldLink RX7 30 "NearTreeModel" "spot" "[I"]
def wsL_law0_r4 : List Cond := [Cond.fieldLink RX7 33 "NearTreeModel" "isThere" "[Z", Cond.fieldLink RX7 36 "NearTreeModel" "left" "[I", Cond.fieldLink RX7 39 "NearTreeModel" "right" "[I", Cond.fieldLink RX7 42 "NearTreeModel" "up" "[I", Cond.fieldLink RX7 45 "NearTreeModel" "root" "I", Cond.fieldLink RX7 48 "NearTreeModel" "way" "[I", Cond.fieldLink RX7 51 "NearTreeModel" "toDo" "[I", Cond.fieldLink RX7 54 "NearTreeModel" "ids" "[I", Cond.fieldLink RX7 57 "NearTreeModel" "from" "[I", Cond.fieldLink RX7 60 "NearTreeModel" "end" "[I", Cond.fieldLink RX7 63 "NearTreeModel" "above" "[I", Cond.fieldLink RX7 66 "NearTreeModel" "onLeft" "[Z", Cond.fieldLink RX7 69 "NearTreeModel" "aim" "[I", Cond.fieldLink RX7 72 "NearTreeModel" "list" "[I", Cond.fieldLink RX7 75 "NearTreeModel" "far" "[J", Cond.fieldLink RX7 79 "NearTreeModel" "isLookedAt" "[Z", Cond.fieldLink RX7 82 "NearTreeModel" "isMet" "[Z", Cond.fieldLink RX7 85 "NearTreeModel" "d" "I", Cond.methodLink RL 73 yL_put, Cond.static yL_put, Cond.codeWith yL_put cL_put 8 (some .int) [(0, 16, 19, 13), (0, 16, 23, 15)], Cond.classLink RL 13 "java/lang/IllegalArgumentException", Cond.classLink RL 15 "java/lang/IllegalStateException", Cond.methodLink RL 7 yX6_put]
def wsL_law0_r5 : List Cond := [Cond.instanceMethod yX6_put, Cond.selects RX6 yX6_put yX6_put, Cond.code yX6_put cX6_put 8 (some .int), Cond.classLink RX6 59 "java/lang/IllegalArgumentException", Cond.initialized "java/lang/IllegalArgumentException", Cond.classLink RX6 69 "java/lang/IllegalStateException", Cond.initialized "java/lang/IllegalStateException", Cond.fieldLink RX6 66 "NearTree" "liveCount" "I", Cond.instantiable RX2 9, Cond.initialized RX2, Cond.classLink RX6 74 RX3, Cond.instantiable RX3 4, Cond.initialized RX3, Cond.fieldLink RX6 90 "NearTree" "builtByComing" "I", Cond.methodLink RX6 51 yX6_isId, Cond.static yX6_isId, Cond.code yX6_isId cX6_isId 1 (some .boolean), Cond.methodLink RX6 55 yX6_isPlace, Cond.instanceMethod yX6_isPlace, Cond.selects RX6 yX6_isPlace yX6_isPlace, Cond.code yX6_isPlace cX6_isPlace 5 (some .boolean), Cond.methodLink RX6 251 yX6_isNumber, Cond.static yX6_isNumber, Cond.code yX6_isNumber cX6_isNumber 1 (some .boolean)]
def wsL_law0_r6 : List Cond := [Cond.methodLink RX6 76 yX3_init, Cond.instanceMethod yX3_init, Cond.code yX3_init cX3_init 6 none, Cond.methodLink RX3 1 objectInit, Cond.fieldLink RX3 7 "NearTree$Place" "x" "I", Cond.fieldLink RX3 13 "NearTree$Place" "y" "I", Cond.fieldLink RX3 16 "NearTree$Place" "z" "I", Cond.fieldLink RX3 19 "NearTree$Place" "w" "I", Cond.methodLink RX6 79 yX2_init, Cond.instanceMethod yX2_init, Cond.code yX2_init cX2_init 3 none, Cond.methodLink RX2 1 objectInit, Cond.fieldLink RX2 7 "NearTree$Node" "id" "I", Cond.fieldLink RX2 13 "NearTree$Node" "place" "LNearTree$Place;", Cond.fieldLink RX2 17 "NearTree$Node" "size" "I", Cond.methodLink RX6 82 yX5_hang, Cond.instanceMethod yX5_hang, Cond.selects RX5 yX5_hang yX5_hang, Cond.code yX5_hang cX5_hang 4 none, Cond.fieldLink RX5 21 "NearTree$Tree" "root" "LNearTree$Node;", Cond.fieldLink RX5 29 "NearTree$Node" "size" "I", Cond.fieldLink RX5 36 "NearTree$Node" "above" "LNearTree$Node;", Cond.fieldLink RX5 39 "NearTree$Node" "depth" "I", Cond.fieldLink RX5 42 "NearTree$Node" "axis" "I"]
def wsL_law0_r7 : List Cond := [Cond.fieldLink RX5 53 "NearTree$Node" "left" "LNearTree$Node;", Cond.fieldLink RX5 56 "NearTree$Node" "right" "LNearTree$Node;", Cond.methodLink RX5 32 yX2_sideOf, Cond.instanceMethod yX2_sideOf, Cond.selects RX2 yX2_sideOf yX2_sideOf, Cond.code yX2_sideOf cX2_sideOf 2 (some (.object "NearTree$Node")), Cond.fieldLink RX2 26 "NearTree$Node" "axis" "I", Cond.fieldLink RX2 33 "NearTree$Node" "left" "LNearTree$Node;", Cond.fieldLink RX2 37 "NearTree$Node" "right" "LNearTree$Node;", Cond.methodLink RX2 29 yX2_isLess, Cond.instanceMethod yX2_isLess, Cond.selects RX2 yX2_isLess yX2_isLess, Cond.code yX2_isLess cX2_isLess 5 (some .boolean), Cond.methodLink RX2 20 yX3_number, Cond.instanceMethod yX3_number, Cond.selects RX3 yX3_number yX3_number, Cond.code yX3_number cX3_number 2 (some .int), Cond.methodLink RX5 45 yX5_axisBehind, Cond.instanceMethod yX5_axisBehind, Cond.selects RX5 yX5_axisBehind yX5_axisBehind, Cond.code yX5_axisBehind cX5_axisBehind 2 (some .int), Cond.methodLink RX5 49 yX2_isLess, Cond.methodLink RX6 86 yX5_firstLeaningAbove, Cond.instanceMethod yX5_firstLeaningAbove]
def wsL_law0_r8 : List Cond := [Cond.selects RX5 yX5_firstLeaningAbove yX5_firstLeaningAbove, Cond.code yX5_firstLeaningAbove cX5_firstLeaningAbove 3 (some (.object "NearTree$Node")), Cond.methodLink RX5 59 yX2_leans, Cond.instanceMethod yX2_leans, Cond.selects RX2 yX2_leans yX2_leans, Cond.code yX2_leans cX2_leans 1 (some .boolean), Cond.methodLink RX2 44 Lib.Math.max.name, Cond.methodLink RX2 40 yX2_sizeOf, Cond.static yX2_sizeOf, Cond.code yX2_sizeOf cX2_sizeOf 1 (some .int), Cond.methodLink RX6 93 yX5_buildAnew, Cond.instanceMethod yX5_buildAnew, Cond.selects RX5 yX5_buildAnew yX5_buildAnew, Cond.code yX5_buildAnew cX5_buildAnew 8 none, Cond.fieldLink RX5 70 "NearTree$Tree" "builtPoints" "I", Cond.methodLink RX5 63 yX5_gatherLive, Cond.instanceMethod yX5_gatherLive, Cond.selects RX5 yX5_gatherLive yX5_gatherLive, Cond.code yX5_gatherLive cX5_gatherLive 5 (some .int), Cond.fieldLink RX5 77 "NearTree$Node" "dead" "Z", Cond.methodLink RX5 73 yX5_nodeOnWalk, Cond.static yX5_nodeOnWalk, Cond.code yX5_nodeOnWalk cX5_nodeOnWalk 5 (some (.object "NearTree$Node")), Cond.methodLink RX5 25 yX2_sizeOf]
def wsL_law0_r9 : List Cond := [Cond.methodLink RX5 66 yX5_build, Cond.instanceMethod yX5_build, Cond.selects RX5 yX5_build yX5_build, Cond.code yX5_build cX5_build 9 (some (.object "NearTree$Node")), Cond.methodLink RX5 81 yX5_order, Cond.instanceMethod yX5_order, Cond.selects RX5 yX5_order yX5_order, Cond.code yX5_order cX5_order 7 none, Cond.methodLink RX5 85 yX5_isAhead, Cond.static yX5_isAhead, Cond.code yX5_isAhead cX5_isAhead 3 (some .boolean), Cond.methodLink RL 76 yX7_put, Cond.instanceMethod yX7_put, Cond.selects RX7 yX7_put yX7_put, Cond.code yX7_put cX7_put 16 (some .int), Cond.fieldLink RX7 125 "NearTreeModel" "lives" "I", Cond.fieldLink RX7 1 "NearTreeModel" "thrown" "I", Cond.fieldLink RX7 132 "NearTreeModel" "builtByMore" "I", Cond.fieldLink RX7 135 "NearTreeModel" "builtPoints" "I", Cond.methodLink RX7 117 yX7_isId, Cond.static yX7_isId, Cond.code yX7_isId cX7_isId 1 (some .boolean), Cond.constantLong RX7 88 (99), Cond.methodLink RX7 90 yX7_in]
def wsL_law0_r10 : List Cond := [Cond.static yX7_in, Cond.code yX7_in cX7_in 6 (some .boolean), Cond.methodLink RX7 121 yX7_areNumbers, Cond.instanceMethod yX7_areNumbers, Cond.selects RX7 yX7_areNumbers yX7_areNumbers, Cond.code yX7_areNumbers cX7_areNumbers 5 (some .boolean), Cond.constantLong RX7 94 (-10000), Cond.constantLong RX7 96 (10000), Cond.methodLink RX7 128 yX7_isLess, Cond.instanceMethod yX7_isLess, Cond.selects RX7 yX7_isLess yX7_isLess, Cond.code yX7_isLess cX7_isLess 6 (some .boolean), Cond.methodLink RX7 113 yX7_newNode, Cond.instanceMethod yX7_newNode, Cond.selects RX7 yX7_newNode yX7_newNode, Cond.code yX7_newNode cX7_newNode 5 (some .int), Cond.methodLink RX7 102 yX7_hang, Cond.instanceMethod yX7_hang, Cond.selects RX7 yX7_hang yX7_hang, Cond.code yX7_hang cX7_hang 4 none, Cond.methodLink RX7 98 yX7_walkFrom, Cond.instanceMethod yX7_walkFrom, Cond.selects RX7 yX7_walkFrom yX7_walkFrom, Cond.code yX7_walkFrom cX7_walkFrom 5 (some .int)]
def wsL_law0_r11 : List Cond := [Cond.methodLink RX7 138 yX7_build, Cond.instanceMethod yX7_build, Cond.selects RX7 yX7_build yX7_build, Cond.code yX7_build cX7_build 14 (some .int), Cond.methodLink RX7 106 yX7_depth, Cond.instanceMethod yX7_depth, Cond.selects RX7 yX7_depth yX7_depth, Cond.code yX7_depth cX7_depth 4 (some .int), Cond.methodLink RX7 109 yX7_sortBy, Cond.instanceMethod yX7_sortBy, Cond.selects RX7 yX7_sortBy yX7_sortBy, Cond.code yX7_sortBy cX7_sortBy 7 none, Cond.methodLink RL 77 yX7_thrown, Cond.instanceMethod yX7_thrown, Cond.selects RX7 yX7_thrown yX7_thrown, Cond.code yX7_thrown cX7_thrown 1 (some .int), Cond.methodLink RL 81 yL_drop, Cond.static yL_drop, Cond.codeWith yL_drop cL_drop 4 (some .int) [(0, 9, 12, 13), (0, 9, 15, 15)], Cond.methodLink RL 17 yX6_drop, Cond.instanceMethod yX6_drop, Cond.selects RX6 yX6_drop yX6_drop, Cond.code yX6_drop cX6_drop 3 (some .int), Cond.fieldLink RX6 100 "NearTree$Node" "dead" "Z"]
def wsL_law0_r12 : List Cond := [Cond.fieldLink RX6 111 "NearTree" "builtByGoing" "I", Cond.fieldLink RX6 114 "NearTree$Tree" "root" "LNearTree$Node;", Cond.methodLink RX6 104 yX6_deadCount, Cond.instanceMethod yX6_deadCount, Cond.selects RX6 yX6_deadCount yX6_deadCount, Cond.code yX6_deadCount cX6_deadCount 1 (some .int), Cond.methodLink RX6 108 yX5_nodeCount, Cond.instanceMethod yX5_nodeCount, Cond.selects RX5 yX5_nodeCount yX5_nodeCount, Cond.code yX5_nodeCount cX5_nodeCount 1 (some .int), Cond.methodLink RL 84 yX7_drop, Cond.instanceMethod yX7_drop, Cond.selects RX7 yX7_drop yX7_drop, Cond.code yX7_drop cX7_drop 3 (some .int), Cond.fieldLink RX7 141 "NearTreeModel" "builtByLess" "I", Cond.methodLink RL 85 yL_at, Cond.static yL_at, Cond.codeWith yL_at cL_at 5 (some .int) [(0, 10, 13, 13), (0, 10, 17, 15)], Cond.methodLink RL 21 yX6_at, Cond.instanceMethod yX6_at, Cond.selects RX6 yX6_at yX6_at, Cond.code yX6_at cX6_at 4 (some .int), Cond.fieldLink RX6 122 "NearTree$Node" "place" "LNearTree$Place;", Cond.methodLink RX6 126 yX3_number]
def wsL_law0_r13 : List Cond := [Cond.methodLink RL 88 yX7_at, Cond.instanceMethod yX7_at, Cond.selects RX7 yX7_at yX7_at, Cond.code yX7_at cX7_at 3 (some .int), Cond.constantLong RX7 144 (3), Cond.methodLink RL 89 yL_nearest, Cond.static yL_nearest, Cond.codeWith yL_nearest cL_nearest 8 (some .int) [(0, 16, 19, 13)], Cond.methodLink RL 25 yX6_nearest, Cond.instanceMethod yX6_nearest, Cond.selects RX6 yX6_nearest yX6_nearest, Cond.code yX6_nearest cX6_nearest 7 (some .int), Cond.classLink RX6 135 RX4, Cond.instantiable RX4 3, Cond.initialized RX4, Cond.fieldLink RX6 143 "NearTree$Search" "nodes" "I", Cond.fieldLink RX6 146 "NearTree" "lookedAt" "I", Cond.fieldLink RX6 149 "NearTree$NearList" "size" "I", Cond.methodLink RX6 132 yX1_empty, Cond.instanceMethod yX1_empty, Cond.selects RX1 yX1_empty yX1_empty, Cond.code yX1_empty cX1_empty 2 none, Cond.fieldLink RX1 19 "NearTree$NearList" "size" "I", Cond.methodLink RX1 23 Lib.Math.min.name]
def wsL_law0_r14 : List Cond := [Cond.methodLink RX1 29 Lib.Math.max.name, Cond.fieldLink RX1 32 "NearTree$NearList" "limit" "I", Cond.methodLink RX6 137 yX4_init, Cond.instanceMethod yX4_init, Cond.code yX4_init cX4_init 3 none, Cond.methodLink RX4 3 objectInit, Cond.fieldLink RX4 9 "NearTree$Search" "place" "LNearTree$Place;", Cond.fieldLink RX4 15 "NearTree$Search" "list" "LNearTree$NearList;", Cond.methodLink RX6 140 yX4_start, Cond.instanceMethod yX4_start, Cond.selects RX4 yX4_start yX4_start, Cond.code yX4_start cX4_start 2 none, Cond.fieldLink RX4 19 "NearTree$Search" "nodes" "I", Cond.methodLink RX4 23 yX4_lookAt, Cond.instanceMethod yX4_lookAt, Cond.selects RX4 yX4_lookAt yX4_lookAt, Cond.code yX4_lookAt cX4_lookAt 4 none, Cond.fieldLink RX4 27 "NearTree$Node" "dead" "Z", Cond.fieldLink RX4 33 "NearTree$Node" "id" "I", Cond.fieldLink RX4 36 "NearTree$Node" "place" "LNearTree$Place;", Cond.fieldLink RX4 49 "NearTree$Node" "axis" "I", Cond.fieldLink RX4 56 "NearTree$Node" "left" "LNearTree$Node;", Cond.fieldLink RX4 60 "NearTree$Node" "right" "LNearTree$Node;", Cond.methodLink RX4 37 yX3_distanceTo]
def wsL_law0_r15 : List Cond := [Cond.instanceMethod yX3_distanceTo, Cond.selects RX3 yX3_distanceTo yX3_distanceTo, Cond.code yX3_distanceTo cX3_distanceTo 2 (some .long), Cond.methodLink RX3 22 yX3_square, Cond.static yX3_square, Cond.code yX3_square cX3_square 2 (some .long), Cond.methodLink RX4 43 yX1_offer, Cond.instanceMethod yX1_offer, Cond.selects RX1 yX1_offer yX1_offer, Cond.code yX1_offer cX1_offer 5 none, Cond.methodLink RX1 35 yX1_isFull, Cond.instanceMethod yX1_isFull, Cond.selects RX1 yX1_isFull yX1_isFull, Cond.code yX1_isFull cX1_isFull 1 (some .boolean), Cond.methodLink RX1 39 yX1_isAhead, Cond.instanceMethod yX1_isAhead, Cond.selects RX1 yX1_isAhead yX1_isAhead, Cond.code yX1_isAhead cX1_isAhead 5 (some .boolean), Cond.methodLink RX4 52 yX3_number, Cond.methodLink RX4 63 yX3_square, Cond.methodLink RX4 67 yX1_shutsOut, Cond.instanceMethod yX1_shutsOut, Cond.selects RX1 yX1_shutsOut yX1_shutsOut, Cond.code yX1_shutsOut cX1_shutsOut 3 (some .boolean)]
def wsL_law0_r16 : List Cond := [Cond.methodLink RL 91 yX7_nearest, Cond.instanceMethod yX7_nearest, Cond.selects RX7 yX7_nearest yX7_nearest, Cond.code yX7_nearest cX7_nearest 14 (some .int), Cond.constantLong RX7 153 (100), Cond.fieldLink RX7 150 "NearTreeModel" "listed" "I", Cond.fieldLink RX7 159 "NearTreeModel" "looked" "I", Cond.methodLink RX7 155 yX7_aimAt, Cond.instanceMethod yX7_aimAt, Cond.selects RX7 yX7_aimAt yX7_aimAt, Cond.code yX7_aimAt cX7_aimAt 5 none, Cond.methodLink RX7 162 yX7_come, Cond.instanceMethod yX7_come, Cond.selects RX7 yX7_come yX7_come, Cond.code yX7_come cX7_come 8 none, Cond.methodLink RX7 146 yX7_away, Cond.instanceMethod yX7_away, Cond.selects RX7 yX7_away yX7_away, Cond.code yX7_away cX7_away 7 (some .long), Cond.methodLink RL 94 yL_within, Cond.static yL_within, Cond.codeWith yL_within cL_within 9 (some .int) [(0, 17, 20, 13)], Cond.methodLink RL 28 yX6_within, Cond.instanceMethod yX6_within]
def wsL_law0_r17 : List Cond := [Cond.selects RX6 yX6_within yX6_within, Cond.code yX6_within cX6_within 14 (some .int), Cond.fieldLink RX6 158 "NearTree$Node" "id" "I", Cond.methodLink RX6 154 yX3_distanceTo, Cond.methodLink RX6 161 yX1_offer, Cond.methodLink RL 97 yX7_within, Cond.instanceMethod yX7_within, Cond.selects RX7 yX7_within yX7_within, Cond.code yX7_within cX7_within 8 (some .int), Cond.methodLink RL 98 yL_listed, Cond.static yL_listed, Cond.codeWith yL_listed cL_listed 4 (some .int) [(0, 9, 12, 35)], Cond.classLink RL 35 "java/lang/IndexOutOfBoundsException", Cond.methodLink RL 32 yX6_listed, Cond.instanceMethod yX6_listed, Cond.selects RX6 yX6_listed yX6_listed, Cond.code yX6_listed cX6_listed 2 (some .int), Cond.classLink RX6 168 "java/lang/IndexOutOfBoundsException", Cond.initialized "java/lang/IndexOutOfBoundsException", Cond.fieldLink RX6 173 "NearTree$NearList" "ids" "[I", Cond.methodLink RX6 165 yX1_has, Cond.instanceMethod yX1_has, Cond.selects RX1 yX1_has yX1_has, Cond.code yX1_has cX1_has 2 (some .boolean)]
def wsL_law0_r18 : List Cond := [Cond.methodLink RL 100 yX7_listed, Cond.instanceMethod yX7_listed, Cond.selects RX7 yX7_listed yX7_listed, Cond.code yX7_listed cX7_listed 2 (some .int), Cond.methodLink RL 101 yL_distance, Cond.static yL_distance, Cond.codeWith yL_distance cL_distance 4 (some .int) [(0, 8, 11, 35)], Cond.methodLink RL 37 yX6_distance, Cond.instanceMethod yX6_distance, Cond.selects RX6 yX6_distance yX6_distance, Cond.code yX6_distance cX6_distance 2 (some .long), Cond.fieldLink RX6 179 "NearTree$NearList" "distances" "[J", Cond.methodLink RL 103 yX7_distance, Cond.instanceMethod yX7_distance, Cond.selects RX7 yX7_distance yX7_distance, Cond.code yX7_distance cX7_distance 2 (some .long), Cond.methodLink RL 104 yX6_looked, Cond.instanceMethod yX6_looked, Cond.selects RX6 yX6_looked yX6_looked, Cond.code yX6_looked cX6_looked 1 (some .int), Cond.methodLink RL 107 yX7_looked, Cond.instanceMethod yX7_looked, Cond.selects RX7 yX7_looked yX7_looked, Cond.code yX7_looked cX7_looked 1 (some .int)]
def wsL_law0_r19 : List Cond := [Cond.methodLink RL 108 yL_inBox, Cond.static yL_inBox, Cond.codeWith yL_inBox cL_inBox 9 (some .int) [(0, 18, 21, 13)], Cond.methodLink RL 41 yX6_inBox, Cond.instanceMethod yX6_inBox, Cond.selects RX6 yX6_inBox yX6_inBox, Cond.code yX6_inBox cX6_inBox 12 (some .int), Cond.methodLink RX6 183 yX6_isCountingAxis, Cond.instanceMethod yX6_isCountingAxis, Cond.selects RX6 yX6_isCountingAxis yX6_isCountingAxis, Cond.code yX6_isCountingAxis cX6_isCountingAxis 2 (some .boolean), Cond.methodLink RX6 188 yX3_isBetween, Cond.instanceMethod yX3_isBetween, Cond.selects RX3 yX3_isBetween yX3_isBetween, Cond.code yX3_isBetween cX3_isBetween 5 (some .boolean), Cond.methodLink RX3 26 yX3_number, Cond.methodLink RL 111 yX7_inBox, Cond.instanceMethod yX7_inBox, Cond.selects RX7 yX7_inBox yX7_inBox, Cond.code yX7_inBox cX7_inBox 9 (some .int), Cond.methodLink RL 112 yL_pair, Cond.static yL_pair, Cond.codeWith yL_pair cL_pair 4 (some .int) [(0, 8, 11, 13), (0, 8, 14, 15)], Cond.methodLink RL 45 yX6_pair]
def wsL_law0_r20 : List Cond := [Cond.instanceMethod yX6_pair, Cond.selects RX6 yX6_pair yX6_pair, Cond.code yX6_pair cX6_pair 2 (some .long), Cond.fieldLink RX6 200 "NearTree$Joins" "lesserId" "I", Cond.fieldLink RX6 203 "NearTree$Joins" "greaterId" "I", Cond.fieldLink RX6 206 "NearTree$Joins" "pairDistance" "J", Cond.methodLink RX6 196 yX0_findNearestPair, Cond.instanceMethod yX0_findNearestPair, Cond.selects RX0 yX0_findNearestPair yX0_findNearestPair, Cond.code yX0_findNearestPair cX0_findNearestPair 4 none, Cond.constantLong RX0 27 (9223372036854775807), Cond.fieldLink RX0 29 "NearTree$Joins" "pairDistance" "J", Cond.methodLink RX0 33 yX0_comparePair, Cond.instanceMethod yX0_comparePair, Cond.selects RX0 yX0_comparePair yX0_comparePair, Cond.code yX0_comparePair cX0_comparePair 5 none, Cond.fieldLink RX0 37 "NearTree$Node" "place" "LNearTree$Place;", Cond.fieldLink RX0 47 "NearTree$Node" "id" "I", Cond.fieldLink RX0 50 "NearTree$Joins" "lesserId" "I", Cond.fieldLink RX0 53 "NearTree$Joins" "greaterId" "I", Cond.methodLink RX0 41 yX3_distanceTo, Cond.methodLink RL 114 yX7_pair, Cond.instanceMethod yX7_pair, Cond.selects RX7 yX7_pair yX7_pair]
def wsL_law0_r21 : List Cond := [Cond.code yX7_pair cX7_pair 6 (some .long), Cond.constantLong RX7 166 (2), Cond.methodLink RX7 168 yX7_between, Cond.instanceMethod yX7_between, Cond.selects RX7 yX7_between yX7_between, Cond.code yX7_between cX7_between 8 (some .long), Cond.methodLink RL 115 yL_parts, Cond.static yL_parts, Cond.codeWith yL_parts cL_parts 5 (some .int) [(0, 9, 12, 13)], Cond.methodLink RL 48 yX6_parts, Cond.instanceMethod yX6_parts, Cond.selects RX6 yX6_parts yX6_parts, Cond.code yX6_parts cX6_parts 3 (some .int), Cond.methodLink RX6 212 yX0_joinAll, Cond.instanceMethod yX0_joinAll, Cond.selects RX0 yX0_joinAll yX0_joinAll, Cond.code yX0_joinAll cX0_joinAll 3 none, Cond.fieldLink RX0 21 "NearTree$Joins" "size" "I", Cond.methodLink RX0 56 yX0_gather, Cond.instanceMethod yX0_gather, Cond.selects RX0 yX0_gather yX0_gather, Cond.code yX0_gather cX0_gather 6 none, Cond.methodLink RX0 60 yX0_reachFrom, Cond.instanceMethod yX0_reachFrom]
def wsL_law0_r22 : List Cond := [Cond.selects RX0 yX0_reachFrom yX0_reachFrom, Cond.code yX0_reachFrom cX0_reachFrom 5 none, Cond.methodLink RX0 72 Lib.MathLoose.min_long.x, Cond.static Lib.MathLoose.min_long.x, Cond.code Lib.MathLoose.min_long.x Lib.MathLoose.min_long.code 4 (some .long), Cond.methodLink RX0 64 yX0_leastFrom, Cond.instanceMethod yX0_leastFrom, Cond.selects RX0 yX0_leastFrom yX0_leastFrom, Cond.code yX0_leastFrom cX0_leastFrom 4 (some .int), Cond.methodLink RX0 68 yX0_swap, Cond.instanceMethod yX0_swap, Cond.selects RX0 yX0_swap yX0_swap, Cond.code yX0_swap cX0_swap 6 none, Cond.methodLink RX6 215 yX0_partsWithin, Cond.instanceMethod yX0_partsWithin, Cond.selects RX0 yX0_partsWithin yX0_partsWithin, Cond.code yX0_partsWithin cX0_partsWithin 5 (some .int), Cond.methodLink RL 118 yX7_parts, Cond.instanceMethod yX7_parts, Cond.selects RX7 yX7_parts yX7_parts, Cond.code yX7_parts cX7_parts 8 (some .int), Cond.methodLink RL 119 yX6_span, Cond.instanceMethod yX6_span, Cond.selects RX6 yX6_span yX6_span]
def wsL_law0_r23 : List Cond := [Cond.code yX6_span cX6_span 1 (some .long), Cond.methodLink RX6 219 yX0_sum, Cond.instanceMethod yX0_sum, Cond.selects RX0 yX0_sum yX0_sum, Cond.code yX0_sum cX0_sum 4 (some .long), Cond.methodLink RL 123 yX7_span, Cond.instanceMethod yX7_span, Cond.selects RX7 yX7_span yX7_span, Cond.code yX7_span cX7_span 9 (some .long), Cond.methodLink RL 124 yL_node, Cond.static yL_node, Cond.codeWith yL_node cL_node 5 (some .int) [(0, 10, 13, 13), (0, 10, 17, 15)], Cond.methodLink RL 52 yX6_node, Cond.instanceMethod yX6_node, Cond.selects RX6 yX6_node yX6_node, Cond.code yX6_node cX6_node 5 (some .int), Cond.fieldLink RX6 227 "NearTree$Node" "above" "LNearTree$Node;", Cond.fieldLink RX6 230 "NearTree$Node" "depth" "I", Cond.fieldLink RX6 233 "NearTree$Node" "size" "I", Cond.fieldLink RX6 234 "NearTree$Node" "left" "LNearTree$Node;", Cond.methodLink RL 126 yX7_node, Cond.instanceMethod yX7_node, Cond.selects RX7 yX7_node yX7_node, Cond.code yX7_node cX7_node 5 (some .int)]
def wsL_law0_r24 : List Cond := [Cond.constantLong RX7 172 (4), Cond.methodLink RL 127 yL_walk, Cond.static yL_walk, Cond.codeWith yL_walk cL_walk 4 (some .int) [(0, 9, 12, 35)], Cond.methodLink RL 55 yX6_walk, Cond.instanceMethod yX6_walk, Cond.selects RX6 yX6_walk yX6_walk, Cond.code yX6_walk cX6_walk 3 (some .int), Cond.methodLink RX6 237 yX5_nodeOnWalk, Cond.methodLink RL 129 yX7_walk, Cond.instanceMethod yX7_walk, Cond.selects RX7 yX7_walk yX7_walk, Cond.code yX7_walk cX7_walk 3 (some .int), Cond.methodLink RL 130 yL_count, Cond.static yL_count, Cond.codeWith yL_count cL_count 4 (some .int) [(0, 9, 12, 13)], Cond.methodLink RL 58 yX6_count, Cond.instanceMethod yX6_count, Cond.selects RX6 yX6_count yX6_count, Cond.code yX6_count cX6_count 2 (some .int), Cond.fieldLink RX6 246 "NearTree$Tree" "builtPoints" "I", Cond.methodLink RX6 243 yX5_levels, Cond.instanceMethod yX5_levels, Cond.selects RX5 yX5_levels yX5_levels]
def wsL_law0_r25 : List Cond := [Cond.code yX5_levels cX5_levels 5 (some .int), Cond.methodLink RX5 93 Lib.Math.max.name, Cond.methodLink RX5 89 yX5_nodeCount, Cond.methodLink RL 132 yX7_count, Cond.instanceMethod yX7_count, Cond.selects RX7 yX7_count yX7_count, Cond.code yX7_count cX7_count 5 (some .int), Cond.constantLong RX7 174 (7)]
def wsL_law0 : List Cond := (wsL_law0_r1 ++ (wsL_law0_r2 ++ (wsL_law0_r3 ++ (wsL_law0_r4 ++ (wsL_law0_r5 ++ (wsL_law0_r6 ++ (wsL_law0_r7 ++ (wsL_law0_r8 ++ (wsL_law0_r9 ++ (wsL_law0_r10 ++ (wsL_law0_r11 ++ (wsL_law0_r12 ++ (wsL_law0_r13 ++ (wsL_law0_r14 ++ (wsL_law0_r15 ++ (wsL_law0_r16 ++ (wsL_law0_r17 ++ (wsL_law0_r18 ++ (wsL_law0_r19 ++ (wsL_law0_r20 ++ (wsL_law0_r21 ++ (wsL_law0_r22 ++ (wsL_law0_r23 ++ (wsL_law0_r24 ++ wsL_law0_r25)))))))))))))))))))))))) ++ wsX60 ++ wsX70 ++ wsX50 ++ wsX10 ++ wsX00 ++ wsX20 ++ wsX30 ++ wsX40 ++ ([] : List Cond)
def wsL_law : List Cond := wsL_law0 ++ (vx_atS RX6 63 "java/lang/IllegalArgumentException" ["java/lang/RuntimeException", "java/lang/Exception"]).filter goodWord ++ (vx_atS RX6 73 "java/lang/IllegalStateException" ["java/lang/RuntimeException", "java/lang/Exception"]).filter goodWord ++ (vx_atS RX6 172 "java/lang/IndexOutOfBoundsException" ["java/lang/RuntimeException", "java/lang/Exception"]).filter goodWord
abbrev vwCl : List vw_C := [(RX0, TX0, 6), (RX1, TX1, 4), (RX2, TX2, 9), (RX3, TX3, 4), (RX4, TX4, 3), (RX5, TX5, 4), (RX6, TX6, 9), (RX7, TX7, 31)]
end
section
set_option maxRecDepth 20000 in
theorem ggX0_findNearestPair_X0_comparePair : GoodIn wsX0_findNearestPair wsX0_comparePair := goodIn_r _ [7, 8, 2, 9, 10, 11, 12, 13, 14, 15, 16, 17, 18, 19, 20, 21, 22, 23, 30, 31, 32, 33, 34, 35, 36, 37, 38, 24, 25, 26, 27, 28, 29, 39, 40, 41, 42] (by decide +kernel) (by decide +kernel)
set_option maxRecDepth 20000 in
theorem gX0_findNearestPair_X0_comparePair : GoodIn wsX0_findNearestPair (wsV RX0 33 RX0 yX0_comparePair wsX0_comparePair) := goodIn_app (goodIn_of _ (by decide +kernel)) ggX0_findNearestPair_X0_comparePair
set_option maxRecDepth 20000 in
theorem ggX0_comparePair_X3_distanceTo : GoodIn wsX0_comparePair wsX3_distanceTo := goodIn_r _ [10, 11, 12, 13, 14, 15, 16, 9, 17, 33, 34, 35, 36] (by decide +kernel) (by decide +kernel)
set_option maxRecDepth 20000 in
theorem gX0_comparePair_X3_distanceTo : GoodIn wsX0_comparePair (wsV RX0 41 RX3 yX3_distanceTo wsX3_distanceTo) := goodIn_app (goodIn_of _ (by decide +kernel)) ggX0_comparePair_X3_distanceTo
set_option maxRecDepth 20000 in
theorem ggX0_joinAll_X0_gather : GoodIn wsX0_joinAll wsX0_gather := goodIn_r _ [9, 1, 4, 39, 40, 41, 42, 43, 44] (by decide +kernel) (by decide +kernel)
set_option maxRecDepth 20000 in
theorem gX0_joinAll_X0_gather : GoodIn wsX0_joinAll (wsV RX0 56 RX0 yX0_gather wsX0_gather) := goodIn_app (goodIn_of _ (by decide +kernel)) ggX0_joinAll_X0_gather
set_option maxRecDepth 20000 in
theorem ggX0_joinAll_X0_reachFrom : GoodIn wsX0_joinAll wsX0_reachFrom := goodIn_r _ [13, 1, 4, 2, 14, 15, 16, 17, 18, 19, 20, 21, 22, 23, 24, 25, 26, 27, 28, 29, 30, 39, 40, 41, 42, 43, 44, 45, 46, 47, 48, 49, 50, 51, 52, 53, 54, 55, 56, 57] (by decide +kernel) (by decide +kernel)
set_option maxRecDepth 20000 in
theorem gX0_joinAll_X0_reachFrom : GoodIn wsX0_joinAll (wsV RX0 60 RX0 yX0_reachFrom wsX0_reachFrom) := goodIn_app (goodIn_of _ (by decide +kernel)) ggX0_joinAll_X0_reachFrom
set_option maxRecDepth 20000 in
theorem ggX0_joinAll_X0_leastFrom : GoodIn wsX0_joinAll wsX0_leastFrom := goodIn_r _ [34, 1, 2, 39, 40, 41, 42, 43, 44] (by decide +kernel) (by decide +kernel)
set_option maxRecDepth 20000 in
theorem gX0_joinAll_X0_leastFrom : GoodIn wsX0_joinAll (wsV RX0 64 RX0 yX0_leastFrom wsX0_leastFrom) := goodIn_app (goodIn_of _ (by decide +kernel)) ggX0_joinAll_X0_leastFrom
set_option maxRecDepth 20000 in
theorem ggX0_joinAll_X0_swap : GoodIn wsX0_joinAll wsX0_swap := goodIn_r _ [38, 4, 2, 39, 40, 41, 42, 43, 44] (by decide +kernel) (by decide +kernel)
set_option maxRecDepth 20000 in
theorem gX0_joinAll_X0_swap : GoodIn wsX0_joinAll (wsV RX0 68 RX0 yX0_swap wsX0_swap) := goodIn_app (goodIn_of _ (by decide +kernel)) ggX0_joinAll_X0_swap
set_option maxRecDepth 20000 in
theorem ggX0_reachFrom_X3_distanceTo : GoodIn wsX0_reachFrom wsX3_distanceTo := goodIn_r _ [13, 14, 15, 16, 17, 18, 19, 12, 20, 36, 37, 38, 39] (by decide +kernel) (by decide +kernel)
set_option maxRecDepth 20000 in
theorem gX0_reachFrom_X3_distanceTo : GoodIn wsX0_reachFrom (wsV RX0 41 RX3 yX3_distanceTo wsX3_distanceTo) := goodIn_app (goodIn_of _ (by decide +kernel)) ggX0_reachFrom_X3_distanceTo
set_option maxRecDepth 20000 in
theorem ggX1_offer_X1_isFull : GoodIn wsX1_offer wsX1_isFull := goodIn_r _ [9, 2, 1, 14, 15, 16, 17] (by decide +kernel) (by decide +kernel)
set_option maxRecDepth 20000 in
theorem gX1_offer_X1_isFull : GoodIn wsX1_offer (wsV RX1 35 RX1 yX1_isFull wsX1_isFull) := goodIn_app (goodIn_of _ (by decide +kernel)) ggX1_offer_X1_isFull
set_option maxRecDepth 20000 in
theorem ggX1_offer_X1_isAhead : GoodIn wsX1_offer wsX1_isAhead := goodIn_r _ [13, 4, 3, 14, 15, 16, 17] (by decide +kernel) (by decide +kernel)
set_option maxRecDepth 20000 in
theorem gX1_offer_X1_isAhead : GoodIn wsX1_offer (wsV RX1 39 RX1 yX1_isAhead wsX1_isAhead) := goodIn_app (goodIn_of _ (by decide +kernel)) ggX1_offer_X1_isAhead
set_option maxRecDepth 20000 in
theorem ggX1_shutsOut_X1_isFull : GoodIn wsX1_shutsOut wsX1_isFull := goodIn_r _ [7, 1, 8, 9, 10, 11, 12] (by decide +kernel) (by decide +kernel)
set_option maxRecDepth 20000 in
theorem gX1_shutsOut_X1_isFull : GoodIn wsX1_shutsOut (wsV RX1 35 RX1 yX1_isFull wsX1_isFull) := goodIn_app (goodIn_of _ (by decide +kernel)) ggX1_shutsOut_X1_isFull
set_option maxRecDepth 20000 in
theorem ggX2_isLess_X3_number : GoodIn wsX2_isLess wsX3_number := goodIn_r _ [7, 8, 9, 10, 11, 21, 22, 23, 24] (by decide +kernel) (by decide +kernel)
set_option maxRecDepth 20000 in
theorem gX2_isLess_X3_number : GoodIn wsX2_isLess (wsV RX2 20 RX3 yX3_number wsX3_number) := goodIn_app (goodIn_of _ (by decide +kernel)) ggX2_isLess_X3_number
set_option maxRecDepth 20000 in
theorem ggX2_sideOf_X2_isLess : GoodIn wsX2_sideOf wsX2_isLess := goodIn_r _ [8, 9, 10, 11, 12, 13, 14, 15, 16, 17, 18, 19, 20, 21, 22, 23, 24, 25, 26, 27, 28, 29, 30, 31, 32] (by decide +kernel) (by decide +kernel)
set_option maxRecDepth 20000 in
theorem gX2_sideOf_X2_isLess : GoodIn wsX2_sideOf (wsV RX2 29 RX2 yX2_isLess wsX2_isLess) := goodIn_app (goodIn_of _ (by decide +kernel)) ggX2_sideOf_X2_isLess
set_option maxRecDepth 20000 in
theorem ggX2_leans_X2_sizeOf : GoodIn wsX2_leans wsX2_sizeOf := goodIn_r _ [11, 7, 12, 13, 14, 15, 16, 17, 18, 19, 20] (by decide +kernel) (by decide +kernel)
set_option maxRecDepth 20000 in
theorem gX2_leans_X2_sizeOf : GoodIn wsX2_leans (va_wsS RX2 40 yX2_sizeOf wsX2_sizeOf) := goodIn_app (goodIn_of _ (by decide +kernel)) ggX2_leans_X2_sizeOf
set_option maxRecDepth 20000 in
theorem ggX3_distanceTo_X3_square : GoodIn wsX3_distanceTo wsX3_square := goodIn_r _ [8] (by decide +kernel) (by decide +kernel)
set_option maxRecDepth 20000 in
theorem gX3_distanceTo_X3_square : GoodIn wsX3_distanceTo (va_wsS RX3 22 yX3_square wsX3_square) := goodIn_app (goodIn_of _ (by decide +kernel)) ggX3_distanceTo_X3_square
set_option maxRecDepth 20000 in
theorem ggX3_isBetween_X3_number : GoodIn wsX3_isBetween wsX3_number := goodIn_r _ [5, 6, 7, 8, 9, 10, 11, 12, 13] (by decide +kernel) (by decide +kernel)
set_option maxRecDepth 20000 in
theorem gX3_isBetween_X3_number : GoodIn wsX3_isBetween (wsV RX3 26 RX3 yX3_number wsX3_number) := goodIn_app (goodIn_of _ (by decide +kernel)) ggX3_isBetween_X3_number
set_option maxRecDepth 20000 in
theorem ggX4_start_X4_lookAt : GoodIn wsX4_start wsX4_lookAt := goodIn_r _ [6, 1, 7, 8, 9, 10, 11, 12, 13, 14, 15, 16, 17, 18, 19, 20, 21, 22, 23, 24, 25, 26, 27, 28, 29, 30, 31, 32, 33, 34, 35, 36, 37, 38, 39, 40, 41, 42, 43, 44, 45, 46, 47, 2, 3, 4, 5, 48, 49, 50, 51, 52, 53, 54, 55, 56, 57, 58, 59, 60, 61, 62, 63, 64, 65, 66, 67, 68, 69, 70, 71, 72] (by decide +kernel) (by decide +kernel)
set_option maxRecDepth 20000 in
theorem gX4_start_X4_lookAt : GoodIn wsX4_start (wsV RX4 23 RX4 yX4_lookAt wsX4_lookAt) := goodIn_app (goodIn_of _ (by decide +kernel)) ggX4_start_X4_lookAt
set_option maxRecDepth 20000 in
theorem ggX4_lookAt_X3_distanceTo : GoodIn wsX4_lookAt wsX3_distanceTo := goodIn_r _ [14, 15, 16, 17, 18, 19, 20, 13, 21, 64, 65, 66, 67] (by decide +kernel) (by decide +kernel)
set_option maxRecDepth 20000 in
theorem gX4_lookAt_X3_distanceTo : GoodIn wsX4_lookAt (wsV RX4 37 RX3 yX3_distanceTo wsX3_distanceTo) := goodIn_app (goodIn_of _ (by decide +kernel)) ggX4_lookAt_X3_distanceTo
set_option maxRecDepth 20000 in
theorem ggX4_lookAt_X1_offer : GoodIn wsX4_lookAt wsX1_offer := goodIn_r _ [26, 27, 28, 29, 30, 31, 32, 33, 25, 34, 35, 36, 37, 38, 68, 69, 70, 71] (by decide +kernel) (by decide +kernel)
set_option maxRecDepth 20000 in
theorem gX4_lookAt_X1_offer : GoodIn wsX4_lookAt (wsV RX4 43 RX1 yX1_offer wsX1_offer) := goodIn_app (goodIn_of _ (by decide +kernel)) ggX4_lookAt_X1_offer
set_option maxRecDepth 20000 in
theorem ggX4_lookAt_X3_number : GoodIn wsX4_lookAt wsX3_number := goodIn_r _ [42, 15, 16, 17, 18, 64, 65, 66, 67] (by decide +kernel) (by decide +kernel)
set_option maxRecDepth 20000 in
theorem gX4_lookAt_X3_number : GoodIn wsX4_lookAt (wsV RX4 52 RX3 yX3_number wsX3_number) := goodIn_app (goodIn_of _ (by decide +kernel)) ggX4_lookAt_X3_number
set_option maxRecDepth 20000 in
theorem ggX4_lookAt_X4_lookAt : GoodIn wsX4_lookAt wsX4_lookAt := goodIn_r _ [0, 1, 2, 3, 4, 5, 6, 7, 8, 9, 10, 11, 12, 13, 14, 15, 16, 17, 18, 19, 20, 21, 22, 23, 24, 25, 26, 27, 28, 29, 30, 31, 32, 33, 34, 35, 36, 37, 38, 39, 40, 41, 42, 43, 44, 45, 46, 47, 48, 49, 50, 51, 52, 53, 54, 55, 56, 57, 58, 59, 60, 61, 62, 63, 64, 65, 66, 67, 68, 69, 70, 71] (by decide +kernel) (by decide +kernel)
set_option maxRecDepth 20000 in
theorem gX4_lookAt_X4_lookAt : GoodIn wsX4_lookAt (wsV RX4 23 RX4 yX4_lookAt wsX4_lookAt) := goodIn_app (goodIn_of _ (by decide +kernel)) ggX4_lookAt_X4_lookAt
set_option maxRecDepth 20000 in
theorem ggX4_lookAt_X3_square : GoodIn wsX4_lookAt wsX3_square := goodIn_r _ [21] (by decide +kernel) (by decide +kernel)
set_option maxRecDepth 20000 in
theorem gX4_lookAt_X3_square : GoodIn wsX4_lookAt (va_wsS RX4 63 yX3_square wsX3_square) := goodIn_app (goodIn_of _ (by decide +kernel)) ggX4_lookAt_X3_square
set_option maxRecDepth 20000 in
theorem ggX4_lookAt_X1_shutsOut : GoodIn wsX4_lookAt wsX1_shutsOut := goodIn_r _ [51, 28, 30, 31, 32, 33, 25, 34, 27, 68, 69, 70, 71] (by decide +kernel) (by decide +kernel)
set_option maxRecDepth 20000 in
theorem gX4_lookAt_X1_shutsOut : GoodIn wsX4_lookAt (wsV RX4 67 RX1 yX1_shutsOut wsX1_shutsOut) := goodIn_app (goodIn_of _ (by decide +kernel)) ggX4_lookAt_X1_shutsOut
set_option maxRecDepth 20000 in
theorem ggX5_nodeCount_X2_sizeOf : GoodIn wsX5_nodeCount wsX2_sizeOf := goodIn_r _ [5, 6, 11, 12, 13, 14, 15, 16, 17, 18, 19] (by decide +kernel) (by decide +kernel)
set_option maxRecDepth 20000 in
theorem gX5_nodeCount_X2_sizeOf : GoodIn wsX5_nodeCount (va_wsS RX5 25 yX2_sizeOf wsX2_sizeOf) := goodIn_app (goodIn_of _ (by decide +kernel)) ggX5_nodeCount_X2_sizeOf
set_option maxRecDepth 20000 in
theorem ggX5_hang_X2_sideOf : GoodIn wsX5_hang wsX2_sideOf := goodIn_r _ [12, 13, 14, 15, 16, 17, 18, 11, 19, 20, 21, 22, 23, 24, 25, 26, 27, 28, 29, 30, 42, 43, 44, 45, 46, 47, 48, 49, 50, 51, 52, 53, 54] (by decide +kernel) (by decide +kernel)
set_option maxRecDepth 20000 in
theorem gX5_hang_X2_sideOf : GoodIn wsX5_hang (wsV RX5 32 RX2 yX2_sideOf wsX2_sideOf) := goodIn_app (goodIn_of _ (by decide +kernel)) ggX5_hang_X2_sideOf
set_option maxRecDepth 20000 in
theorem ggX5_hang_X5_axisBehind : GoodIn wsX5_hang wsX5_axisBehind := goodIn_r _ [35, 36, 38, 39, 40, 41] (by decide +kernel) (by decide +kernel)
set_option maxRecDepth 20000 in
theorem gX5_hang_X5_axisBehind : GoodIn wsX5_hang (wsV RX5 45 RX5 yX5_axisBehind wsX5_axisBehind) := goodIn_app (goodIn_of _ (by decide +kernel)) ggX5_hang_X5_axisBehind
set_option maxRecDepth 20000 in
theorem ggX5_hang_X2_isLess : GoodIn wsX5_hang wsX2_isLess := goodIn_r _ [19, 20, 21, 22, 23, 24, 25, 26, 27, 28, 29, 30, 42, 43, 44, 45, 46, 47, 48, 49, 50, 51, 52, 53, 54] (by decide +kernel) (by decide +kernel)
set_option maxRecDepth 20000 in
theorem gX5_hang_X2_isLess : GoodIn wsX5_hang (wsV RX5 49 RX2 yX2_isLess wsX2_isLess) := goodIn_app (goodIn_of _ (by decide +kernel)) ggX5_hang_X2_isLess
set_option maxRecDepth 20000 in
theorem ggX5_firstLeaningAbove_X2_leans : GoodIn wsX5_firstLeaningAbove wsX2_leans := goodIn_r _ [6, 7, 8, 9, 10, 11, 12, 13, 14, 15, 5, 16, 41, 42, 43, 44, 45, 46, 47, 48, 49] (by decide +kernel) (by decide +kernel)
set_option maxRecDepth 20000 in
theorem gX5_firstLeaningAbove_X2_leans : GoodIn wsX5_firstLeaningAbove (wsV RX5 59 RX2 yX2_leans wsX2_leans) := goodIn_app (goodIn_of _ (by decide +kernel)) ggX5_firstLeaningAbove_X2_leans
set_option maxRecDepth 20000 in
theorem ggX5_firstLeaningAbove_X2_sideOf : GoodIn wsX5_firstLeaningAbove wsX2_sideOf := goodIn_r _ [20, 21, 7, 8, 22, 23, 24, 5, 25, 26, 27, 28, 29, 30, 31, 32, 33, 34, 35, 36, 41, 42, 43, 44, 45, 46, 47, 48, 49, 50, 51, 52, 53] (by decide +kernel) (by decide +kernel)
set_option maxRecDepth 20000 in
theorem gX5_firstLeaningAbove_X2_sideOf : GoodIn wsX5_firstLeaningAbove (wsV RX5 32 RX2 yX2_sideOf wsX2_sideOf) := goodIn_app (goodIn_of _ (by decide +kernel)) ggX5_firstLeaningAbove_X2_sideOf
set_option maxRecDepth 20000 in
theorem ggX5_buildAnew_X5_gatherLive : GoodIn wsX5_buildAnew wsX5_gatherLive := goodIn_r _ [13, 3, 14, 15, 16, 17, 12, 18, 2, 7, 19, 20, 21, 22, 23, 55, 56, 57, 58, 59, 60, 61, 62, 63, 64, 65, 66, 67] (by decide +kernel) (by decide +kernel)
set_option maxRecDepth 20000 in
theorem gX5_buildAnew_X5_gatherLive : GoodIn wsX5_buildAnew (wsV RX5 63 RX5 yX5_gatherLive wsX5_gatherLive) := goodIn_app (goodIn_of _ (by decide +kernel)) ggX5_buildAnew_X5_gatherLive
set_option maxRecDepth 20000 in
theorem ggX5_buildAnew_X5_build : GoodIn wsX5_buildAnew wsX5_build := goodIn_r _ [27, 14, 1, 4, 5, 3, 2, 7, 28, 29, 30, 12, 31, 32, 33, 34, 35, 36, 37, 21, 38, 39, 40, 41, 42, 43, 44, 45, 46, 47, 48, 49, 50, 51, 52, 53, 54, 24, 25, 26, 64, 65, 66, 67, 55, 56, 57, 58, 59, 60, 61, 62, 63, 68, 69, 70, 71] (by decide +kernel) (by decide +kernel)
set_option maxRecDepth 20000 in
theorem gX5_buildAnew_X5_build : GoodIn wsX5_buildAnew (wsV RX5 66 RX5 yX5_build wsX5_build) := goodIn_app (goodIn_of _ (by decide +kernel)) ggX5_buildAnew_X5_build
set_option maxRecDepth 20000 in
theorem ggX5_gatherLive_X5_nodeOnWalk : GoodIn wsX5_gatherLive wsX5_nodeOnWalk := goodIn_r _ [7, 8, 9, 10, 11, 12, 13, 14, 15, 16, 17, 18, 19, 20, 21, 22, 23] (by decide +kernel) (by decide +kernel)
set_option maxRecDepth 20000 in
theorem gX5_gatherLive_X5_nodeOnWalk : GoodIn wsX5_gatherLive (va_wsS RX5 73 yX5_nodeOnWalk wsX5_nodeOnWalk) := goodIn_app (goodIn_of _ (by decide +kernel)) ggX5_gatherLive_X5_nodeOnWalk
set_option maxRecDepth 20000 in
theorem ggX5_build_X5_order : GoodIn wsX5_build wsX5_order := goodIn_r _ [12, 1, 13, 14, 11, 15, 16, 17, 18, 19, 20, 21, 22, 23, 24, 25, 26, 27, 28, 29, 30, 31, 40, 41, 42, 43, 44, 45, 46, 47, 48, 49, 50, 51, 52, 53, 54, 55, 56] (by decide +kernel) (by decide +kernel)
set_option maxRecDepth 20000 in
theorem gX5_build_X5_order : GoodIn wsX5_build (wsV RX5 81 RX5 yX5_order wsX5_order) := goodIn_app (goodIn_of _ (by decide +kernel)) ggX5_build_X5_order
set_option maxRecDepth 20000 in
theorem ggX5_build_X5_axisBehind : GoodIn wsX5_build wsX5_axisBehind := goodIn_r _ [35, 36, 40, 41, 42, 43] (by decide +kernel) (by decide +kernel)
set_option maxRecDepth 20000 in
theorem gX5_build_X5_axisBehind : GoodIn wsX5_build (wsV RX5 45 RX5 yX5_axisBehind wsX5_axisBehind) := goodIn_app (goodIn_of _ (by decide +kernel)) ggX5_build_X5_axisBehind
set_option maxRecDepth 20000 in
theorem ggX5_build_X5_build : GoodIn wsX5_build wsX5_build := goodIn_r _ [0, 1, 2, 3, 4, 5, 6, 7, 8, 9, 10, 11, 12, 13, 14, 15, 16, 17, 18, 19, 20, 21, 22, 23, 24, 25, 26, 27, 28, 29, 30, 31, 32, 33, 34, 35, 36, 37, 38, 39, 40, 41, 42, 43, 44, 45, 46, 47, 48, 49, 50, 51, 52, 53, 54, 55, 56] (by decide +kernel) (by decide +kernel)
set_option maxRecDepth 20000 in
theorem gX5_build_X5_build : GoodIn wsX5_build (wsV RX5 66 RX5 yX5_build wsX5_build) := goodIn_app (goodIn_of _ (by decide +kernel)) ggX5_build_X5_build
set_option maxRecDepth 20000 in
theorem ggX5_order_X5_isAhead : GoodIn wsX5_order wsX5_isAhead := goodIn_r _ [5, 6, 7, 8, 9, 10, 11, 12, 13, 14, 15, 16, 17, 18, 19, 20, 21, 26, 27, 28, 29, 30, 31, 32, 33, 34, 35, 36, 37, 38] (by decide +kernel) (by decide +kernel)
set_option maxRecDepth 20000 in
theorem gX5_order_X5_isAhead : GoodIn wsX5_order (va_wsS RX5 85 yX5_isAhead wsX5_isAhead) := goodIn_app (goodIn_of _ (by decide +kernel)) ggX5_order_X5_isAhead
set_option maxRecDepth 20000 in
theorem ggX5_isAhead_X2_isLess : GoodIn wsX5_isAhead wsX2_isLess := goodIn_r _ [5, 6, 7, 8, 9, 10, 11, 12, 13, 14, 15, 16, 17, 18, 19, 20, 21, 22, 23, 24, 25, 26, 27, 28, 29] (by decide +kernel) (by decide +kernel)
set_option maxRecDepth 20000 in
theorem gX5_isAhead_X2_isLess : GoodIn wsX5_isAhead (wsV RX5 49 RX2 yX2_isLess wsX2_isLess) := goodIn_app (goodIn_of _ (by decide +kernel)) ggX5_isAhead_X2_isLess
set_option maxRecDepth 20000 in
theorem ggX5_nodeOnWalk_X2_sizeOf : GoodIn wsX5_nodeOnWalk wsX2_sizeOf := goodIn_r _ [6, 7, 8, 9, 10, 11, 12, 13, 14, 15, 16] (by decide +kernel) (by decide +kernel)
set_option maxRecDepth 20000 in
theorem gX5_nodeOnWalk_X2_sizeOf : GoodIn wsX5_nodeOnWalk (va_wsS RX5 25 yX2_sizeOf wsX2_sizeOf) := goodIn_app (goodIn_of _ (by decide +kernel)) ggX5_nodeOnWalk_X2_sizeOf
set_option maxRecDepth 20000 in
theorem ggX5_levels_X5_nodeCount : GoodIn wsX5_levels wsX5_nodeCount := goodIn_r _ [11, 1, 12, 13, 14, 15, 16, 22, 23, 24, 25, 26, 27, 28, 29, 30, 31, 32, 33, 34] (by decide +kernel) (by decide +kernel)
set_option maxRecDepth 20000 in
theorem gX5_levels_X5_nodeCount : GoodIn wsX5_levels (wsV RX5 89 RX5 yX5_nodeCount wsX5_nodeCount) := goodIn_app (goodIn_of _ (by decide +kernel)) ggX5_levels_X5_nodeCount
set_option maxRecDepth 20000 in
theorem ggX5_levels_X5_nodeOnWalk : GoodIn wsX5_levels wsX5_nodeOnWalk := goodIn_r _ [19, 20, 21, 12, 13, 14, 15, 16, 26, 27, 28, 29, 30, 31, 32, 33, 34] (by decide +kernel) (by decide +kernel)
set_option maxRecDepth 20000 in
theorem gX5_levels_X5_nodeOnWalk : GoodIn wsX5_levels (va_wsS RX5 73 yX5_nodeOnWalk wsX5_nodeOnWalk) := goodIn_app (goodIn_of _ (by decide +kernel)) ggX5_levels_X5_nodeOnWalk
set_option maxRecDepth 20000 in
theorem ggX6_init_X5_init : GoodIn wsX6_init wsX5_init := goodIn_r _ [28, 29, 2, 3, 30, 31, 32, 57, 58, 59, 60] (by decide +kernel) (by decide +kernel)
set_option maxRecDepth 20000 in
theorem gX6_init_X5_init : GoodIn wsX6_init (wsX5_init) := ggX6_init_X5_init
set_option maxRecDepth 20000 in
theorem ggX6_init_X1_init : GoodIn wsX6_init wsX1_init := goodIn_r _ [35, 36, 2, 3, 37, 38, 39, 40, 61, 62, 63, 64] (by decide +kernel) (by decide +kernel)
set_option maxRecDepth 20000 in
theorem gX6_init_X1_init : GoodIn wsX6_init (wsX1_init) := ggX6_init_X1_init
set_option maxRecDepth 20000 in
theorem ggX6_init_X0_init : GoodIn wsX6_init wsX0_init := goodIn_r _ [43, 44, 2, 3, 45, 46, 39, 47, 65, 66, 67, 68, 69, 70] (by decide +kernel) (by decide +kernel)
set_option maxRecDepth 20000 in
theorem gX6_init_X0_init : GoodIn wsX6_init (wsX0_init) := ggX6_init_X0_init
set_option maxRecDepth 20000 in
theorem ggX6_put_X6_isId : GoodIn wsX6_put wsX6_isId := goodIn_r _ [19] (by decide +kernel) (by decide +kernel)
set_option maxRecDepth 20000 in
theorem gX6_put_X6_isId : GoodIn wsX6_put (va_wsS RX6 51 yX6_isId wsX6_isId) := goodIn_app (goodIn_of _ (by decide +kernel)) ggX6_put_X6_isId
set_option maxRecDepth 20000 in
theorem ggX6_put_X6_isPlace : GoodIn wsX6_put wsX6_isPlace := goodIn_r _ [23, 13, 24, 25, 18, 26, 118, 119, 120, 121, 122, 123, 124, 125, 126] (by decide +kernel) (by decide +kernel)
set_option maxRecDepth 20000 in
theorem gX6_put_X6_isPlace : GoodIn wsX6_put (wsV RX6 55 RX6 yX6_isPlace wsX6_isPlace) := goodIn_app (goodIn_of _ (by decide +kernel)) ggX6_put_X6_isPlace
set_option maxRecDepth 20000 in
theorem ggX6_put_X3_init : GoodIn wsX6_put wsX3_init := goodIn_r _ [29, 30, 31, 32, 33, 34, 35, 36, 136, 137, 138, 139] (by decide +kernel) (by decide +kernel)
set_option maxRecDepth 20000 in
theorem gX6_put_X3_init : GoodIn wsX6_put (wsX3_init) := ggX6_put_X3_init
set_option maxRecDepth 20000 in
theorem ggX6_put_X2_init : GoodIn wsX6_put wsX2_init := goodIn_r _ [39, 40, 31, 32, 41, 42, 43, 127, 128, 129, 130, 131, 132, 133, 134, 135] (by decide +kernel) (by decide +kernel)
set_option maxRecDepth 20000 in
theorem gX6_put_X2_init : GoodIn wsX6_put (wsX2_init) := ggX6_put_X2_init
set_option maxRecDepth 20000 in
theorem ggX6_put_X5_hang : GoodIn wsX6_put wsX5_hang := goodIn_r _ [48, 49, 50, 51, 52, 53, 54, 55, 56, 57, 58, 9, 59, 60, 61, 62, 63, 64, 65, 66, 42, 41, 67, 68, 69, 12, 70, 33, 34, 35, 36, 71, 72, 73, 47, 74, 75, 76, 140, 141, 142, 143, 127, 128, 129, 130, 131, 132, 133, 134, 135, 136, 137, 138, 139] (by decide +kernel) (by decide +kernel)
set_option maxRecDepth 20000 in
theorem gX6_put_X5_hang : GoodIn wsX6_put (wsV RX6 82 RX5 yX5_hang wsX5_hang) := goodIn_app (goodIn_of _ (by decide +kernel)) ggX6_put_X5_hang
set_option maxRecDepth 20000 in
theorem ggX6_put_X5_firstLeaningAbove : GoodIn wsX6_put wsX5_firstLeaningAbove := goodIn_r _ [80, 49, 81, 82, 83, 9, 84, 61, 62, 85, 86, 87, 88, 43, 89, 90, 91, 56, 57, 58, 59, 60, 63, 64, 65, 66, 42, 41, 67, 68, 69, 12, 70, 33, 34, 35, 36, 140, 141, 142, 143, 127, 128, 129, 130, 131, 132, 133, 134, 135, 136, 137, 138, 139] (by decide +kernel) (by decide +kernel)
set_option maxRecDepth 20000 in
theorem gX6_put_X5_firstLeaningAbove : GoodIn wsX6_put (wsV RX6 86 RX5 yX5_firstLeaningAbove wsX5_firstLeaningAbove) := goodIn_app (goodIn_of _ (by decide +kernel)) ggX6_put_X5_firstLeaningAbove
set_option maxRecDepth 20000 in
theorem ggX6_put_X5_buildAnew : GoodIn wsX6_put wsX5_buildAnew := goodIn_r _ [95, 51, 54, 50, 52, 53, 49, 55, 96, 97, 98, 99, 47, 100, 101, 102, 103, 104, 105, 106, 90, 9, 91, 43, 107, 108, 109, 110, 111, 112, 113, 114, 115, 116, 117, 76, 64, 65, 66, 42, 41, 67, 68, 69, 12, 70, 33, 34, 35, 36, 71, 72, 73, 74, 75, 127, 128, 129, 130, 131, 132, 133, 134, 135, 140, 141, 142, 143, 136, 137, 138, 139] (by decide +kernel) (by decide +kernel)
set_option maxRecDepth 20000 in
theorem gX6_put_X5_buildAnew : GoodIn wsX6_put (wsV RX6 93 RX5 yX5_buildAnew wsX5_buildAnew) := goodIn_app (goodIn_of _ (by decide +kernel)) ggX6_put_X5_buildAnew
set_option maxRecDepth 20000 in
theorem ggX6_drop_X6_isId : GoodIn wsX6_drop wsX6_isId := goodIn_r _ [14] (by decide +kernel) (by decide +kernel)
set_option maxRecDepth 20000 in
theorem gX6_drop_X6_isId : GoodIn wsX6_drop (va_wsS RX6 51 yX6_isId wsX6_isId) := goodIn_app (goodIn_of _ (by decide +kernel)) ggX6_drop_X6_isId
set_option maxRecDepth 20000 in
theorem ggX6_drop_X6_deadCount : GoodIn wsX6_drop wsX6_deadCount := goodIn_r _ [18, 8, 7, 19, 20, 21, 22, 23, 24, 25, 26, 27, 28, 29, 81, 82, 83, 84, 85, 86, 87, 88, 89, 99, 100, 101, 102, 90, 91, 92, 93, 94, 95, 96, 97, 98] (by decide +kernel) (by decide +kernel)
set_option maxRecDepth 20000 in
theorem gX6_drop_X6_deadCount : GoodIn wsX6_drop (wsV RX6 104 RX6 yX6_deadCount wsX6_deadCount) := goodIn_app (goodIn_of _ (by decide +kernel)) ggX6_drop_X6_deadCount
set_option maxRecDepth 20000 in
theorem ggX6_drop_X5_nodeCount : GoodIn wsX6_drop wsX5_nodeCount := goodIn_r _ [23, 24, 25, 26, 27, 28, 29, 99, 100, 101, 102, 90, 91, 92, 93, 94, 95, 96, 97, 98] (by decide +kernel) (by decide +kernel)
set_option maxRecDepth 20000 in
theorem gX6_drop_X5_nodeCount : GoodIn wsX6_drop (wsV RX6 108 RX5 yX5_nodeCount wsX5_nodeCount) := goodIn_app (goodIn_of _ (by decide +kernel)) ggX6_drop_X5_nodeCount
set_option maxRecDepth 20000 in
theorem ggX6_drop_X5_buildAnew : GoodIn wsX6_drop wsX5_buildAnew := goodIn_r _ [33, 34, 35, 36, 37, 38, 24, 39, 40, 41, 42, 43, 22, 44, 45, 46, 47, 48, 49, 25, 26, 27, 28, 29, 50, 51, 52, 53, 54, 55, 56, 57, 58, 59, 60, 61, 62, 63, 64, 65, 66, 67, 68, 69, 70, 71, 72, 73, 74, 75, 76, 77, 78, 79, 80, 90, 91, 92, 93, 94, 95, 96, 97, 98, 99, 100, 101, 102, 103, 104, 105, 106] (by decide +kernel) (by decide +kernel)
set_option maxRecDepth 20000 in
theorem gX6_drop_X5_buildAnew : GoodIn wsX6_drop (wsV RX6 93 RX5 yX5_buildAnew wsX5_buildAnew) := goodIn_app (goodIn_of _ (by decide +kernel)) ggX6_drop_X5_buildAnew
set_option maxRecDepth 20000 in
theorem ggX6_at_X6_isId : GoodIn wsX6_at wsX6_isId := goodIn_r _ [10] (by decide +kernel) (by decide +kernel)
set_option maxRecDepth 20000 in
theorem gX6_at_X6_isId : GoodIn wsX6_at (va_wsS RX6 51 yX6_isId wsX6_isId) := goodIn_app (goodIn_of _ (by decide +kernel)) ggX6_at_X6_isId
set_option maxRecDepth 20000 in
theorem ggX6_at_X3_number : GoodIn wsX6_at wsX3_number := goodIn_r _ [15, 16, 17, 18, 19, 38, 39, 40, 41] (by decide +kernel) (by decide +kernel)
set_option maxRecDepth 20000 in
theorem gX6_at_X3_number : GoodIn wsX6_at (wsV RX6 126 RX3 yX3_number wsX3_number) := goodIn_app (goodIn_of _ (by decide +kernel)) ggX6_at_X3_number
set_option maxRecDepth 20000 in
theorem ggX6_nearest_X6_isPlace : GoodIn wsX6_nearest wsX6_isPlace := goodIn_r _ [20, 10, 21, 22, 19, 23, 99, 100, 101, 102, 103, 104, 105, 106, 107] (by decide +kernel) (by decide +kernel)
set_option maxRecDepth 20000 in
theorem gX6_nearest_X6_isPlace : GoodIn wsX6_nearest (wsV RX6 55 RX6 yX6_isPlace wsX6_isPlace) := goodIn_app (goodIn_of _ (by decide +kernel)) ggX6_nearest_X6_isPlace
set_option maxRecDepth 20000 in
theorem ggX6_nearest_X1_empty : GoodIn wsX6_nearest wsX1_empty := goodIn_r _ [28, 29, 30, 31, 32, 33, 34, 35, 36, 37, 38, 119, 120, 121, 122] (by decide +kernel) (by decide +kernel)
set_option maxRecDepth 20000 in
theorem gX6_nearest_X1_empty : GoodIn wsX6_nearest (wsV RX6 132 RX1 yX1_empty wsX1_empty) := goodIn_app (goodIn_of _ (by decide +kernel)) ggX6_nearest_X1_empty
set_option maxRecDepth 20000 in
theorem ggX6_nearest_X3_init : GoodIn wsX6_nearest wsX3_init := goodIn_r _ [41, 42, 43, 44, 45, 46, 47, 48, 111, 112, 113, 114] (by decide +kernel) (by decide +kernel)
set_option maxRecDepth 20000 in
theorem gX6_nearest_X3_init : GoodIn wsX6_nearest (wsX3_init) := ggX6_nearest_X3_init
set_option maxRecDepth 20000 in
theorem ggX6_nearest_X4_init : GoodIn wsX6_nearest wsX4_init := goodIn_r _ [51, 52, 43, 44, 53, 54, 108, 109, 110] (by decide +kernel) (by decide +kernel)
set_option maxRecDepth 20000 in
theorem gX6_nearest_X4_init : GoodIn wsX6_nearest (wsX4_init) := ggX6_nearest_X4_init
set_option maxRecDepth 20000 in
theorem ggX6_nearest_X4_start : GoodIn wsX6_nearest wsX4_start := goodIn_r _ [58, 59, 60, 61, 62, 6, 63, 64, 54, 65, 53, 66, 67, 68, 69, 70, 71, 72, 9, 73, 45, 46, 47, 48, 74, 75, 76, 77, 78, 79, 27, 80, 38, 29, 30, 81, 82, 83, 84, 85, 86, 87, 88, 89, 90, 91, 92, 93, 94, 95, 96, 97, 98, 108, 109, 110, 123, 124, 125, 126, 127, 128, 129, 130, 131, 111, 112, 113, 114, 119, 120, 121, 122] (by decide +kernel) (by decide +kernel)
set_option maxRecDepth 20000 in
theorem gX6_nearest_X4_start : GoodIn wsX6_nearest (wsV RX6 140 RX4 yX4_start wsX4_start) := goodIn_app (goodIn_of _ (by decide +kernel)) ggX6_nearest_X4_start
set_option maxRecDepth 20000 in
theorem ggX6_within_X6_isPlace : GoodIn wsX6_within wsX6_isPlace := goodIn_r _ [16, 6, 17, 18, 15, 19, 69, 70, 71, 72, 73, 74, 75, 76, 77] (by decide +kernel) (by decide +kernel)
set_option maxRecDepth 20000 in
theorem gX6_within_X6_isPlace : GoodIn wsX6_within (wsV RX6 55 RX6 yX6_isPlace wsX6_isPlace) := goodIn_app (goodIn_of _ (by decide +kernel)) ggX6_within_X6_isPlace
set_option maxRecDepth 20000 in
theorem ggX6_within_X3_init : GoodIn wsX6_within wsX3_init := goodIn_r _ [22, 23, 24, 25, 26, 27, 28, 29, 65, 66, 67, 68] (by decide +kernel) (by decide +kernel)
set_option maxRecDepth 20000 in
theorem gX6_within_X3_init : GoodIn wsX6_within (wsX3_init) := ggX6_within_X3_init
set_option maxRecDepth 20000 in
theorem ggX6_within_X1_empty : GoodIn wsX6_within wsX1_empty := goodIn_r _ [34, 35, 36, 37, 38, 39, 40, 41, 42, 43, 44, 87, 88, 89, 90] (by decide +kernel) (by decide +kernel)
set_option maxRecDepth 20000 in
theorem gX6_within_X1_empty : GoodIn wsX6_within (wsV RX6 132 RX1 yX1_empty wsX1_empty) := goodIn_app (goodIn_of _ (by decide +kernel)) ggX6_within_X1_empty
set_option maxRecDepth 20000 in
theorem ggX6_within_X3_distanceTo : GoodIn wsX6_within wsX3_distanceTo := goodIn_r _ [48, 26, 27, 28, 29, 49, 50, 5, 51, 65, 66, 67, 68] (by decide +kernel) (by decide +kernel)
set_option maxRecDepth 20000 in
theorem gX6_within_X3_distanceTo : GoodIn wsX6_within (wsV RX6 154 RX3 yX3_distanceTo wsX3_distanceTo) := goodIn_app (goodIn_of _ (by decide +kernel)) ggX6_within_X3_distanceTo
set_option maxRecDepth 20000 in
theorem ggX6_within_X1_offer : GoodIn wsX6_within wsX1_offer := goodIn_r _ [55, 44, 35, 36, 56, 57, 58, 59, 33, 60, 61, 62, 63, 64, 87, 88, 89, 90] (by decide +kernel) (by decide +kernel)
set_option maxRecDepth 20000 in
theorem gX6_within_X1_offer : GoodIn wsX6_within (wsV RX6 161 RX1 yX1_offer wsX1_offer) := goodIn_app (goodIn_of _ (by decide +kernel)) ggX6_within_X1_offer
set_option maxRecDepth 20000 in
theorem ggX6_listed_X1_has : GoodIn wsX6_listed wsX1_has := goodIn_r _ [9, 10, 20, 21, 22, 23] (by decide +kernel) (by decide +kernel)
set_option maxRecDepth 20000 in
theorem gX6_listed_X1_has : GoodIn wsX6_listed (wsV RX6 165 RX1 yX1_has wsX1_has) := goodIn_app (goodIn_of _ (by decide +kernel)) ggX6_listed_X1_has
set_option maxRecDepth 20000 in
theorem ggX6_distance_X1_has : GoodIn wsX6_distance wsX1_has := goodIn_r _ [9, 10, 20, 21, 22, 23] (by decide +kernel) (by decide +kernel)
set_option maxRecDepth 20000 in
theorem gX6_distance_X1_has : GoodIn wsX6_distance (wsV RX6 165 RX1 yX1_has wsX1_has) := goodIn_app (goodIn_of _ (by decide +kernel)) ggX6_distance_X1_has
set_option maxRecDepth 20000 in
theorem ggX6_inBox_X6_isCountingAxis : GoodIn wsX6_inBox wsX6_isCountingAxis := goodIn_r _ [9, 10, 24, 25, 26, 27, 28, 29, 30, 31, 32] (by decide +kernel) (by decide +kernel)
set_option maxRecDepth 20000 in
theorem gX6_inBox_X6_isCountingAxis : GoodIn wsX6_inBox (wsV RX6 183 RX6 yX6_isCountingAxis wsX6_isCountingAxis) := goodIn_app (goodIn_of _ (by decide +kernel)) ggX6_inBox_X6_isCountingAxis
set_option maxRecDepth 20000 in
theorem ggX6_inBox_X3_isBetween : GoodIn wsX6_inBox wsX3_isBetween := goodIn_r _ [15, 16, 17, 18, 14, 19, 20, 21, 22, 23, 42, 43, 44, 45] (by decide +kernel) (by decide +kernel)
set_option maxRecDepth 20000 in
theorem gX6_inBox_X3_isBetween : GoodIn wsX6_inBox (wsV RX6 188 RX3 yX3_isBetween wsX3_isBetween) := goodIn_app (goodIn_of _ (by decide +kernel)) ggX6_inBox_X3_isBetween
set_option maxRecDepth 20000 in
theorem ggX6_pair_X0_findNearestPair : GoodIn wsX6_pair wsX0_findNearestPair := goodIn_r _ [15, 16, 17, 18, 19, 20, 14, 21, 22, 23, 24, 25, 26, 27, 28, 29, 30, 31, 32, 33, 34, 35, 36, 37, 47, 48, 49, 50, 51, 52, 53, 54, 55, 56, 57, 58, 59, 60, 61, 62, 63, 64, 65] (by decide +kernel) (by decide +kernel)
set_option maxRecDepth 20000 in
theorem gX6_pair_X0_findNearestPair : GoodIn wsX6_pair (wsV RX6 196 RX0 yX0_findNearestPair wsX0_findNearestPair) := goodIn_app (goodIn_of _ (by decide +kernel)) ggX6_pair_X0_findNearestPair
set_option maxRecDepth 20000 in
theorem ggX6_parts_X0_joinAll : GoodIn wsX6_parts wsX0_joinAll := goodIn_r _ [9, 10, 11, 12, 13, 14, 15, 16, 8, 17, 18, 19, 20, 21, 22, 23, 24, 25, 26, 27, 28, 29, 30, 31, 32, 33, 34, 35, 36, 37, 38, 39, 40, 41, 42, 43, 44, 45, 46, 60, 61, 62, 63, 64, 65, 66, 67, 68, 69, 70, 71, 72, 73, 74, 75, 76, 77, 78] (by decide +kernel) (by decide +kernel)
set_option maxRecDepth 20000 in
theorem gX6_parts_X0_joinAll : GoodIn wsX6_parts (wsV RX6 212 RX0 yX0_joinAll wsX0_joinAll) := goodIn_app (goodIn_of _ (by decide +kernel)) ggX6_parts_X0_joinAll
set_option maxRecDepth 20000 in
theorem ggX6_parts_X0_partsWithin : GoodIn wsX6_parts wsX0_partsWithin := goodIn_r _ [50, 10, 11, 60, 61, 62, 63, 64, 65] (by decide +kernel) (by decide +kernel)
set_option maxRecDepth 20000 in
theorem gX6_parts_X0_partsWithin : GoodIn wsX6_parts (wsV RX6 215 RX0 yX0_partsWithin wsX0_partsWithin) := goodIn_app (goodIn_of _ (by decide +kernel)) ggX6_parts_X0_partsWithin
set_option maxRecDepth 20000 in
theorem ggX6_span_X0_joinAll : GoodIn wsX6_span wsX0_joinAll := goodIn_r _ [7, 8, 9, 10, 11, 12, 13, 14, 6, 15, 16, 17, 18, 19, 20, 21, 22, 23, 24, 25, 26, 27, 28, 29, 30, 31, 32, 33, 34, 35, 36, 37, 38, 39, 40, 41, 42, 43, 44, 58, 59, 60, 61, 62, 63, 64, 65, 66, 67, 68, 69, 70, 71, 72, 73, 74, 75, 76] (by decide +kernel) (by decide +kernel)
set_option maxRecDepth 20000 in
theorem gX6_span_X0_joinAll : GoodIn wsX6_span (wsV RX6 212 RX0 yX0_joinAll wsX0_joinAll) := goodIn_app (goodIn_of _ (by decide +kernel)) ggX6_span_X0_joinAll
set_option maxRecDepth 20000 in
theorem ggX6_span_X0_sum : GoodIn wsX6_span wsX0_sum := goodIn_r _ [48, 8, 9, 58, 59, 60, 61, 62, 63] (by decide +kernel) (by decide +kernel)
set_option maxRecDepth 20000 in
theorem gX6_span_X0_sum : GoodIn wsX6_span (wsV RX6 219 RX0 yX0_sum wsX0_sum) := goodIn_app (goodIn_of _ (by decide +kernel)) ggX6_span_X0_sum
set_option maxRecDepth 20000 in
theorem ggX6_node_X6_isId : GoodIn wsX6_node wsX6_isId := goodIn_r _ [15] (by decide +kernel) (by decide +kernel)
set_option maxRecDepth 20000 in
theorem gX6_node_X6_isId : GoodIn wsX6_node (va_wsS RX6 51 yX6_isId wsX6_isId) := goodIn_app (goodIn_of _ (by decide +kernel)) ggX6_node_X6_isId
set_option maxRecDepth 20000 in
theorem ggX6_walk_X5_nodeOnWalk : GoodIn wsX6_walk wsX5_nodeOnWalk := goodIn_r _ [10, 11, 12, 13, 14, 15, 16, 17, 31, 32, 33, 34, 35, 36, 37, 38, 39] (by decide +kernel) (by decide +kernel)
set_option maxRecDepth 20000 in
theorem gX6_walk_X5_nodeOnWalk : GoodIn wsX6_walk (va_wsS RX6 237 yX5_nodeOnWalk wsX5_nodeOnWalk) := goodIn_app (goodIn_of _ (by decide +kernel)) ggX6_walk_X5_nodeOnWalk
set_option maxRecDepth 20000 in
theorem ggX6_count_X5_nodeCount : GoodIn wsX6_count wsX5_nodeCount := goodIn_r _ [13, 14, 15, 16, 17, 18, 19, 49, 50, 51, 52, 53, 54, 55, 56, 57, 58, 59, 60, 61] (by decide +kernel) (by decide +kernel)
set_option maxRecDepth 20000 in
theorem gX6_count_X5_nodeCount : GoodIn wsX6_count (wsV RX6 108 RX5 yX5_nodeCount wsX5_nodeCount) := goodIn_app (goodIn_of _ (by decide +kernel)) ggX6_count_X5_nodeCount
set_option maxRecDepth 20000 in
theorem ggX6_count_X6_deadCount : GoodIn wsX6_count wsX6_deadCount := goodIn_r _ [24, 5, 4, 9, 10, 11, 12, 13, 14, 15, 16, 17, 18, 19, 40, 41, 42, 43, 44, 45, 46, 47, 48, 49, 50, 51, 52, 53, 54, 55, 56, 57, 58, 59, 60, 61] (by decide +kernel) (by decide +kernel)
set_option maxRecDepth 20000 in
theorem gX6_count_X6_deadCount : GoodIn wsX6_count (wsV RX6 104 RX6 yX6_deadCount wsX6_deadCount) := goodIn_app (goodIn_of _ (by decide +kernel)) ggX6_count_X6_deadCount
set_option maxRecDepth 20000 in
theorem ggX6_count_X5_levels : GoodIn wsX6_count wsX5_levels := goodIn_r _ [28, 14, 29, 30, 31, 32, 33, 34, 10, 11, 12, 13, 15, 16, 17, 18, 19, 35, 36, 37, 38, 39, 49, 50, 51, 52, 53, 54, 55, 56, 57, 58, 59, 60, 61] (by decide +kernel) (by decide +kernel)
set_option maxRecDepth 20000 in
theorem gX6_count_X5_levels : GoodIn wsX6_count (wsV RX6 243 RX5 yX5_levels wsX5_levels) := goodIn_app (goodIn_of _ (by decide +kernel)) ggX6_count_X5_levels
set_option maxRecDepth 20000 in
theorem ggX6_isPlace_X6_isNumber : GoodIn wsX6_isPlace wsX6_isNumber := goodIn_r _ [5] (by decide +kernel) (by decide +kernel)
set_option maxRecDepth 20000 in
theorem gX6_isPlace_X6_isNumber : GoodIn wsX6_isPlace (va_wsS RX6 251 yX6_isNumber wsX6_isNumber) := goodIn_app (goodIn_of _ (by decide +kernel)) ggX6_isPlace_X6_isNumber
set_option maxRecDepth 20000 in
theorem ggX6_deadCount_X5_nodeCount : GoodIn wsX6_deadCount wsX5_nodeCount := goodIn_r _ [7, 8, 9, 10, 11, 12, 13, 23, 24, 25, 26, 27, 28, 29, 30, 31, 32, 33, 34, 35] (by decide +kernel) (by decide +kernel)
set_option maxRecDepth 20000 in
theorem gX6_deadCount_X5_nodeCount : GoodIn wsX6_deadCount (wsV RX6 108 RX5 yX5_nodeCount wsX5_nodeCount) := goodIn_app (goodIn_of _ (by decide +kernel)) ggX6_deadCount_X5_nodeCount
set_option maxRecDepth 20000 in
theorem ggX7_isId_X7_in : GoodIn wsX7_isId wsX7_in := goodIn_r _ [5] (by decide +kernel) (by decide +kernel)
set_option maxRecDepth 20000 in
theorem gX7_isId_X7_in : GoodIn wsX7_isId (va_wsS RX7 90 yX7_in wsX7_in) := goodIn_app (goodIn_of _ (by decide +kernel)) ggX7_isId_X7_in
set_option maxRecDepth 20000 in
theorem ggX7_areNumbers_X7_in : GoodIn wsX7_areNumbers wsX7_in := goodIn_r _ [7] (by decide +kernel) (by decide +kernel)
set_option maxRecDepth 20000 in
theorem gX7_areNumbers_X7_in : GoodIn wsX7_areNumbers (va_wsS RX7 90 yX7_in wsX7_in) := goodIn_app (goodIn_of _ (by decide +kernel)) ggX7_areNumbers_X7_in
set_option maxRecDepth 20000 in
theorem ggX7_build_X7_walkFrom : GoodIn wsX7_build wsX7_walkFrom := goodIn_r _ [17, 18, 4, 19, 2, 40, 41, 42, 43, 44, 45, 46, 47, 48, 49, 50, 51, 52, 53, 54, 55, 56, 57, 58, 59, 60, 61, 62, 63, 64, 65, 66, 67, 68, 69, 70] (by decide +kernel) (by decide +kernel)
set_option maxRecDepth 20000 in
theorem gX7_build_X7_walkFrom : GoodIn wsX7_build (wsV RX7 98 RX7 yX7_walkFrom wsX7_walkFrom) := goodIn_app (goodIn_of _ (by decide +kernel)) ggX7_build_X7_walkFrom
set_option maxRecDepth 20000 in
theorem ggX7_build_X7_hang : GoodIn wsX7_build wsX7_hang := goodIn_r _ [23, 24, 2, 19, 40, 41, 42, 43, 44, 45, 46, 47, 48, 49, 50, 51, 52, 53, 54, 55, 56, 57, 58, 59, 60, 61, 62, 63, 64, 65, 66, 67, 68, 69, 70] (by decide +kernel) (by decide +kernel)
set_option maxRecDepth 20000 in
theorem gX7_build_X7_hang : GoodIn wsX7_build (wsV RX7 102 RX7 yX7_hang wsX7_hang) := goodIn_app (goodIn_of _ (by decide +kernel)) ggX7_build_X7_hang
set_option maxRecDepth 20000 in
theorem ggX7_build_X7_depth : GoodIn wsX7_build wsX7_depth := goodIn_r _ [28, 1, 40, 41, 42, 43, 44, 45, 46, 47, 48, 49, 50, 51, 52, 53, 54, 55, 56, 57, 58, 59, 60, 61, 62, 63, 64, 65, 66, 67, 68, 69, 70] (by decide +kernel) (by decide +kernel)
set_option maxRecDepth 20000 in
theorem gX7_build_X7_depth : GoodIn wsX7_build (wsV RX7 106 RX7 yX7_depth wsX7_depth) := goodIn_app (goodIn_of _ (by decide +kernel)) ggX7_build_X7_depth
set_option maxRecDepth 20000 in
theorem ggX7_build_X7_sortBy : GoodIn wsX7_build wsX7_sortBy := goodIn_r _ [32, 6, 33, 40, 41, 42, 43, 44, 45, 46, 47, 48, 49, 50, 51, 52, 53, 54, 55, 56, 57, 58, 59, 60, 61, 62, 63, 64, 65, 66, 67, 68, 69, 70] (by decide +kernel) (by decide +kernel)
set_option maxRecDepth 20000 in
theorem gX7_build_X7_sortBy : GoodIn wsX7_build (wsV RX7 109 RX7 yX7_sortBy wsX7_sortBy) := goodIn_app (goodIn_of _ (by decide +kernel)) ggX7_build_X7_sortBy
set_option maxRecDepth 20000 in
theorem ggX7_build_X7_newNode : GoodIn wsX7_build wsX7_newNode := goodIn_r _ [37, 3, 7, 38, 33, 5, 2, 19, 1, 39, 40, 41, 42, 43, 44, 45, 46, 47, 48, 49, 50, 51, 52, 53, 54, 55, 56, 57, 58, 59, 60, 61, 62, 63, 64, 65, 66, 67, 68, 69, 70] (by decide +kernel) (by decide +kernel)
set_option maxRecDepth 20000 in
theorem gX7_build_X7_newNode : GoodIn wsX7_build (wsV RX7 113 RX7 yX7_newNode wsX7_newNode) := goodIn_app (goodIn_of _ (by decide +kernel)) ggX7_build_X7_newNode
set_option maxRecDepth 20000 in
theorem ggX7_put_X7_isId : GoodIn wsX7_put wsX7_isId := goodIn_r _ [15, 16, 17, 18, 14, 19] (by decide +kernel) (by decide +kernel)
set_option maxRecDepth 20000 in
theorem gX7_put_X7_isId : GoodIn wsX7_put (va_wsS RX7 117 yX7_isId wsX7_isId) := goodIn_app (goodIn_of _ (by decide +kernel)) ggX7_put_X7_isId
set_option maxRecDepth 20000 in
theorem ggX7_put_X7_areNumbers : GoodIn wsX7_put wsX7_areNumbers := goodIn_r _ [23, 24, 25, 5, 17, 18, 14, 19, 66, 67, 68, 69, 70, 71, 72, 73, 74, 75, 76, 77, 78, 79, 80, 81, 82, 83, 84, 85, 86, 87, 88, 89, 90, 91, 92, 93, 94, 95, 96] (by decide +kernel) (by decide +kernel)
set_option maxRecDepth 20000 in
theorem gX7_put_X7_areNumbers : GoodIn wsX7_put (wsV RX7 121 RX7 yX7_areNumbers wsX7_areNumbers) := goodIn_app (goodIn_of _ (by decide +kernel)) ggX7_put_X7_areNumbers
set_option maxRecDepth 20000 in
theorem ggX7_put_X7_isLess : GoodIn wsX7_put wsX7_isLess := goodIn_r _ [29, 4, 30, 31, 66, 67, 68, 69, 70, 71, 72, 73, 74, 75, 76, 77, 78, 79, 80, 81, 82, 83, 84, 85, 86, 87, 88, 89, 90, 91, 92, 93, 94, 95, 96] (by decide +kernel) (by decide +kernel)
set_option maxRecDepth 20000 in
theorem gX7_put_X7_isLess : GoodIn wsX7_put (wsV RX7 128 RX7 yX7_isLess wsX7_isLess) := goodIn_app (goodIn_of _ (by decide +kernel)) ggX7_put_X7_isLess
set_option maxRecDepth 20000 in
theorem ggX7_put_X7_newNode : GoodIn wsX7_put wsX7_newNode := goodIn_r _ [35, 36, 31, 30, 4, 37, 7, 8, 9, 38, 66, 67, 68, 69, 70, 71, 72, 73, 74, 75, 76, 77, 78, 79, 80, 81, 82, 83, 84, 85, 86, 87, 88, 89, 90, 91, 92, 93, 94, 95, 96] (by decide +kernel) (by decide +kernel)
set_option maxRecDepth 20000 in
theorem gX7_put_X7_newNode : GoodIn wsX7_put (wsV RX7 113 RX7 yX7_newNode wsX7_newNode) := goodIn_app (goodIn_of _ (by decide +kernel)) ggX7_put_X7_newNode
set_option maxRecDepth 20000 in
theorem ggX7_put_X7_hang : GoodIn wsX7_put wsX7_hang := goodIn_r _ [42, 6, 7, 8, 66, 67, 68, 69, 70, 71, 72, 73, 74, 75, 76, 77, 78, 79, 80, 81, 82, 83, 84, 85, 86, 87, 88, 89, 90, 91, 92, 93, 94, 95, 96] (by decide +kernel) (by decide +kernel)
set_option maxRecDepth 20000 in
theorem gX7_put_X7_hang : GoodIn wsX7_put (wsV RX7 102 RX7 yX7_hang wsX7_hang) := goodIn_app (goodIn_of _ (by decide +kernel)) ggX7_put_X7_hang
set_option maxRecDepth 20000 in
theorem ggX7_put_X7_walkFrom : GoodIn wsX7_put wsX7_walkFrom := goodIn_r _ [46, 47, 48, 8, 7, 66, 67, 68, 69, 70, 71, 72, 73, 74, 75, 76, 77, 78, 79, 80, 81, 82, 83, 84, 85, 86, 87, 88, 89, 90, 91, 92, 93, 94, 95, 96] (by decide +kernel) (by decide +kernel)
set_option maxRecDepth 20000 in
theorem gX7_put_X7_walkFrom : GoodIn wsX7_put (wsV RX7 98 RX7 yX7_walkFrom wsX7_walkFrom) := goodIn_app (goodIn_of _ (by decide +kernel)) ggX7_put_X7_walkFrom
set_option maxRecDepth 20000 in
theorem ggX7_put_X7_build : GoodIn wsX7_put wsX7_build := goodIn_r _ [52, 9, 7, 36, 48, 37, 53, 31, 54, 55, 56, 57, 5, 43, 44, 45, 14, 46, 47, 8, 39, 40, 41, 42, 6, 58, 59, 60, 61, 62, 63, 64, 65, 4, 32, 33, 34, 35, 30, 38, 66, 67, 68, 69, 70, 71, 72, 73, 74, 75, 76, 77, 78, 79, 80, 81, 82, 83, 84, 85, 86, 87, 88, 89, 90, 91, 92, 93, 94, 95, 96] (by decide +kernel) (by decide +kernel)
set_option maxRecDepth 20000 in
theorem gX7_put_X7_build : GoodIn wsX7_put (wsV RX7 138 RX7 yX7_build wsX7_build) := goodIn_app (goodIn_of _ (by decide +kernel)) ggX7_put_X7_build
set_option maxRecDepth 20000 in
theorem ggX7_drop_X7_isId : GoodIn wsX7_drop wsX7_isId := goodIn_r _ [12, 13, 14, 15, 11, 16] (by decide +kernel) (by decide +kernel)
set_option maxRecDepth 20000 in
theorem gX7_drop_X7_isId : GoodIn wsX7_drop (va_wsS RX7 117 yX7_isId wsX7_isId) := goodIn_app (goodIn_of _ (by decide +kernel)) ggX7_drop_X7_isId
set_option maxRecDepth 20000 in
theorem ggX7_drop_X7_walkFrom : GoodIn wsX7_drop wsX7_walkFrom := goodIn_r _ [20, 21, 22, 23, 24, 56, 57, 58, 59, 60, 61, 62, 63, 64, 65, 66, 67, 68, 69, 70, 71, 72, 73, 74, 75, 76, 77, 78, 79, 80, 81, 82, 83, 84, 85, 86] (by decide +kernel) (by decide +kernel)
set_option maxRecDepth 20000 in
theorem gX7_drop_X7_walkFrom : GoodIn wsX7_drop (wsV RX7 98 RX7 yX7_walkFrom wsX7_walkFrom) := goodIn_app (goodIn_of _ (by decide +kernel)) ggX7_drop_X7_walkFrom
set_option maxRecDepth 20000 in
theorem ggX7_drop_X7_build : GoodIn wsX7_drop wsX7_build := goodIn_r _ [28, 29, 24, 30, 22, 4, 31, 32, 33, 34, 35, 36, 37, 17, 18, 19, 11, 20, 21, 23, 38, 39, 40, 41, 6, 42, 43, 44, 45, 46, 47, 48, 49, 50, 51, 52, 53, 54, 55, 5, 56, 57, 58, 59, 60, 61, 62, 63, 64, 65, 66, 67, 68, 69, 70, 71, 72, 73, 74, 75, 76, 77, 78, 79, 80, 81, 82, 83, 84, 85, 86] (by decide +kernel) (by decide +kernel)
set_option maxRecDepth 20000 in
theorem gX7_drop_X7_build : GoodIn wsX7_drop (wsV RX7 138 RX7 yX7_build wsX7_build) := goodIn_app (goodIn_of _ (by decide +kernel)) ggX7_drop_X7_build
set_option maxRecDepth 20000 in
theorem ggX7_at_X7_isId : GoodIn wsX7_at wsX7_isId := goodIn_r _ [8, 9, 10, 11, 7, 12] (by decide +kernel) (by decide +kernel)
set_option maxRecDepth 20000 in
theorem gX7_at_X7_isId : GoodIn wsX7_at (va_wsS RX7 117 yX7_isId wsX7_isId) := goodIn_app (goodIn_of _ (by decide +kernel)) ggX7_at_X7_isId
set_option maxRecDepth 20000 in
theorem ggX7_at_X7_in : GoodIn wsX7_at wsX7_in := goodIn_r _ [12] (by decide +kernel) (by decide +kernel)
set_option maxRecDepth 20000 in
theorem gX7_at_X7_in : GoodIn wsX7_at (va_wsS RX7 90 yX7_in wsX7_in) := goodIn_app (goodIn_of _ (by decide +kernel)) ggX7_at_X7_in
set_option maxRecDepth 20000 in
theorem ggX7_come_X7_away : GoodIn wsX7_come wsX7_away := goodIn_r _ [8, 9, 10, 11, 12, 13, 14, 15, 16, 17, 18, 19, 20, 21, 22, 23, 24, 25, 26, 27, 28, 29, 30, 31, 32, 33, 34, 35, 36, 37, 38, 39, 40, 41] (by decide +kernel) (by decide +kernel)
set_option maxRecDepth 20000 in
theorem gX7_come_X7_away : GoodIn wsX7_come (wsV RX7 146 RX7 yX7_away wsX7_away) := goodIn_app (goodIn_of _ (by decide +kernel)) ggX7_come_X7_away
set_option maxRecDepth 20000 in
theorem ggX7_nearest_X7_in : GoodIn wsX7_nearest wsX7_in := goodIn_r _ [19] (by decide +kernel) (by decide +kernel)
set_option maxRecDepth 20000 in
theorem gX7_nearest_X7_in : GoodIn wsX7_nearest (va_wsS RX7 90 yX7_in wsX7_in) := goodIn_app (goodIn_of _ (by decide +kernel)) ggX7_nearest_X7_in
set_option maxRecDepth 20000 in
theorem ggX7_nearest_X7_areNumbers : GoodIn wsX7_nearest wsX7_areNumbers := goodIn_r _ [23, 24, 25, 8, 16, 17, 18, 19, 45, 46, 47, 48, 49, 50, 51, 52, 53, 54, 55, 56, 57, 58, 59, 60, 61, 62, 63, 64, 65, 66, 67, 68, 69, 70, 71, 72, 73, 74, 75] (by decide +kernel) (by decide +kernel)
set_option maxRecDepth 20000 in
theorem gX7_nearest_X7_areNumbers : GoodIn wsX7_nearest (wsV RX7 121 RX7 yX7_areNumbers wsX7_areNumbers) := goodIn_app (goodIn_of _ (by decide +kernel)) ggX7_nearest_X7_areNumbers
set_option maxRecDepth 20000 in
theorem ggX7_nearest_X7_aimAt : GoodIn wsX7_nearest wsX7_aimAt := goodIn_r _ [29, 9, 8, 45, 46, 47, 48, 49, 50, 51, 52, 53, 54, 55, 56, 57, 58, 59, 60, 61, 62, 63, 64, 65, 66, 67, 68, 69, 70, 71, 72, 73, 74, 75] (by decide +kernel) (by decide +kernel)
set_option maxRecDepth 20000 in
theorem gX7_nearest_X7_aimAt : GoodIn wsX7_nearest (wsV RX7 155 RX7 yX7_aimAt wsX7_aimAt) := goodIn_app (goodIn_of _ (by decide +kernel)) ggX7_nearest_X7_aimAt
set_option maxRecDepth 20000 in
theorem ggX7_nearest_X7_depth : GoodIn wsX7_nearest wsX7_depth := goodIn_r _ [33, 34, 45, 46, 47, 48, 49, 50, 51, 52, 53, 54, 55, 56, 57, 58, 59, 60, 61, 62, 63, 64, 65, 66, 67, 68, 69, 70, 71, 72, 73, 74, 75] (by decide +kernel) (by decide +kernel)
set_option maxRecDepth 20000 in
theorem gX7_nearest_X7_depth : GoodIn wsX7_nearest (wsV RX7 106 RX7 yX7_depth wsX7_depth) := goodIn_app (goodIn_of _ (by decide +kernel)) ggX7_nearest_X7_depth
set_option maxRecDepth 20000 in
theorem ggX7_nearest_X7_come : GoodIn wsX7_nearest wsX7_come := goodIn_r _ [38, 3, 15, 39, 40, 41, 42, 18, 43, 9, 44, 45, 46, 47, 48, 49, 50, 51, 52, 53, 54, 55, 56, 57, 58, 59, 60, 61, 62, 63, 64, 65, 66, 67, 68, 69, 70, 71, 72, 73, 74, 75] (by decide +kernel) (by decide +kernel)
set_option maxRecDepth 20000 in
theorem gX7_nearest_X7_come : GoodIn wsX7_nearest (wsV RX7 162 RX7 yX7_come wsX7_come) := goodIn_app (goodIn_of _ (by decide +kernel)) ggX7_nearest_X7_come
set_option maxRecDepth 20000 in
theorem ggX7_within_X7_areNumbers : GoodIn wsX7_within wsX7_areNumbers := goodIn_r _ [8, 9, 10, 11, 12, 13, 7, 14, 31, 32, 33, 34, 35, 36, 37, 38, 39, 40, 41, 42, 43, 44, 45, 46, 47, 48, 49, 50, 51, 52, 53, 54, 55, 56, 57, 58, 59, 60, 61] (by decide +kernel) (by decide +kernel)
set_option maxRecDepth 20000 in
theorem gX7_within_X7_areNumbers : GoodIn wsX7_within (wsV RX7 121 RX7 yX7_areNumbers wsX7_areNumbers) := goodIn_app (goodIn_of _ (by decide +kernel)) ggX7_within_X7_areNumbers
set_option maxRecDepth 20000 in
theorem ggX7_within_X7_aimAt : GoodIn wsX7_within wsX7_aimAt := goodIn_r _ [18, 19, 11, 31, 32, 33, 34, 35, 36, 37, 38, 39, 40, 41, 42, 43, 44, 45, 46, 47, 48, 49, 50, 51, 52, 53, 54, 55, 56, 57, 58, 59, 60, 61] (by decide +kernel) (by decide +kernel)
set_option maxRecDepth 20000 in
theorem gX7_within_X7_aimAt : GoodIn wsX7_within (wsV RX7 155 RX7 yX7_aimAt wsX7_aimAt) := goodIn_app (goodIn_of _ (by decide +kernel)) ggX7_within_X7_aimAt
set_option maxRecDepth 20000 in
theorem ggX7_within_X7_away : GoodIn wsX7_within wsX7_away := goodIn_r _ [23, 19, 24, 31, 32, 33, 34, 35, 36, 37, 38, 39, 40, 41, 42, 43, 44, 45, 46, 47, 48, 49, 50, 51, 52, 53, 54, 55, 56, 57, 58, 59, 60, 61] (by decide +kernel) (by decide +kernel)
set_option maxRecDepth 20000 in
theorem gX7_within_X7_away : GoodIn wsX7_within (wsV RX7 146 RX7 yX7_away wsX7_away) := goodIn_app (goodIn_of _ (by decide +kernel)) ggX7_within_X7_away
set_option maxRecDepth 20000 in
theorem ggX7_within_X7_come : GoodIn wsX7_within wsX7_come := goodIn_r _ [28, 2, 29, 30, 20, 21, 22, 7, 23, 19, 24, 31, 32, 33, 34, 35, 36, 37, 38, 39, 40, 41, 42, 43, 44, 45, 46, 47, 48, 49, 50, 51, 52, 53, 54, 55, 56, 57, 58, 59, 60, 61] (by decide +kernel) (by decide +kernel)
set_option maxRecDepth 20000 in
theorem gX7_within_X7_come : GoodIn wsX7_within (wsV RX7 162 RX7 yX7_come wsX7_come) := goodIn_app (goodIn_of _ (by decide +kernel)) ggX7_within_X7_come
set_option maxRecDepth 20000 in
theorem ggX7_listed_X7_in : GoodIn wsX7_listed wsX7_in := goodIn_r _ [7] (by decide +kernel) (by decide +kernel)
set_option maxRecDepth 20000 in
theorem gX7_listed_X7_in : GoodIn wsX7_listed (va_wsS RX7 90 yX7_in wsX7_in) := goodIn_app (goodIn_of _ (by decide +kernel)) ggX7_listed_X7_in
set_option maxRecDepth 20000 in
theorem ggX7_distance_X7_in : GoodIn wsX7_distance wsX7_in := goodIn_r _ [7] (by decide +kernel) (by decide +kernel)
set_option maxRecDepth 20000 in
theorem gX7_distance_X7_in : GoodIn wsX7_distance (va_wsS RX7 90 yX7_in wsX7_in) := goodIn_app (goodIn_of _ (by decide +kernel)) ggX7_distance_X7_in
set_option maxRecDepth 20000 in
theorem ggX7_inBox_X7_in : GoodIn wsX7_inBox wsX7_in := goodIn_r _ [8] (by decide +kernel) (by decide +kernel)
set_option maxRecDepth 20000 in
theorem gX7_inBox_X7_in : GoodIn wsX7_inBox (va_wsS RX7 90 yX7_in wsX7_in) := goodIn_app (goodIn_of _ (by decide +kernel)) ggX7_inBox_X7_in
set_option maxRecDepth 20000 in
theorem ggX7_pair_X7_in : GoodIn wsX7_pair wsX7_in := goodIn_r _ [8] (by decide +kernel) (by decide +kernel)
set_option maxRecDepth 20000 in
theorem gX7_pair_X7_in : GoodIn wsX7_pair (va_wsS RX7 90 yX7_in wsX7_in) := goodIn_app (goodIn_of _ (by decide +kernel)) ggX7_pair_X7_in
set_option maxRecDepth 20000 in
theorem ggX7_pair_X7_between : GoodIn wsX7_pair wsX7_between := goodIn_r _ [12, 13, 14, 15, 16, 17, 18, 19, 20, 21, 22, 23, 24, 25, 26, 27, 28, 29, 30, 31, 32, 33, 34, 35, 36, 37, 38, 39, 40, 41, 42, 43, 44] (by decide +kernel) (by decide +kernel)
set_option maxRecDepth 20000 in
theorem gX7_pair_X7_between : GoodIn wsX7_pair (wsV RX7 168 RX7 yX7_between wsX7_between) := goodIn_app (goodIn_of _ (by decide +kernel)) ggX7_pair_X7_between
set_option maxRecDepth 20000 in
theorem ggX7_parts_X7_between : GoodIn wsX7_parts wsX7_between := goodIn_r _ [9, 10, 11, 12, 13, 14, 15, 16, 17, 18, 19, 20, 21, 22, 23, 24, 25, 26, 27, 28, 29, 30, 31, 32, 33, 34, 35, 36, 37, 38, 39, 40, 41] (by decide +kernel) (by decide +kernel)
set_option maxRecDepth 20000 in
theorem gX7_parts_X7_between : GoodIn wsX7_parts (wsV RX7 168 RX7 yX7_between wsX7_between) := goodIn_app (goodIn_of _ (by decide +kernel)) ggX7_parts_X7_between
set_option maxRecDepth 20000 in
theorem ggX7_span_X7_between : GoodIn wsX7_span wsX7_between := goodIn_r _ [10, 11, 12, 13, 14, 15, 16, 17, 18, 19, 20, 21, 22, 23, 24, 25, 26, 27, 28, 29, 30, 31, 32, 33, 34, 35, 36, 37, 38, 39, 40, 41, 42] (by decide +kernel) (by decide +kernel)
set_option maxRecDepth 20000 in
theorem gX7_span_X7_between : GoodIn wsX7_span (wsV RX7 168 RX7 yX7_between wsX7_between) := goodIn_app (goodIn_of _ (by decide +kernel)) ggX7_span_X7_between
set_option maxRecDepth 20000 in
theorem ggX7_node_X7_isId : GoodIn wsX7_node wsX7_isId := goodIn_r _ [12, 13, 14, 15, 11, 16] (by decide +kernel) (by decide +kernel)
set_option maxRecDepth 20000 in
theorem gX7_node_X7_isId : GoodIn wsX7_node (va_wsS RX7 117 yX7_isId wsX7_isId) := goodIn_app (goodIn_of _ (by decide +kernel)) ggX7_node_X7_isId
set_option maxRecDepth 20000 in
theorem ggX7_node_X7_in : GoodIn wsX7_node wsX7_in := goodIn_r _ [16] (by decide +kernel) (by decide +kernel)
set_option maxRecDepth 20000 in
theorem gX7_node_X7_in : GoodIn wsX7_node (va_wsS RX7 90 yX7_in wsX7_in) := goodIn_app (goodIn_of _ (by decide +kernel)) ggX7_node_X7_in
set_option maxRecDepth 20000 in
theorem ggX7_node_X7_depth : GoodIn wsX7_node wsX7_depth := goodIn_r _ [20, 5, 28, 29, 30, 31, 32, 33, 34, 35, 36, 37, 38, 39, 40, 41, 42, 43, 44, 45, 46, 47, 48, 49, 50, 51, 52, 53, 54, 55, 56, 57, 58] (by decide +kernel) (by decide +kernel)
set_option maxRecDepth 20000 in
theorem gX7_node_X7_depth : GoodIn wsX7_node (wsV RX7 106 RX7 yX7_depth wsX7_depth) := goodIn_app (goodIn_of _ (by decide +kernel)) ggX7_node_X7_depth
set_option maxRecDepth 20000 in
theorem ggX7_node_X7_walkFrom : GoodIn wsX7_node wsX7_walkFrom := goodIn_r _ [24, 25, 26, 27, 8, 28, 29, 30, 31, 32, 33, 34, 35, 36, 37, 38, 39, 40, 41, 42, 43, 44, 45, 46, 47, 48, 49, 50, 51, 52, 53, 54, 55, 56, 57, 58] (by decide +kernel) (by decide +kernel)
set_option maxRecDepth 20000 in
theorem gX7_node_X7_walkFrom : GoodIn wsX7_node (wsV RX7 98 RX7 yX7_walkFrom wsX7_walkFrom) := goodIn_app (goodIn_of _ (by decide +kernel)) ggX7_node_X7_walkFrom
set_option maxRecDepth 20000 in
theorem ggX7_walk_X7_walkFrom : GoodIn wsX7_walk wsX7_walkFrom := goodIn_r _ [10, 11, 4, 12, 13, 17, 18, 19, 20, 21, 22, 23, 24, 25, 26, 27, 28, 29, 30, 31, 32, 33, 34, 35, 36, 37, 38, 39, 40, 41, 42, 43, 44, 45, 46, 47] (by decide +kernel) (by decide +kernel)
set_option maxRecDepth 20000 in
theorem gX7_walk_X7_walkFrom : GoodIn wsX7_walk (wsV RX7 98 RX7 yX7_walkFrom wsX7_walkFrom) := goodIn_app (goodIn_of _ (by decide +kernel)) ggX7_walk_X7_walkFrom
set_option maxRecDepth 20000 in
theorem ggX7_walk_X7_in : GoodIn wsX7_walk wsX7_in := goodIn_r _ [16] (by decide +kernel) (by decide +kernel)
set_option maxRecDepth 20000 in
theorem gX7_walk_X7_in : GoodIn wsX7_walk (va_wsS RX7 90 yX7_in wsX7_in) := goodIn_app (goodIn_of _ (by decide +kernel)) ggX7_walk_X7_in
set_option maxRecDepth 20000 in
theorem ggX7_count_X7_in : GoodIn wsX7_count wsX7_in := goodIn_r _ [13] (by decide +kernel) (by decide +kernel)
set_option maxRecDepth 20000 in
theorem gX7_count_X7_in : GoodIn wsX7_count (va_wsS RX7 90 yX7_in wsX7_in) := goodIn_app (goodIn_of _ (by decide +kernel)) ggX7_count_X7_in
set_option maxRecDepth 20000 in
theorem ggX7_count_X7_walkFrom : GoodIn wsX7_count wsX7_walkFrom := goodIn_r _ [17, 18, 4, 19, 20, 26, 27, 28, 29, 30, 31, 32, 33, 34, 35, 36, 37, 38, 39, 40, 41, 42, 43, 44, 45, 46, 47, 48, 49, 50, 51, 52, 53, 54, 55, 56] (by decide +kernel) (by decide +kernel)
set_option maxRecDepth 20000 in
theorem gX7_count_X7_walkFrom : GoodIn wsX7_count (wsV RX7 98 RX7 yX7_walkFrom wsX7_walkFrom) := goodIn_app (goodIn_of _ (by decide +kernel)) ggX7_count_X7_walkFrom
set_option maxRecDepth 20000 in
theorem ggX7_count_X7_depth : GoodIn wsX7_count wsX7_depth := goodIn_r _ [24, 25, 26, 27, 28, 29, 30, 31, 32, 33, 34, 35, 36, 37, 38, 39, 40, 41, 42, 43, 44, 45, 46, 47, 48, 49, 50, 51, 52, 53, 54, 55, 56] (by decide +kernel) (by decide +kernel)
set_option maxRecDepth 20000 in
theorem gX7_count_X7_depth : GoodIn wsX7_count (wsV RX7 106 RX7 yX7_depth wsX7_depth) := goodIn_app (goodIn_of _ (by decide +kernel)) ggX7_count_X7_depth
end
section
theorem dX0_init_0 : decode cX0_init 0 = .ok (.aload_n 0, 1) := by decide +kernel
theorem dX0_init_1 : decode cX0_init 1 = .ok (.invokespecial 3, 3) := by decide +kernel
theorem dX0_init_4 : decode cX0_init 4 = .ok (.aload_n 0, 1) := by decide +kernel
theorem dX0_init_5 : decode cX0_init 5 = .ok (.bipush 60, 2) := by decide +kernel
theorem dX0_init_7 : decode cX0_init 7 = .ok (.anewarray 9, 3) := by decide +kernel
theorem dX0_init_10 : decode cX0_init 10 = .ok (.putfield 11, 3) := by decide +kernel
theorem dX0_init_13 : decode cX0_init 13 = .ok (.aload_n 0, 1) := by decide +kernel
theorem dX0_init_14 : decode cX0_init 14 = .ok (.bipush 60, 2) := by decide +kernel
theorem dX0_init_16 : decode cX0_init 16 = .ok (.newarray .long, 2) := by decide +kernel
theorem dX0_init_18 : decode cX0_init 18 = .ok (.putfield 17, 3) := by decide +kernel
theorem dX0_init_21 : decode cX0_init 21 = .ok (.return_, 1) := by decide +kernel
theorem dX0_gather_0 : decode cX0_gather 0 = .ok (.aload_n 0, 1) := by decide +kernel
theorem dX0_gather_1 : decode cX0_gather 1 = .ok (.iconst 0, 1) := by decide +kernel
theorem dX0_gather_2 : decode cX0_gather 2 = .ok (.putfield 21, 3) := by decide +kernel
theorem dX0_gather_5 : decode cX0_gather 5 = .ok (.aload_n 1, 1) := by decide +kernel
theorem dX0_gather_6 : decode cX0_gather 6 = .ok (.astore_n 2, 1) := by decide +kernel
theorem dX0_gather_7 : decode cX0_gather 7 = .ok (.aload_n 2, 1) := by decide +kernel
theorem dX0_gather_8 : decode cX0_gather 8 = .ok (.arraylength, 1) := by decide +kernel
theorem dX0_gather_9 : decode cX0_gather 9 = .ok (.istore_n 3, 1) := by decide +kernel
theorem dX0_gather_10 : decode cX0_gather 10 = .ok (.iconst 0, 1) := by decide +kernel
theorem dX0_gather_11 : decode cX0_gather 11 = .ok (.istore 4, 2) := by decide +kernel
theorem dX0_gather_13 : decode cX0_gather 13 = .ok (.iload 4, 2) := by decide +kernel
theorem dX0_gather_15 : decode cX0_gather 15 = .ok (.iload_n 3, 1) := by decide +kernel
theorem dX0_gather_16 : decode cX0_gather 16 = .ok (.if_icmp .ge 53, 3) := by decide +kernel
theorem dX0_gather_19 : decode cX0_gather 19 = .ok (.aload_n 2, 1) := by decide +kernel
theorem dX0_gather_20 : decode cX0_gather 20 = .ok (.iload 4, 2) := by decide +kernel
theorem dX0_gather_22 : decode cX0_gather 22 = .ok (.aaload, 1) := by decide +kernel
theorem dX0_gather_23 : decode cX0_gather 23 = .ok (.astore 5, 2) := by decide +kernel
theorem dX0_gather_25 : decode cX0_gather 25 = .ok (.aload 5, 2) := by decide +kernel
theorem dX0_gather_27 : decode cX0_gather 27 = .ok (.ifnull 36, 3) := by decide +kernel
theorem dX0_gather_30 : decode cX0_gather 30 = .ok (.aload_n 0, 1) := by decide +kernel
theorem dX0_gather_31 : decode cX0_gather 31 = .ok (.getfield 21, 3) := by decide +kernel
theorem dX0_gather_34 : decode cX0_gather 34 = .ok (.aload_n 0, 1) := by decide +kernel
theorem dX0_gather_35 : decode cX0_gather 35 = .ok (.getfield 11, 3) := by decide +kernel
theorem dX0_gather_38 : decode cX0_gather 38 = .ok (.arraylength, 1) := by decide +kernel
theorem dX0_gather_39 : decode cX0_gather 39 = .ok (.if_icmp .ge 24, 3) := by decide +kernel
theorem dX0_gather_42 : decode cX0_gather 42 = .ok (.aload_n 0, 1) := by decide +kernel
theorem dX0_gather_43 : decode cX0_gather 43 = .ok (.getfield 11, 3) := by decide +kernel
theorem dX0_gather_46 : decode cX0_gather 46 = .ok (.aload_n 0, 1) := by decide +kernel
theorem dX0_gather_47 : decode cX0_gather 47 = .ok (.getfield 21, 3) := by decide +kernel
theorem dX0_gather_50 : decode cX0_gather 50 = .ok (.aload 5, 2) := by decide +kernel
theorem dX0_gather_52 : decode cX0_gather 52 = .ok (.aastore, 1) := by decide +kernel
theorem dX0_gather_53 : decode cX0_gather 53 = .ok (.aload_n 0, 1) := by decide +kernel
theorem dX0_gather_54 : decode cX0_gather 54 = .ok (.dup, 1) := by decide +kernel
theorem dX0_gather_55 : decode cX0_gather 55 = .ok (.getfield 21, 3) := by decide +kernel
theorem dX0_gather_58 : decode cX0_gather 58 = .ok (.iconst 1, 1) := by decide +kernel
theorem dX0_gather_59 : decode cX0_gather 59 = .ok (.iadd, 1) := by decide +kernel
theorem dX0_gather_60 : decode cX0_gather 60 = .ok (.putfield 21, 3) := by decide +kernel
theorem dX0_gather_63 : decode cX0_gather 63 = .ok (.iinc 4 1, 3) := by decide +kernel
theorem dX0_gather_66 : decode cX0_gather 66 = .ok (.goto (-53), 3) := by decide +kernel
theorem dX0_gather_69 : decode cX0_gather 69 = .ok (.return_, 1) := by decide +kernel
theorem dX0_findNearestPair_0 : decode cX0_findNearestPair 0 = .ok (.aload_n 0, 1) := by decide +kernel
theorem dX0_findNearestPair_1 : decode cX0_findNearestPair 1 = .ok (.ldc2_w 27, 3) := by decide +kernel
theorem dX0_findNearestPair_4 : decode cX0_findNearestPair 4 = .ok (.putfield 29, 3) := by decide +kernel
theorem dX0_findNearestPair_7 : decode cX0_findNearestPair 7 = .ok (.iconst 0, 1) := by decide +kernel
theorem dX0_findNearestPair_8 : decode cX0_findNearestPair 8 = .ok (.istore_n 2, 1) := by decide +kernel
theorem dX0_findNearestPair_9 : decode cX0_findNearestPair 9 = .ok (.iload_n 2, 1) := by decide +kernel
theorem dX0_findNearestPair_10 : decode cX0_findNearestPair 10 = .ok (.aload_n 1, 1) := by decide +kernel
theorem dX0_findNearestPair_11 : decode cX0_findNearestPair 11 = .ok (.arraylength, 1) := by decide +kernel
theorem dX0_findNearestPair_12 : decode cX0_findNearestPair 12 = .ok (.if_icmp .ge 35, 3) := by decide +kernel
theorem dX0_findNearestPair_15 : decode cX0_findNearestPair 15 = .ok (.iload_n 2, 1) := by decide +kernel
theorem dX0_findNearestPair_16 : decode cX0_findNearestPair 16 = .ok (.iconst 1, 1) := by decide +kernel
theorem dX0_findNearestPair_17 : decode cX0_findNearestPair 17 = .ok (.iadd, 1) := by decide +kernel
theorem dX0_findNearestPair_18 : decode cX0_findNearestPair 18 = .ok (.istore_n 3, 1) := by decide +kernel
theorem dX0_findNearestPair_19 : decode cX0_findNearestPair 19 = .ok (.iload_n 3, 1) := by decide +kernel
theorem dX0_findNearestPair_20 : decode cX0_findNearestPair 20 = .ok (.aload_n 1, 1) := by decide +kernel
theorem dX0_findNearestPair_21 : decode cX0_findNearestPair 21 = .ok (.arraylength, 1) := by decide +kernel
theorem dX0_findNearestPair_22 : decode cX0_findNearestPair 22 = .ok (.if_icmp .ge 19, 3) := by decide +kernel
theorem dX0_findNearestPair_25 : decode cX0_findNearestPair 25 = .ok (.aload_n 0, 1) := by decide +kernel
theorem dX0_findNearestPair_26 : decode cX0_findNearestPair 26 = .ok (.aload_n 1, 1) := by decide +kernel
theorem dX0_findNearestPair_27 : decode cX0_findNearestPair 27 = .ok (.iload_n 2, 1) := by decide +kernel
theorem dX0_findNearestPair_28 : decode cX0_findNearestPair 28 = .ok (.aaload, 1) := by decide +kernel
theorem dX0_findNearestPair_29 : decode cX0_findNearestPair 29 = .ok (.aload_n 1, 1) := by decide +kernel
theorem dX0_findNearestPair_30 : decode cX0_findNearestPair 30 = .ok (.iload_n 3, 1) := by decide +kernel
theorem dX0_findNearestPair_31 : decode cX0_findNearestPair 31 = .ok (.aaload, 1) := by decide +kernel
theorem dX0_findNearestPair_32 : decode cX0_findNearestPair 32 = .ok (.invokevirtual 33, 3) := by decide +kernel
theorem dX0_findNearestPair_35 : decode cX0_findNearestPair 35 = .ok (.iinc 3 1, 3) := by decide +kernel
theorem dX0_findNearestPair_38 : decode cX0_findNearestPair 38 = .ok (.goto (-19), 3) := by decide +kernel
theorem dX0_findNearestPair_41 : decode cX0_findNearestPair 41 = .ok (.iinc 2 1, 3) := by decide +kernel
theorem dX0_findNearestPair_44 : decode cX0_findNearestPair 44 = .ok (.goto (-35), 3) := by decide +kernel
theorem dX0_findNearestPair_47 : decode cX0_findNearestPair 47 = .ok (.return_, 1) := by decide +kernel
theorem dX0_comparePair_0 : decode cX0_comparePair 0 = .ok (.aload_n 1, 1) := by decide +kernel
theorem dX0_comparePair_1 : decode cX0_comparePair 1 = .ok (.ifnull 7, 3) := by decide +kernel
theorem dX0_comparePair_4 : decode cX0_comparePair 4 = .ok (.aload_n 2, 1) := by decide +kernel
theorem dX0_comparePair_5 : decode cX0_comparePair 5 = .ok (.ifnonnull 4, 3) := by decide +kernel
theorem dX0_comparePair_8 : decode cX0_comparePair 8 = .ok (.return_, 1) := by decide +kernel
theorem dX0_comparePair_9 : decode cX0_comparePair 9 = .ok (.aload_n 1, 1) := by decide +kernel
theorem dX0_comparePair_10 : decode cX0_comparePair 10 = .ok (.getfield 37, 3) := by decide +kernel
theorem dX0_comparePair_13 : decode cX0_comparePair 13 = .ok (.aload_n 2, 1) := by decide +kernel
theorem dX0_comparePair_14 : decode cX0_comparePair 14 = .ok (.getfield 37, 3) := by decide +kernel
theorem dX0_comparePair_17 : decode cX0_comparePair 17 = .ok (.invokevirtual 41, 3) := by decide +kernel
theorem dX0_comparePair_20 : decode cX0_comparePair 20 = .ok (.lstore_n 3, 1) := by decide +kernel
theorem dX0_comparePair_21 : decode cX0_comparePair 21 = .ok (.lload_n 3, 1) := by decide +kernel
theorem dX0_comparePair_22 : decode cX0_comparePair 22 = .ok (.aload_n 0, 1) := by decide +kernel
theorem dX0_comparePair_23 : decode cX0_comparePair 23 = .ok (.getfield 29, 3) := by decide +kernel
theorem dX0_comparePair_26 : decode cX0_comparePair 26 = .ok (.lcmp, 1) := by decide +kernel
theorem dX0_comparePair_27 : decode cX0_comparePair 27 = .ok (.ifCond .ge 24, 3) := by decide +kernel
theorem dX0_comparePair_30 : decode cX0_comparePair 30 = .ok (.aload_n 0, 1) := by decide +kernel
theorem dX0_comparePair_31 : decode cX0_comparePair 31 = .ok (.lload_n 3, 1) := by decide +kernel
theorem dX0_comparePair_32 : decode cX0_comparePair 32 = .ok (.putfield 29, 3) := by decide +kernel
theorem dX0_comparePair_35 : decode cX0_comparePair 35 = .ok (.aload_n 0, 1) := by decide +kernel
theorem dX0_comparePair_36 : decode cX0_comparePair 36 = .ok (.aload_n 1, 1) := by decide +kernel
theorem dX0_comparePair_37 : decode cX0_comparePair 37 = .ok (.getfield 47, 3) := by decide +kernel
theorem dX0_comparePair_40 : decode cX0_comparePair 40 = .ok (.putfield 50, 3) := by decide +kernel
theorem dX0_comparePair_43 : decode cX0_comparePair 43 = .ok (.aload_n 0, 1) := by decide +kernel
theorem dX0_comparePair_44 : decode cX0_comparePair 44 = .ok (.aload_n 2, 1) := by decide +kernel
theorem dX0_comparePair_45 : decode cX0_comparePair 45 = .ok (.getfield 47, 3) := by decide +kernel
theorem dX0_comparePair_48 : decode cX0_comparePair 48 = .ok (.putfield 53, 3) := by decide +kernel
theorem dX0_comparePair_51 : decode cX0_comparePair 51 = .ok (.return_, 1) := by decide +kernel
theorem dX0_joinAll_0 : decode cX0_joinAll 0 = .ok (.aload_n 0, 1) := by decide +kernel
theorem dX0_joinAll_1 : decode cX0_joinAll 1 = .ok (.aload_n 1, 1) := by decide +kernel
theorem dX0_joinAll_2 : decode cX0_joinAll 2 = .ok (.invokevirtual 56, 3) := by decide +kernel
theorem dX0_joinAll_5 : decode cX0_joinAll 5 = .ok (.iconst 0, 1) := by decide +kernel
theorem dX0_joinAll_6 : decode cX0_joinAll 6 = .ok (.istore_n 2, 1) := by decide +kernel
theorem dX0_joinAll_7 : decode cX0_joinAll 7 = .ok (.iload_n 2, 1) := by decide +kernel
theorem dX0_joinAll_8 : decode cX0_joinAll 8 = .ok (.aload_n 0, 1) := by decide +kernel
theorem dX0_joinAll_9 : decode cX0_joinAll 9 = .ok (.getfield 21, 3) := by decide +kernel
theorem dX0_joinAll_12 : decode cX0_joinAll 12 = .ok (.if_icmp .ge 18, 3) := by decide +kernel
theorem dX0_joinAll_15 : decode cX0_joinAll 15 = .ok (.aload_n 0, 1) := by decide +kernel
theorem dX0_joinAll_16 : decode cX0_joinAll 16 = .ok (.getfield 17, 3) := by decide +kernel
theorem dX0_joinAll_19 : decode cX0_joinAll 19 = .ok (.iload_n 2, 1) := by decide +kernel
theorem dX0_joinAll_20 : decode cX0_joinAll 20 = .ok (.ldc2_w 27, 3) := by decide +kernel
theorem dX0_joinAll_23 : decode cX0_joinAll 23 = .ok (.lastore, 1) := by decide +kernel
theorem dX0_joinAll_24 : decode cX0_joinAll 24 = .ok (.iinc 2 1, 3) := by decide +kernel
theorem dX0_joinAll_27 : decode cX0_joinAll 27 = .ok (.goto (-20), 3) := by decide +kernel
theorem dX0_joinAll_30 : decode cX0_joinAll 30 = .ok (.iconst 1, 1) := by decide +kernel
theorem dX0_joinAll_31 : decode cX0_joinAll 31 = .ok (.istore_n 2, 1) := by decide +kernel
theorem dX0_joinAll_32 : decode cX0_joinAll 32 = .ok (.iload_n 2, 1) := by decide +kernel
theorem dX0_joinAll_33 : decode cX0_joinAll 33 = .ok (.aload_n 0, 1) := by decide +kernel
theorem dX0_joinAll_34 : decode cX0_joinAll 34 = .ok (.getfield 21, 3) := by decide +kernel
theorem dX0_joinAll_37 : decode cX0_joinAll 37 = .ok (.if_icmp .ge 32, 3) := by decide +kernel
theorem dX0_joinAll_40 : decode cX0_joinAll 40 = .ok (.aload_n 0, 1) := by decide +kernel
theorem dX0_joinAll_41 : decode cX0_joinAll 41 = .ok (.aload_n 0, 1) := by decide +kernel
theorem dX0_joinAll_42 : decode cX0_joinAll 42 = .ok (.getfield 11, 3) := by decide +kernel
theorem dX0_joinAll_45 : decode cX0_joinAll 45 = .ok (.iload_n 2, 1) := by decide +kernel
theorem dX0_joinAll_46 : decode cX0_joinAll 46 = .ok (.iconst 1, 1) := by decide +kernel
theorem dX0_joinAll_47 : decode cX0_joinAll 47 = .ok (.isub, 1) := by decide +kernel
theorem dX0_joinAll_48 : decode cX0_joinAll 48 = .ok (.aaload, 1) := by decide +kernel
theorem dX0_joinAll_49 : decode cX0_joinAll 49 = .ok (.iload_n 2, 1) := by decide +kernel
theorem dX0_joinAll_50 : decode cX0_joinAll 50 = .ok (.invokevirtual 60, 3) := by decide +kernel
theorem dX0_joinAll_53 : decode cX0_joinAll 53 = .ok (.aload_n 0, 1) := by decide +kernel
theorem dX0_joinAll_54 : decode cX0_joinAll 54 = .ok (.iload_n 2, 1) := by decide +kernel
theorem dX0_joinAll_55 : decode cX0_joinAll 55 = .ok (.aload_n 0, 1) := by decide +kernel
theorem dX0_joinAll_56 : decode cX0_joinAll 56 = .ok (.iload_n 2, 1) := by decide +kernel
theorem dX0_joinAll_57 : decode cX0_joinAll 57 = .ok (.invokevirtual 64, 3) := by decide +kernel
theorem dX0_joinAll_60 : decode cX0_joinAll 60 = .ok (.invokevirtual 68, 3) := by decide +kernel
theorem dX0_joinAll_63 : decode cX0_joinAll 63 = .ok (.iinc 2 1, 3) := by decide +kernel
theorem dX0_joinAll_66 : decode cX0_joinAll 66 = .ok (.goto (-34), 3) := by decide +kernel
theorem dX0_joinAll_69 : decode cX0_joinAll 69 = .ok (.return_, 1) := by decide +kernel
theorem dX0_reachFrom_0 : decode cX0_reachFrom 0 = .ok (.iload_n 2, 1) := by decide +kernel
theorem dX0_reachFrom_1 : decode cX0_reachFrom 1 = .ok (.istore_n 3, 1) := by decide +kernel
theorem dX0_reachFrom_2 : decode cX0_reachFrom 2 = .ok (.iload_n 3, 1) := by decide +kernel
theorem dX0_reachFrom_3 : decode cX0_reachFrom 3 = .ok (.aload_n 0, 1) := by decide +kernel
theorem dX0_reachFrom_4 : decode cX0_reachFrom 4 = .ok (.getfield 21, 3) := by decide +kernel
theorem dX0_reachFrom_7 : decode cX0_reachFrom 7 = .ok (.if_icmp .ge 53, 3) := by decide +kernel
theorem dX0_reachFrom_10 : decode cX0_reachFrom 10 = .ok (.aload_n 0, 1) := by decide +kernel
theorem dX0_reachFrom_11 : decode cX0_reachFrom 11 = .ok (.getfield 11, 3) := by decide +kernel
theorem dX0_reachFrom_14 : decode cX0_reachFrom 14 = .ok (.iload_n 3, 1) := by decide +kernel
theorem dX0_reachFrom_15 : decode cX0_reachFrom 15 = .ok (.aaload, 1) := by decide +kernel
theorem dX0_reachFrom_16 : decode cX0_reachFrom 16 = .ok (.astore 4, 2) := by decide +kernel
theorem dX0_reachFrom_18 : decode cX0_reachFrom 18 = .ok (.aload_n 1, 1) := by decide +kernel
theorem dX0_reachFrom_19 : decode cX0_reachFrom 19 = .ok (.ifnull 35, 3) := by decide +kernel
theorem dX0_reachFrom_22 : decode cX0_reachFrom 22 = .ok (.aload 4, 2) := by decide +kernel
theorem dX0_reachFrom_24 : decode cX0_reachFrom 24 = .ok (.ifnull 30, 3) := by decide +kernel
theorem dX0_reachFrom_27 : decode cX0_reachFrom 27 = .ok (.aload_n 0, 1) := by decide +kernel
theorem dX0_reachFrom_28 : decode cX0_reachFrom 28 = .ok (.getfield 17, 3) := by decide +kernel
theorem dX0_reachFrom_31 : decode cX0_reachFrom 31 = .ok (.iload_n 3, 1) := by decide +kernel
theorem dX0_reachFrom_32 : decode cX0_reachFrom 32 = .ok (.aload_n 0, 1) := by decide +kernel
theorem dX0_reachFrom_33 : decode cX0_reachFrom 33 = .ok (.getfield 17, 3) := by decide +kernel
theorem dX0_reachFrom_36 : decode cX0_reachFrom 36 = .ok (.iload_n 3, 1) := by decide +kernel
theorem dX0_reachFrom_37 : decode cX0_reachFrom 37 = .ok (.laload, 1) := by decide +kernel
theorem dX0_reachFrom_38 : decode cX0_reachFrom 38 = .ok (.aload_n 1, 1) := by decide +kernel
theorem dX0_reachFrom_39 : decode cX0_reachFrom 39 = .ok (.getfield 37, 3) := by decide +kernel
theorem dX0_reachFrom_42 : decode cX0_reachFrom 42 = .ok (.aload 4, 2) := by decide +kernel
theorem dX0_reachFrom_44 : decode cX0_reachFrom 44 = .ok (.getfield 37, 3) := by decide +kernel
theorem dX0_reachFrom_47 : decode cX0_reachFrom 47 = .ok (.invokevirtual 41, 3) := by decide +kernel
theorem dX0_reachFrom_50 : decode cX0_reachFrom 50 = .ok (.invokestatic 72, 3) := by decide +kernel
theorem dX0_reachFrom_53 : decode cX0_reachFrom 53 = .ok (.lastore, 1) := by decide +kernel
theorem dX0_reachFrom_54 : decode cX0_reachFrom 54 = .ok (.iinc 3 1, 3) := by decide +kernel
theorem dX0_reachFrom_57 : decode cX0_reachFrom 57 = .ok (.goto (-55), 3) := by decide +kernel
theorem dX0_reachFrom_60 : decode cX0_reachFrom 60 = .ok (.return_, 1) := by decide +kernel
theorem dX0_leastFrom_0 : decode cX0_leastFrom 0 = .ok (.iload_n 1, 1) := by decide +kernel
theorem dX0_leastFrom_1 : decode cX0_leastFrom 1 = .ok (.istore_n 2, 1) := by decide +kernel
theorem dX0_leastFrom_2 : decode cX0_leastFrom 2 = .ok (.iload_n 1, 1) := by decide +kernel
theorem dX0_leastFrom_3 : decode cX0_leastFrom 3 = .ok (.iconst 1, 1) := by decide +kernel
theorem dX0_leastFrom_4 : decode cX0_leastFrom 4 = .ok (.iadd, 1) := by decide +kernel
theorem dX0_leastFrom_5 : decode cX0_leastFrom 5 = .ok (.istore_n 3, 1) := by decide +kernel
theorem dX0_leastFrom_6 : decode cX0_leastFrom 6 = .ok (.iload_n 3, 1) := by decide +kernel
theorem dX0_leastFrom_7 : decode cX0_leastFrom 7 = .ok (.aload_n 0, 1) := by decide +kernel
theorem dX0_leastFrom_8 : decode cX0_leastFrom 8 = .ok (.getfield 21, 3) := by decide +kernel
theorem dX0_leastFrom_11 : decode cX0_leastFrom 11 = .ok (.if_icmp .ge 27, 3) := by decide +kernel
theorem dX0_leastFrom_14 : decode cX0_leastFrom 14 = .ok (.aload_n 0, 1) := by decide +kernel
theorem dX0_leastFrom_15 : decode cX0_leastFrom 15 = .ok (.getfield 17, 3) := by decide +kernel
theorem dX0_leastFrom_18 : decode cX0_leastFrom 18 = .ok (.iload_n 3, 1) := by decide +kernel
theorem dX0_leastFrom_19 : decode cX0_leastFrom 19 = .ok (.laload, 1) := by decide +kernel
theorem dX0_leastFrom_20 : decode cX0_leastFrom 20 = .ok (.aload_n 0, 1) := by decide +kernel
theorem dX0_leastFrom_21 : decode cX0_leastFrom 21 = .ok (.getfield 17, 3) := by decide +kernel
theorem dX0_leastFrom_24 : decode cX0_leastFrom 24 = .ok (.iload_n 2, 1) := by decide +kernel
theorem dX0_leastFrom_25 : decode cX0_leastFrom 25 = .ok (.laload, 1) := by decide +kernel
theorem dX0_leastFrom_26 : decode cX0_leastFrom 26 = .ok (.lcmp, 1) := by decide +kernel
theorem dX0_leastFrom_27 : decode cX0_leastFrom 27 = .ok (.ifCond .ge 5, 3) := by decide +kernel
theorem dX0_leastFrom_30 : decode cX0_leastFrom 30 = .ok (.iload_n 3, 1) := by decide +kernel
theorem dX0_leastFrom_31 : decode cX0_leastFrom 31 = .ok (.istore_n 2, 1) := by decide +kernel
theorem dX0_leastFrom_32 : decode cX0_leastFrom 32 = .ok (.iinc 3 1, 3) := by decide +kernel
theorem dX0_leastFrom_35 : decode cX0_leastFrom 35 = .ok (.goto (-29), 3) := by decide +kernel
theorem dX0_leastFrom_38 : decode cX0_leastFrom 38 = .ok (.iload_n 2, 1) := by decide +kernel
theorem dX0_leastFrom_39 : decode cX0_leastFrom 39 = .ok (.ireturn, 1) := by decide +kernel
theorem dX0_swap_0 : decode cX0_swap 0 = .ok (.aload_n 0, 1) := by decide +kernel
theorem dX0_swap_1 : decode cX0_swap 1 = .ok (.getfield 11, 3) := by decide +kernel
theorem dX0_swap_4 : decode cX0_swap 4 = .ok (.iload_n 1, 1) := by decide +kernel
theorem dX0_swap_5 : decode cX0_swap 5 = .ok (.aaload, 1) := by decide +kernel
theorem dX0_swap_6 : decode cX0_swap 6 = .ok (.astore_n 3, 1) := by decide +kernel
theorem dX0_swap_7 : decode cX0_swap 7 = .ok (.aload_n 0, 1) := by decide +kernel
theorem dX0_swap_8 : decode cX0_swap 8 = .ok (.getfield 11, 3) := by decide +kernel
theorem dX0_swap_11 : decode cX0_swap 11 = .ok (.iload_n 1, 1) := by decide +kernel
theorem dX0_swap_12 : decode cX0_swap 12 = .ok (.aload_n 0, 1) := by decide +kernel
theorem dX0_swap_13 : decode cX0_swap 13 = .ok (.getfield 11, 3) := by decide +kernel
theorem dX0_swap_16 : decode cX0_swap 16 = .ok (.iload_n 2, 1) := by decide +kernel
theorem dX0_swap_17 : decode cX0_swap 17 = .ok (.aaload, 1) := by decide +kernel
theorem dX0_swap_18 : decode cX0_swap 18 = .ok (.aastore, 1) := by decide +kernel
theorem dX0_swap_19 : decode cX0_swap 19 = .ok (.aload_n 0, 1) := by decide +kernel
theorem dX0_swap_20 : decode cX0_swap 20 = .ok (.getfield 11, 3) := by decide +kernel
theorem dX0_swap_23 : decode cX0_swap 23 = .ok (.iload_n 2, 1) := by decide +kernel
theorem dX0_swap_24 : decode cX0_swap 24 = .ok (.aload_n 3, 1) := by decide +kernel
theorem dX0_swap_25 : decode cX0_swap 25 = .ok (.aastore, 1) := by decide +kernel
theorem dX0_swap_26 : decode cX0_swap 26 = .ok (.aload_n 0, 1) := by decide +kernel
theorem dX0_swap_27 : decode cX0_swap 27 = .ok (.getfield 17, 3) := by decide +kernel
theorem dX0_swap_30 : decode cX0_swap 30 = .ok (.iload_n 1, 1) := by decide +kernel
theorem dX0_swap_31 : decode cX0_swap 31 = .ok (.laload, 1) := by decide +kernel
theorem dX0_swap_32 : decode cX0_swap 32 = .ok (.lstore 4, 2) := by decide +kernel
theorem dX0_swap_34 : decode cX0_swap 34 = .ok (.aload_n 0, 1) := by decide +kernel
theorem dX0_swap_35 : decode cX0_swap 35 = .ok (.getfield 17, 3) := by decide +kernel
theorem dX0_swap_38 : decode cX0_swap 38 = .ok (.iload_n 1, 1) := by decide +kernel
theorem dX0_swap_39 : decode cX0_swap 39 = .ok (.aload_n 0, 1) := by decide +kernel
theorem dX0_swap_40 : decode cX0_swap 40 = .ok (.getfield 17, 3) := by decide +kernel
theorem dX0_swap_43 : decode cX0_swap 43 = .ok (.iload_n 2, 1) := by decide +kernel
theorem dX0_swap_44 : decode cX0_swap 44 = .ok (.laload, 1) := by decide +kernel
theorem dX0_swap_45 : decode cX0_swap 45 = .ok (.lastore, 1) := by decide +kernel
theorem dX0_swap_46 : decode cX0_swap 46 = .ok (.aload_n 0, 1) := by decide +kernel
theorem dX0_swap_47 : decode cX0_swap 47 = .ok (.getfield 17, 3) := by decide +kernel
theorem dX0_swap_50 : decode cX0_swap 50 = .ok (.iload_n 2, 1) := by decide +kernel
theorem dX0_swap_51 : decode cX0_swap 51 = .ok (.lload 4, 2) := by decide +kernel
theorem dX0_swap_53 : decode cX0_swap 53 = .ok (.lastore, 1) := by decide +kernel
theorem dX0_swap_54 : decode cX0_swap 54 = .ok (.return_, 1) := by decide +kernel
theorem dX0_partsWithin_0 : decode cX0_partsWithin 0 = .ok (.aload_n 0, 1) := by decide +kernel
theorem dX0_partsWithin_1 : decode cX0_partsWithin 1 = .ok (.getfield 21, 3) := by decide +kernel
theorem dX0_partsWithin_4 : decode cX0_partsWithin 4 = .ok (.ifCond .le 7, 3) := by decide +kernel
theorem dX0_partsWithin_7 : decode cX0_partsWithin 7 = .ok (.iconst 1, 1) := by decide +kernel
theorem dX0_partsWithin_8 : decode cX0_partsWithin 8 = .ok (.goto 4, 3) := by decide +kernel
theorem dX0_partsWithin_11 : decode cX0_partsWithin 11 = .ok (.iconst 0, 1) := by decide +kernel
theorem dX0_partsWithin_12 : decode cX0_partsWithin 12 = .ok (.istore_n 3, 1) := by decide +kernel
theorem dX0_partsWithin_13 : decode cX0_partsWithin 13 = .ok (.iconst 1, 1) := by decide +kernel
theorem dX0_partsWithin_14 : decode cX0_partsWithin 14 = .ok (.istore 4, 2) := by decide +kernel
theorem dX0_partsWithin_16 : decode cX0_partsWithin 16 = .ok (.iload 4, 2) := by decide +kernel
theorem dX0_partsWithin_18 : decode cX0_partsWithin 18 = .ok (.aload_n 0, 1) := by decide +kernel
theorem dX0_partsWithin_19 : decode cX0_partsWithin 19 = .ok (.getfield 21, 3) := by decide +kernel
theorem dX0_partsWithin_22 : decode cX0_partsWithin 22 = .ok (.if_icmp .ge 24, 3) := by decide +kernel
theorem dX0_partsWithin_25 : decode cX0_partsWithin 25 = .ok (.aload_n 0, 1) := by decide +kernel
theorem dX0_partsWithin_26 : decode cX0_partsWithin 26 = .ok (.getfield 17, 3) := by decide +kernel
theorem dX0_partsWithin_29 : decode cX0_partsWithin 29 = .ok (.iload 4, 2) := by decide +kernel
theorem dX0_partsWithin_31 : decode cX0_partsWithin 31 = .ok (.laload, 1) := by decide +kernel
theorem dX0_partsWithin_32 : decode cX0_partsWithin 32 = .ok (.lload_n 1, 1) := by decide +kernel
theorem dX0_partsWithin_33 : decode cX0_partsWithin 33 = .ok (.lcmp, 1) := by decide +kernel
theorem dX0_partsWithin_34 : decode cX0_partsWithin 34 = .ok (.ifCond .le 6, 3) := by decide +kernel
theorem dX0_partsWithin_37 : decode cX0_partsWithin 37 = .ok (.iinc 3 1, 3) := by decide +kernel
theorem dX0_partsWithin_40 : decode cX0_partsWithin 40 = .ok (.iinc 4 1, 3) := by decide +kernel
theorem dX0_partsWithin_43 : decode cX0_partsWithin 43 = .ok (.goto (-27), 3) := by decide +kernel
theorem dX0_partsWithin_46 : decode cX0_partsWithin 46 = .ok (.iload_n 3, 1) := by decide +kernel
theorem dX0_partsWithin_47 : decode cX0_partsWithin 47 = .ok (.ireturn, 1) := by decide +kernel
theorem dX0_sum_0 : decode cX0_sum 0 = .ok (.lconst 0, 1) := by decide +kernel
theorem dX0_sum_1 : decode cX0_sum 1 = .ok (.lstore_n 1, 1) := by decide +kernel
theorem dX0_sum_2 : decode cX0_sum 2 = .ok (.iconst 1, 1) := by decide +kernel
theorem dX0_sum_3 : decode cX0_sum 3 = .ok (.istore_n 3, 1) := by decide +kernel
theorem dX0_sum_4 : decode cX0_sum 4 = .ok (.iload_n 3, 1) := by decide +kernel
theorem dX0_sum_5 : decode cX0_sum 5 = .ok (.aload_n 0, 1) := by decide +kernel
theorem dX0_sum_6 : decode cX0_sum 6 = .ok (.getfield 21, 3) := by decide +kernel
theorem dX0_sum_9 : decode cX0_sum 9 = .ok (.if_icmp .ge 18, 3) := by decide +kernel
theorem dX0_sum_12 : decode cX0_sum 12 = .ok (.lload_n 1, 1) := by decide +kernel
theorem dX0_sum_13 : decode cX0_sum 13 = .ok (.aload_n 0, 1) := by decide +kernel
theorem dX0_sum_14 : decode cX0_sum 14 = .ok (.getfield 17, 3) := by decide +kernel
theorem dX0_sum_17 : decode cX0_sum 17 = .ok (.iload_n 3, 1) := by decide +kernel
theorem dX0_sum_18 : decode cX0_sum 18 = .ok (.laload, 1) := by decide +kernel
theorem dX0_sum_19 : decode cX0_sum 19 = .ok (.ladd, 1) := by decide +kernel
theorem dX0_sum_20 : decode cX0_sum 20 = .ok (.lstore_n 1, 1) := by decide +kernel
theorem dX0_sum_21 : decode cX0_sum 21 = .ok (.iinc 3 1, 3) := by decide +kernel
theorem dX0_sum_24 : decode cX0_sum 24 = .ok (.goto (-20), 3) := by decide +kernel
theorem dX0_sum_27 : decode cX0_sum 27 = .ok (.lload_n 1, 1) := by decide +kernel
theorem dX0_sum_28 : decode cX0_sum 28 = .ok (.lreturn, 1) := by decide +kernel
theorem dX1_init_0 : decode cX1_init 0 = .ok (.aload_n 0, 1) := by decide +kernel
theorem dX1_init_1 : decode cX1_init 1 = .ok (.invokespecial 3, 3) := by decide +kernel
theorem dX1_init_4 : decode cX1_init 4 = .ok (.aload_n 0, 1) := by decide +kernel
theorem dX1_init_5 : decode cX1_init 5 = .ok (.bipush 100, 2) := by decide +kernel
theorem dX1_init_7 : decode cX1_init 7 = .ok (.newarray .int, 2) := by decide +kernel
theorem dX1_init_9 : decode cX1_init 9 = .ok (.putfield 9, 3) := by decide +kernel
theorem dX1_init_12 : decode cX1_init 12 = .ok (.aload_n 0, 1) := by decide +kernel
theorem dX1_init_13 : decode cX1_init 13 = .ok (.bipush 100, 2) := by decide +kernel
theorem dX1_init_15 : decode cX1_init 15 = .ok (.newarray .long, 2) := by decide +kernel
theorem dX1_init_17 : decode cX1_init 17 = .ok (.putfield 15, 3) := by decide +kernel
theorem dX1_init_20 : decode cX1_init 20 = .ok (.return_, 1) := by decide +kernel
theorem dX1_empty_0 : decode cX1_empty 0 = .ok (.aload_n 0, 1) := by decide +kernel
theorem dX1_empty_1 : decode cX1_empty 1 = .ok (.iconst 0, 1) := by decide +kernel
theorem dX1_empty_2 : decode cX1_empty 2 = .ok (.putfield 19, 3) := by decide +kernel
theorem dX1_empty_5 : decode cX1_empty 5 = .ok (.aload_n 0, 1) := by decide +kernel
theorem dX1_empty_6 : decode cX1_empty 6 = .ok (.iconst 0, 1) := by decide +kernel
theorem dX1_empty_7 : decode cX1_empty 7 = .ok (.aload_n 0, 1) := by decide +kernel
theorem dX1_empty_8 : decode cX1_empty 8 = .ok (.getfield 9, 3) := by decide +kernel
theorem dX1_empty_11 : decode cX1_empty 11 = .ok (.arraylength, 1) := by decide +kernel
theorem dX1_empty_12 : decode cX1_empty 12 = .ok (.iload_n 1, 1) := by decide +kernel
theorem dX1_empty_13 : decode cX1_empty 13 = .ok (.invokestatic 23, 3) := by decide +kernel
theorem dX1_empty_16 : decode cX1_empty 16 = .ok (.invokestatic 29, 3) := by decide +kernel
theorem dX1_empty_19 : decode cX1_empty 19 = .ok (.putfield 32, 3) := by decide +kernel
theorem dX1_empty_22 : decode cX1_empty 22 = .ok (.return_, 1) := by decide +kernel
theorem dX1_has_0 : decode cX1_has 0 = .ok (.iload_n 1, 1) := by decide +kernel
theorem dX1_has_1 : decode cX1_has 1 = .ok (.ifCond .lt 15, 3) := by decide +kernel
theorem dX1_has_4 : decode cX1_has 4 = .ok (.iload_n 1, 1) := by decide +kernel
theorem dX1_has_5 : decode cX1_has 5 = .ok (.aload_n 0, 1) := by decide +kernel
theorem dX1_has_6 : decode cX1_has 6 = .ok (.getfield 19, 3) := by decide +kernel
theorem dX1_has_9 : decode cX1_has 9 = .ok (.if_icmp .ge 7, 3) := by decide +kernel
theorem dX1_has_12 : decode cX1_has 12 = .ok (.iconst 1, 1) := by decide +kernel
theorem dX1_has_13 : decode cX1_has 13 = .ok (.goto 4, 3) := by decide +kernel
theorem dX1_has_16 : decode cX1_has 16 = .ok (.iconst 0, 1) := by decide +kernel
theorem dX1_has_17 : decode cX1_has 17 = .ok (.ireturn, 1) := by decide +kernel
theorem dX1_isFull_0 : decode cX1_isFull 0 = .ok (.aload_n 0, 1) := by decide +kernel
theorem dX1_isFull_1 : decode cX1_isFull 1 = .ok (.getfield 19, 3) := by decide +kernel
theorem dX1_isFull_4 : decode cX1_isFull 4 = .ok (.aload_n 0, 1) := by decide +kernel
theorem dX1_isFull_5 : decode cX1_isFull 5 = .ok (.getfield 32, 3) := by decide +kernel
theorem dX1_isFull_8 : decode cX1_isFull 8 = .ok (.if_icmp .lt 7, 3) := by decide +kernel
theorem dX1_isFull_11 : decode cX1_isFull 11 = .ok (.iconst 1, 1) := by decide +kernel
theorem dX1_isFull_12 : decode cX1_isFull 12 = .ok (.goto 4, 3) := by decide +kernel
theorem dX1_isFull_15 : decode cX1_isFull 15 = .ok (.iconst 0, 1) := by decide +kernel
theorem dX1_isFull_16 : decode cX1_isFull 16 = .ok (.ireturn, 1) := by decide +kernel
theorem dX1_offer_0 : decode cX1_offer 0 = .ok (.aload_n 0, 1) := by decide +kernel
theorem dX1_offer_1 : decode cX1_offer 1 = .ok (.getfield 32, 3) := by decide +kernel
theorem dX1_offer_4 : decode cX1_offer 4 = .ok (.iconst 1, 1) := by decide +kernel
theorem dX1_offer_5 : decode cX1_offer 5 = .ok (.if_icmp .lt 25, 3) := by decide +kernel
theorem dX1_offer_8 : decode cX1_offer 8 = .ok (.aload_n 0, 1) := by decide +kernel
theorem dX1_offer_9 : decode cX1_offer 9 = .ok (.invokevirtual 35, 3) := by decide +kernel
theorem dX1_offer_12 : decode cX1_offer 12 = .ok (.ifCond .eq 19, 3) := by decide +kernel
theorem dX1_offer_15 : decode cX1_offer 15 = .ok (.aload_n 0, 1) := by decide +kernel
theorem dX1_offer_16 : decode cX1_offer 16 = .ok (.iload_n 1, 1) := by decide +kernel
theorem dX1_offer_17 : decode cX1_offer 17 = .ok (.lload_n 2, 1) := by decide +kernel
theorem dX1_offer_18 : decode cX1_offer 18 = .ok (.aload_n 0, 1) := by decide +kernel
theorem dX1_offer_19 : decode cX1_offer 19 = .ok (.getfield 32, 3) := by decide +kernel
theorem dX1_offer_22 : decode cX1_offer 22 = .ok (.iconst 1, 1) := by decide +kernel
theorem dX1_offer_23 : decode cX1_offer 23 = .ok (.isub, 1) := by decide +kernel
theorem dX1_offer_24 : decode cX1_offer 24 = .ok (.invokevirtual 39, 3) := by decide +kernel
theorem dX1_offer_27 : decode cX1_offer 27 = .ok (.ifCond .ne 4, 3) := by decide +kernel
theorem dX1_offer_30 : decode cX1_offer 30 = .ok (.return_, 1) := by decide +kernel
theorem dX1_offer_31 : decode cX1_offer 31 = .ok (.aload_n 0, 1) := by decide +kernel
theorem dX1_offer_32 : decode cX1_offer 32 = .ok (.invokevirtual 35, 3) := by decide +kernel
theorem dX1_offer_35 : decode cX1_offer 35 = .ok (.ifCond .eq 12, 3) := by decide +kernel
theorem dX1_offer_38 : decode cX1_offer 38 = .ok (.aload_n 0, 1) := by decide +kernel
theorem dX1_offer_39 : decode cX1_offer 39 = .ok (.getfield 32, 3) := by decide +kernel
theorem dX1_offer_42 : decode cX1_offer 42 = .ok (.iconst 1, 1) := by decide +kernel
theorem dX1_offer_43 : decode cX1_offer 43 = .ok (.isub, 1) := by decide +kernel
theorem dX1_offer_44 : decode cX1_offer 44 = .ok (.goto 7, 3) := by decide +kernel
theorem dX1_offer_47 : decode cX1_offer 47 = .ok (.aload_n 0, 1) := by decide +kernel
theorem dX1_offer_48 : decode cX1_offer 48 = .ok (.getfield 19, 3) := by decide +kernel
theorem dX1_offer_51 : decode cX1_offer 51 = .ok (.istore 4, 2) := by decide +kernel
theorem dX1_offer_53 : decode cX1_offer 53 = .ok (.aload_n 0, 1) := by decide +kernel
theorem dX1_offer_54 : decode cX1_offer 54 = .ok (.iload 4, 2) := by decide +kernel
theorem dX1_offer_56 : decode cX1_offer 56 = .ok (.iconst 1, 1) := by decide +kernel
theorem dX1_offer_57 : decode cX1_offer 57 = .ok (.iadd, 1) := by decide +kernel
theorem dX1_offer_58 : decode cX1_offer 58 = .ok (.putfield 19, 3) := by decide +kernel
theorem dX1_offer_61 : decode cX1_offer 61 = .ok (.iload 4, 2) := by decide +kernel
theorem dX1_offer_63 : decode cX1_offer 63 = .ok (.ifCond .le 54, 3) := by decide +kernel
theorem dX1_offer_66 : decode cX1_offer 66 = .ok (.aload_n 0, 1) := by decide +kernel
theorem dX1_offer_67 : decode cX1_offer 67 = .ok (.iload_n 1, 1) := by decide +kernel
theorem dX1_offer_68 : decode cX1_offer 68 = .ok (.lload_n 2, 1) := by decide +kernel
theorem dX1_offer_69 : decode cX1_offer 69 = .ok (.iload 4, 2) := by decide +kernel
theorem dX1_offer_71 : decode cX1_offer 71 = .ok (.iconst 1, 1) := by decide +kernel
theorem dX1_offer_72 : decode cX1_offer 72 = .ok (.isub, 1) := by decide +kernel
theorem dX1_offer_73 : decode cX1_offer 73 = .ok (.invokevirtual 39, 3) := by decide +kernel
theorem dX1_offer_76 : decode cX1_offer 76 = .ok (.ifCond .eq 41, 3) := by decide +kernel
theorem dX1_offer_79 : decode cX1_offer 79 = .ok (.aload_n 0, 1) := by decide +kernel
theorem dX1_offer_80 : decode cX1_offer 80 = .ok (.getfield 9, 3) := by decide +kernel
theorem dX1_offer_83 : decode cX1_offer 83 = .ok (.iload 4, 2) := by decide +kernel
theorem dX1_offer_85 : decode cX1_offer 85 = .ok (.aload_n 0, 1) := by decide +kernel
theorem dX1_offer_86 : decode cX1_offer 86 = .ok (.getfield 9, 3) := by decide +kernel
theorem dX1_offer_89 : decode cX1_offer 89 = .ok (.iload 4, 2) := by decide +kernel
theorem dX1_offer_91 : decode cX1_offer 91 = .ok (.iconst 1, 1) := by decide +kernel
theorem dX1_offer_92 : decode cX1_offer 92 = .ok (.isub, 1) := by decide +kernel
theorem dX1_offer_93 : decode cX1_offer 93 = .ok (.iaload, 1) := by decide +kernel
theorem dX1_offer_94 : decode cX1_offer 94 = .ok (.iastore, 1) := by decide +kernel
theorem dX1_offer_95 : decode cX1_offer 95 = .ok (.aload_n 0, 1) := by decide +kernel
theorem dX1_offer_96 : decode cX1_offer 96 = .ok (.getfield 15, 3) := by decide +kernel
theorem dX1_offer_99 : decode cX1_offer 99 = .ok (.iload 4, 2) := by decide +kernel
theorem dX1_offer_101 : decode cX1_offer 101 = .ok (.aload_n 0, 1) := by decide +kernel
theorem dX1_offer_102 : decode cX1_offer 102 = .ok (.getfield 15, 3) := by decide +kernel
theorem dX1_offer_105 : decode cX1_offer 105 = .ok (.iload 4, 2) := by decide +kernel
theorem dX1_offer_107 : decode cX1_offer 107 = .ok (.iconst 1, 1) := by decide +kernel
theorem dX1_offer_108 : decode cX1_offer 108 = .ok (.isub, 1) := by decide +kernel
theorem dX1_offer_109 : decode cX1_offer 109 = .ok (.laload, 1) := by decide +kernel
theorem dX1_offer_110 : decode cX1_offer 110 = .ok (.lastore, 1) := by decide +kernel
theorem dX1_offer_111 : decode cX1_offer 111 = .ok (.iinc 4 (-1), 3) := by decide +kernel
theorem dX1_offer_114 : decode cX1_offer 114 = .ok (.goto (-53), 3) := by decide +kernel
theorem dX1_offer_117 : decode cX1_offer 117 = .ok (.aload_n 0, 1) := by decide +kernel
theorem dX1_offer_118 : decode cX1_offer 118 = .ok (.getfield 9, 3) := by decide +kernel
theorem dX1_offer_121 : decode cX1_offer 121 = .ok (.iload 4, 2) := by decide +kernel
theorem dX1_offer_123 : decode cX1_offer 123 = .ok (.iload_n 1, 1) := by decide +kernel
theorem dX1_offer_124 : decode cX1_offer 124 = .ok (.iastore, 1) := by decide +kernel
theorem dX1_offer_125 : decode cX1_offer 125 = .ok (.aload_n 0, 1) := by decide +kernel
theorem dX1_offer_126 : decode cX1_offer 126 = .ok (.getfield 15, 3) := by decide +kernel
theorem dX1_offer_129 : decode cX1_offer 129 = .ok (.iload 4, 2) := by decide +kernel
theorem dX1_offer_131 : decode cX1_offer 131 = .ok (.lload_n 2, 1) := by decide +kernel
theorem dX1_offer_132 : decode cX1_offer 132 = .ok (.lastore, 1) := by decide +kernel
theorem dX1_offer_133 : decode cX1_offer 133 = .ok (.return_, 1) := by decide +kernel
theorem dX1_shutsOut_0 : decode cX1_shutsOut 0 = .ok (.aload_n 0, 1) := by decide +kernel
theorem dX1_shutsOut_1 : decode cX1_shutsOut 1 = .ok (.invokevirtual 35, 3) := by decide +kernel
theorem dX1_shutsOut_4 : decode cX1_shutsOut 4 = .ok (.ifCond .eq 31, 3) := by decide +kernel
theorem dX1_shutsOut_7 : decode cX1_shutsOut 7 = .ok (.aload_n 0, 1) := by decide +kernel
theorem dX1_shutsOut_8 : decode cX1_shutsOut 8 = .ok (.getfield 19, 3) := by decide +kernel
theorem dX1_shutsOut_11 : decode cX1_shutsOut 11 = .ok (.iconst 1, 1) := by decide +kernel
theorem dX1_shutsOut_12 : decode cX1_shutsOut 12 = .ok (.if_icmp .lt 19, 3) := by decide +kernel
theorem dX1_shutsOut_15 : decode cX1_shutsOut 15 = .ok (.lload_n 1, 1) := by decide +kernel
theorem dX1_shutsOut_16 : decode cX1_shutsOut 16 = .ok (.aload_n 0, 1) := by decide +kernel
theorem dX1_shutsOut_17 : decode cX1_shutsOut 17 = .ok (.getfield 15, 3) := by decide +kernel
theorem dX1_shutsOut_20 : decode cX1_shutsOut 20 = .ok (.aload_n 0, 1) := by decide +kernel
theorem dX1_shutsOut_21 : decode cX1_shutsOut 21 = .ok (.getfield 19, 3) := by decide +kernel
theorem dX1_shutsOut_24 : decode cX1_shutsOut 24 = .ok (.iconst 1, 1) := by decide +kernel
theorem dX1_shutsOut_25 : decode cX1_shutsOut 25 = .ok (.isub, 1) := by decide +kernel
theorem dX1_shutsOut_26 : decode cX1_shutsOut 26 = .ok (.laload, 1) := by decide +kernel
theorem dX1_shutsOut_27 : decode cX1_shutsOut 27 = .ok (.lcmp, 1) := by decide +kernel
theorem dX1_shutsOut_28 : decode cX1_shutsOut 28 = .ok (.ifCond .le 7, 3) := by decide +kernel
theorem dX1_shutsOut_31 : decode cX1_shutsOut 31 = .ok (.iconst 1, 1) := by decide +kernel
theorem dX1_shutsOut_32 : decode cX1_shutsOut 32 = .ok (.goto 4, 3) := by decide +kernel
theorem dX1_shutsOut_35 : decode cX1_shutsOut 35 = .ok (.iconst 0, 1) := by decide +kernel
theorem dX1_shutsOut_36 : decode cX1_shutsOut 36 = .ok (.ireturn, 1) := by decide +kernel
theorem dX1_isAhead_0 : decode cX1_isAhead 0 = .ok (.lload_n 2, 1) := by decide +kernel
theorem dX1_isAhead_1 : decode cX1_isAhead 1 = .ok (.aload_n 0, 1) := by decide +kernel
theorem dX1_isAhead_2 : decode cX1_isAhead 2 = .ok (.getfield 15, 3) := by decide +kernel
theorem dX1_isAhead_5 : decode cX1_isAhead 5 = .ok (.iload 4, 2) := by decide +kernel
theorem dX1_isAhead_7 : decode cX1_isAhead 7 = .ok (.laload, 1) := by decide +kernel
theorem dX1_isAhead_8 : decode cX1_isAhead 8 = .ok (.lcmp, 1) := by decide +kernel
theorem dX1_isAhead_9 : decode cX1_isAhead 9 = .ok (.ifCond .lt 26, 3) := by decide +kernel
theorem dX1_isAhead_12 : decode cX1_isAhead 12 = .ok (.lload_n 2, 1) := by decide +kernel
theorem dX1_isAhead_13 : decode cX1_isAhead 13 = .ok (.aload_n 0, 1) := by decide +kernel
theorem dX1_isAhead_14 : decode cX1_isAhead 14 = .ok (.getfield 15, 3) := by decide +kernel
theorem dX1_isAhead_17 : decode cX1_isAhead 17 = .ok (.iload 4, 2) := by decide +kernel
theorem dX1_isAhead_19 : decode cX1_isAhead 19 = .ok (.laload, 1) := by decide +kernel
theorem dX1_isAhead_20 : decode cX1_isAhead 20 = .ok (.lcmp, 1) := by decide +kernel
theorem dX1_isAhead_21 : decode cX1_isAhead 21 = .ok (.ifCond .ne 18, 3) := by decide +kernel
theorem dX1_isAhead_24 : decode cX1_isAhead 24 = .ok (.iload_n 1, 1) := by decide +kernel
theorem dX1_isAhead_25 : decode cX1_isAhead 25 = .ok (.aload_n 0, 1) := by decide +kernel
theorem dX1_isAhead_26 : decode cX1_isAhead 26 = .ok (.getfield 9, 3) := by decide +kernel
theorem dX1_isAhead_29 : decode cX1_isAhead 29 = .ok (.iload 4, 2) := by decide +kernel
theorem dX1_isAhead_31 : decode cX1_isAhead 31 = .ok (.iaload, 1) := by decide +kernel
theorem dX1_isAhead_32 : decode cX1_isAhead 32 = .ok (.if_icmp .ge 7, 3) := by decide +kernel
theorem dX1_isAhead_35 : decode cX1_isAhead 35 = .ok (.iconst 1, 1) := by decide +kernel
theorem dX1_isAhead_36 : decode cX1_isAhead 36 = .ok (.goto 4, 3) := by decide +kernel
theorem dX1_isAhead_39 : decode cX1_isAhead 39 = .ok (.iconst 0, 1) := by decide +kernel
theorem dX1_isAhead_40 : decode cX1_isAhead 40 = .ok (.ireturn, 1) := by decide +kernel
theorem dX2_init_0 : decode cX2_init 0 = .ok (.aload_n 0, 1) := by decide +kernel
theorem dX2_init_1 : decode cX2_init 1 = .ok (.invokespecial 1, 3) := by decide +kernel
theorem dX2_init_4 : decode cX2_init 4 = .ok (.aload_n 0, 1) := by decide +kernel
theorem dX2_init_5 : decode cX2_init 5 = .ok (.iload_n 1, 1) := by decide +kernel
theorem dX2_init_6 : decode cX2_init 6 = .ok (.putfield 7, 3) := by decide +kernel
theorem dX2_init_9 : decode cX2_init 9 = .ok (.aload_n 0, 1) := by decide +kernel
theorem dX2_init_10 : decode cX2_init 10 = .ok (.aload_n 2, 1) := by decide +kernel
theorem dX2_init_11 : decode cX2_init 11 = .ok (.putfield 13, 3) := by decide +kernel
theorem dX2_init_14 : decode cX2_init 14 = .ok (.aload_n 0, 1) := by decide +kernel
theorem dX2_init_15 : decode cX2_init 15 = .ok (.iconst 1, 1) := by decide +kernel
theorem dX2_init_16 : decode cX2_init 16 = .ok (.putfield 17, 3) := by decide +kernel
theorem dX2_init_19 : decode cX2_init 19 = .ok (.return_, 1) := by decide +kernel
theorem dX2_isLess_0 : decode cX2_isLess 0 = .ok (.aload_n 0, 1) := by decide +kernel
theorem dX2_isLess_1 : decode cX2_isLess 1 = .ok (.getfield 13, 3) := by decide +kernel
theorem dX2_isLess_4 : decode cX2_isLess 4 = .ok (.iload_n 2, 1) := by decide +kernel
theorem dX2_isLess_5 : decode cX2_isLess 5 = .ok (.invokevirtual 20, 3) := by decide +kernel
theorem dX2_isLess_8 : decode cX2_isLess 8 = .ok (.istore_n 3, 1) := by decide +kernel
theorem dX2_isLess_9 : decode cX2_isLess 9 = .ok (.aload_n 1, 1) := by decide +kernel
theorem dX2_isLess_10 : decode cX2_isLess 10 = .ok (.getfield 13, 3) := by decide +kernel
theorem dX2_isLess_13 : decode cX2_isLess 13 = .ok (.iload_n 2, 1) := by decide +kernel
theorem dX2_isLess_14 : decode cX2_isLess 14 = .ok (.invokevirtual 20, 3) := by decide +kernel
theorem dX2_isLess_17 : decode cX2_isLess 17 = .ok (.istore 4, 2) := by decide +kernel
theorem dX2_isLess_19 : decode cX2_isLess 19 = .ok (.iload_n 3, 1) := by decide +kernel
theorem dX2_isLess_20 : decode cX2_isLess 20 = .ok (.iload 4, 2) := by decide +kernel
theorem dX2_isLess_22 : decode cX2_isLess 22 = .ok (.if_icmp .lt 20, 3) := by decide +kernel
theorem dX2_isLess_25 : decode cX2_isLess 25 = .ok (.iload_n 3, 1) := by decide +kernel
theorem dX2_isLess_26 : decode cX2_isLess 26 = .ok (.iload 4, 2) := by decide +kernel
theorem dX2_isLess_28 : decode cX2_isLess 28 = .ok (.if_icmp .ne 18, 3) := by decide +kernel
theorem dX2_isLess_31 : decode cX2_isLess 31 = .ok (.aload_n 0, 1) := by decide +kernel
theorem dX2_isLess_32 : decode cX2_isLess 32 = .ok (.getfield 7, 3) := by decide +kernel
theorem dX2_isLess_35 : decode cX2_isLess 35 = .ok (.aload_n 1, 1) := by decide +kernel
theorem dX2_isLess_36 : decode cX2_isLess 36 = .ok (.getfield 7, 3) := by decide +kernel
theorem dX2_isLess_39 : decode cX2_isLess 39 = .ok (.if_icmp .ge 7, 3) := by decide +kernel
theorem dX2_isLess_42 : decode cX2_isLess 42 = .ok (.iconst 1, 1) := by decide +kernel
theorem dX2_isLess_43 : decode cX2_isLess 43 = .ok (.goto 4, 3) := by decide +kernel
theorem dX2_isLess_46 : decode cX2_isLess 46 = .ok (.iconst 0, 1) := by decide +kernel
theorem dX2_isLess_47 : decode cX2_isLess 47 = .ok (.ireturn, 1) := by decide +kernel
theorem dX2_sideOf_0 : decode cX2_sideOf 0 = .ok (.aload_n 1, 1) := by decide +kernel
theorem dX2_sideOf_1 : decode cX2_sideOf 1 = .ok (.aload_n 0, 1) := by decide +kernel
theorem dX2_sideOf_2 : decode cX2_sideOf 2 = .ok (.aload_n 0, 1) := by decide +kernel
theorem dX2_sideOf_3 : decode cX2_sideOf 3 = .ok (.getfield 26, 3) := by decide +kernel
theorem dX2_sideOf_6 : decode cX2_sideOf 6 = .ok (.invokevirtual 29, 3) := by decide +kernel
theorem dX2_sideOf_9 : decode cX2_sideOf 9 = .ok (.ifCond .eq 10, 3) := by decide +kernel
theorem dX2_sideOf_12 : decode cX2_sideOf 12 = .ok (.aload_n 0, 1) := by decide +kernel
theorem dX2_sideOf_13 : decode cX2_sideOf 13 = .ok (.getfield 33, 3) := by decide +kernel
theorem dX2_sideOf_16 : decode cX2_sideOf 16 = .ok (.goto 7, 3) := by decide +kernel
theorem dX2_sideOf_19 : decode cX2_sideOf 19 = .ok (.aload_n 0, 1) := by decide +kernel
theorem dX2_sideOf_20 : decode cX2_sideOf 20 = .ok (.getfield 37, 3) := by decide +kernel
theorem dX2_sideOf_23 : decode cX2_sideOf 23 = .ok (.areturn, 1) := by decide +kernel
theorem dX2_leans_0 : decode cX2_leans 0 = .ok (.aload_n 0, 1) := by decide +kernel
theorem dX2_leans_1 : decode cX2_leans 1 = .ok (.getfield 33, 3) := by decide +kernel
theorem dX2_leans_4 : decode cX2_leans 4 = .ok (.invokestatic 40, 3) := by decide +kernel
theorem dX2_leans_7 : decode cX2_leans 7 = .ok (.aload_n 0, 1) := by decide +kernel
theorem dX2_leans_8 : decode cX2_leans 8 = .ok (.getfield 37, 3) := by decide +kernel
theorem dX2_leans_11 : decode cX2_leans 11 = .ok (.invokestatic 40, 3) := by decide +kernel
theorem dX2_leans_14 : decode cX2_leans 14 = .ok (.invokestatic 44, 3) := by decide +kernel
theorem dX2_leans_17 : decode cX2_leans 17 = .ok (.iconst 3, 1) := by decide +kernel
theorem dX2_leans_18 : decode cX2_leans 18 = .ok (.imul, 1) := by decide +kernel
theorem dX2_leans_19 : decode cX2_leans 19 = .ok (.aload_n 0, 1) := by decide +kernel
theorem dX2_leans_20 : decode cX2_leans 20 = .ok (.getfield 17, 3) := by decide +kernel
theorem dX2_leans_23 : decode cX2_leans 23 = .ok (.iconst 2, 1) := by decide +kernel
theorem dX2_leans_24 : decode cX2_leans 24 = .ok (.imul, 1) := by decide +kernel
theorem dX2_leans_25 : decode cX2_leans 25 = .ok (.if_icmp .le 7, 3) := by decide +kernel
theorem dX2_leans_28 : decode cX2_leans 28 = .ok (.iconst 1, 1) := by decide +kernel
theorem dX2_leans_29 : decode cX2_leans 29 = .ok (.goto 4, 3) := by decide +kernel
theorem dX2_leans_32 : decode cX2_leans 32 = .ok (.iconst 0, 1) := by decide +kernel
theorem dX2_leans_33 : decode cX2_leans 33 = .ok (.ireturn, 1) := by decide +kernel
theorem dX2_sizeOf_0 : decode cX2_sizeOf 0 = .ok (.aload_n 0, 1) := by decide +kernel
theorem dX2_sizeOf_1 : decode cX2_sizeOf 1 = .ok (.ifnonnull 7, 3) := by decide +kernel
theorem dX2_sizeOf_4 : decode cX2_sizeOf 4 = .ok (.iconst 0, 1) := by decide +kernel
theorem dX2_sizeOf_5 : decode cX2_sizeOf 5 = .ok (.goto 7, 3) := by decide +kernel
theorem dX2_sizeOf_8 : decode cX2_sizeOf 8 = .ok (.aload_n 0, 1) := by decide +kernel
theorem dX2_sizeOf_9 : decode cX2_sizeOf 9 = .ok (.getfield 17, 3) := by decide +kernel
theorem dX2_sizeOf_12 : decode cX2_sizeOf 12 = .ok (.ireturn, 1) := by decide +kernel
theorem dX3_init_0 : decode cX3_init 0 = .ok (.aload_n 0, 1) := by decide +kernel
theorem dX3_init_1 : decode cX3_init 1 = .ok (.invokespecial 1, 3) := by decide +kernel
theorem dX3_init_4 : decode cX3_init 4 = .ok (.aload_n 0, 1) := by decide +kernel
theorem dX3_init_5 : decode cX3_init 5 = .ok (.iload_n 2, 1) := by decide +kernel
theorem dX3_init_6 : decode cX3_init 6 = .ok (.putfield 7, 3) := by decide +kernel
theorem dX3_init_9 : decode cX3_init 9 = .ok (.aload_n 0, 1) := by decide +kernel
theorem dX3_init_10 : decode cX3_init 10 = .ok (.iload_n 1, 1) := by decide +kernel
theorem dX3_init_11 : decode cX3_init 11 = .ok (.iconst 1, 1) := by decide +kernel
theorem dX3_init_12 : decode cX3_init 12 = .ok (.if_icmp .le 7, 3) := by decide +kernel
theorem dX3_init_15 : decode cX3_init 15 = .ok (.iload_n 3, 1) := by decide +kernel
theorem dX3_init_16 : decode cX3_init 16 = .ok (.goto 4, 3) := by decide +kernel
theorem dX3_init_19 : decode cX3_init 19 = .ok (.iconst 0, 1) := by decide +kernel
theorem dX3_init_20 : decode cX3_init 20 = .ok (.putfield 13, 3) := by decide +kernel
theorem dX3_init_23 : decode cX3_init 23 = .ok (.aload_n 0, 1) := by decide +kernel
theorem dX3_init_24 : decode cX3_init 24 = .ok (.iload_n 1, 1) := by decide +kernel
theorem dX3_init_25 : decode cX3_init 25 = .ok (.iconst 2, 1) := by decide +kernel
theorem dX3_init_26 : decode cX3_init 26 = .ok (.if_icmp .le 8, 3) := by decide +kernel
theorem dX3_init_29 : decode cX3_init 29 = .ok (.iload 4, 2) := by decide +kernel
theorem dX3_init_31 : decode cX3_init 31 = .ok (.goto 4, 3) := by decide +kernel
theorem dX3_init_34 : decode cX3_init 34 = .ok (.iconst 0, 1) := by decide +kernel
theorem dX3_init_35 : decode cX3_init 35 = .ok (.putfield 16, 3) := by decide +kernel
theorem dX3_init_38 : decode cX3_init 38 = .ok (.aload_n 0, 1) := by decide +kernel
theorem dX3_init_39 : decode cX3_init 39 = .ok (.iload_n 1, 1) := by decide +kernel
theorem dX3_init_40 : decode cX3_init 40 = .ok (.iconst 3, 1) := by decide +kernel
theorem dX3_init_41 : decode cX3_init 41 = .ok (.if_icmp .le 8, 3) := by decide +kernel
theorem dX3_init_44 : decode cX3_init 44 = .ok (.iload 5, 2) := by decide +kernel
theorem dX3_init_46 : decode cX3_init 46 = .ok (.goto 4, 3) := by decide +kernel
theorem dX3_init_49 : decode cX3_init 49 = .ok (.iconst 0, 1) := by decide +kernel
theorem dX3_init_50 : decode cX3_init 50 = .ok (.putfield 19, 3) := by decide +kernel
theorem dX3_init_53 : decode cX3_init 53 = .ok (.return_, 1) := by decide +kernel
theorem dX3_number_0 : decode cX3_number 0 = .ok (.iload_n 1, 1) := by decide +kernel
theorem dX3_number_1 : decode cX3_number 1 = .ok (.tableswitch 42 0 2 #[27, 32, 37], 27) := by decide +kernel
theorem dX3_number_28 : decode cX3_number 28 = .ok (.aload_n 0, 1) := by decide +kernel
theorem dX3_number_29 : decode cX3_number 29 = .ok (.getfield 7, 3) := by decide +kernel
theorem dX3_number_32 : decode cX3_number 32 = .ok (.ireturn, 1) := by decide +kernel
theorem dX3_number_33 : decode cX3_number 33 = .ok (.aload_n 0, 1) := by decide +kernel
theorem dX3_number_34 : decode cX3_number 34 = .ok (.getfield 13, 3) := by decide +kernel
theorem dX3_number_37 : decode cX3_number 37 = .ok (.ireturn, 1) := by decide +kernel
theorem dX3_number_38 : decode cX3_number 38 = .ok (.aload_n 0, 1) := by decide +kernel
theorem dX3_number_39 : decode cX3_number 39 = .ok (.getfield 16, 3) := by decide +kernel
theorem dX3_number_42 : decode cX3_number 42 = .ok (.ireturn, 1) := by decide +kernel
theorem dX3_number_43 : decode cX3_number 43 = .ok (.aload_n 0, 1) := by decide +kernel
theorem dX3_number_44 : decode cX3_number 44 = .ok (.getfield 19, 3) := by decide +kernel
theorem dX3_number_47 : decode cX3_number 47 = .ok (.ireturn, 1) := by decide +kernel
theorem dX3_distanceTo_0 : decode cX3_distanceTo 0 = .ok (.aload_n 0, 1) := by decide +kernel
theorem dX3_distanceTo_1 : decode cX3_distanceTo 1 = .ok (.getfield 7, 3) := by decide +kernel
theorem dX3_distanceTo_4 : decode cX3_distanceTo 4 = .ok (.aload_n 1, 1) := by decide +kernel
theorem dX3_distanceTo_5 : decode cX3_distanceTo 5 = .ok (.getfield 7, 3) := by decide +kernel
theorem dX3_distanceTo_8 : decode cX3_distanceTo 8 = .ok (.isub, 1) := by decide +kernel
theorem dX3_distanceTo_9 : decode cX3_distanceTo 9 = .ok (.i2l, 1) := by decide +kernel
theorem dX3_distanceTo_10 : decode cX3_distanceTo 10 = .ok (.invokestatic 22, 3) := by decide +kernel
theorem dX3_distanceTo_13 : decode cX3_distanceTo 13 = .ok (.aload_n 0, 1) := by decide +kernel
theorem dX3_distanceTo_14 : decode cX3_distanceTo 14 = .ok (.getfield 13, 3) := by decide +kernel
theorem dX3_distanceTo_17 : decode cX3_distanceTo 17 = .ok (.aload_n 1, 1) := by decide +kernel
theorem dX3_distanceTo_18 : decode cX3_distanceTo 18 = .ok (.getfield 13, 3) := by decide +kernel
theorem dX3_distanceTo_21 : decode cX3_distanceTo 21 = .ok (.isub, 1) := by decide +kernel
theorem dX3_distanceTo_22 : decode cX3_distanceTo 22 = .ok (.i2l, 1) := by decide +kernel
theorem dX3_distanceTo_23 : decode cX3_distanceTo 23 = .ok (.invokestatic 22, 3) := by decide +kernel
theorem dX3_distanceTo_26 : decode cX3_distanceTo 26 = .ok (.ladd, 1) := by decide +kernel
theorem dX3_distanceTo_27 : decode cX3_distanceTo 27 = .ok (.aload_n 0, 1) := by decide +kernel
theorem dX3_distanceTo_28 : decode cX3_distanceTo 28 = .ok (.getfield 16, 3) := by decide +kernel
theorem dX3_distanceTo_31 : decode cX3_distanceTo 31 = .ok (.aload_n 1, 1) := by decide +kernel
theorem dX3_distanceTo_32 : decode cX3_distanceTo 32 = .ok (.getfield 16, 3) := by decide +kernel
theorem dX3_distanceTo_35 : decode cX3_distanceTo 35 = .ok (.isub, 1) := by decide +kernel
theorem dX3_distanceTo_36 : decode cX3_distanceTo 36 = .ok (.i2l, 1) := by decide +kernel
theorem dX3_distanceTo_37 : decode cX3_distanceTo 37 = .ok (.invokestatic 22, 3) := by decide +kernel
theorem dX3_distanceTo_40 : decode cX3_distanceTo 40 = .ok (.ladd, 1) := by decide +kernel
theorem dX3_distanceTo_41 : decode cX3_distanceTo 41 = .ok (.aload_n 0, 1) := by decide +kernel
theorem dX3_distanceTo_42 : decode cX3_distanceTo 42 = .ok (.getfield 19, 3) := by decide +kernel
theorem dX3_distanceTo_45 : decode cX3_distanceTo 45 = .ok (.aload_n 1, 1) := by decide +kernel
theorem dX3_distanceTo_46 : decode cX3_distanceTo 46 = .ok (.getfield 19, 3) := by decide +kernel
theorem dX3_distanceTo_49 : decode cX3_distanceTo 49 = .ok (.isub, 1) := by decide +kernel
theorem dX3_distanceTo_50 : decode cX3_distanceTo 50 = .ok (.i2l, 1) := by decide +kernel
theorem dX3_distanceTo_51 : decode cX3_distanceTo 51 = .ok (.invokestatic 22, 3) := by decide +kernel
theorem dX3_distanceTo_54 : decode cX3_distanceTo 54 = .ok (.ladd, 1) := by decide +kernel
theorem dX3_distanceTo_55 : decode cX3_distanceTo 55 = .ok (.lreturn, 1) := by decide +kernel
theorem dX3_isBetween_0 : decode cX3_isBetween 0 = .ok (.aload_n 0, 1) := by decide +kernel
theorem dX3_isBetween_1 : decode cX3_isBetween 1 = .ok (.iload_n 1, 1) := by decide +kernel
theorem dX3_isBetween_2 : decode cX3_isBetween 2 = .ok (.invokevirtual 26, 3) := by decide +kernel
theorem dX3_isBetween_5 : decode cX3_isBetween 5 = .ok (.istore 4, 2) := by decide +kernel
theorem dX3_isBetween_7 : decode cX3_isBetween 7 = .ok (.iload 4, 2) := by decide +kernel
theorem dX3_isBetween_9 : decode cX3_isBetween 9 = .ok (.iload_n 2, 1) := by decide +kernel
theorem dX3_isBetween_10 : decode cX3_isBetween 10 = .ok (.if_icmp .lt 13, 3) := by decide +kernel
theorem dX3_isBetween_13 : decode cX3_isBetween 13 = .ok (.iload 4, 2) := by decide +kernel
theorem dX3_isBetween_15 : decode cX3_isBetween 15 = .ok (.iload_n 3, 1) := by decide +kernel
theorem dX3_isBetween_16 : decode cX3_isBetween 16 = .ok (.if_icmp .gt 7, 3) := by decide +kernel
theorem dX3_isBetween_19 : decode cX3_isBetween 19 = .ok (.iconst 1, 1) := by decide +kernel
theorem dX3_isBetween_20 : decode cX3_isBetween 20 = .ok (.goto 4, 3) := by decide +kernel
theorem dX3_isBetween_23 : decode cX3_isBetween 23 = .ok (.iconst 0, 1) := by decide +kernel
theorem dX3_isBetween_24 : decode cX3_isBetween 24 = .ok (.ireturn, 1) := by decide +kernel
theorem dX3_square_0 : decode cX3_square 0 = .ok (.lload_n 0, 1) := by decide +kernel
theorem dX3_square_1 : decode cX3_square 1 = .ok (.lload_n 0, 1) := by decide +kernel
theorem dX3_square_2 : decode cX3_square 2 = .ok (.lmul, 1) := by decide +kernel
theorem dX3_square_3 : decode cX3_square 3 = .ok (.lreturn, 1) := by decide +kernel
theorem dX4_init_0 : decode cX4_init 0 = .ok (.aload_n 0, 1) := by decide +kernel
theorem dX4_init_1 : decode cX4_init 1 = .ok (.invokespecial 3, 3) := by decide +kernel
theorem dX4_init_4 : decode cX4_init 4 = .ok (.aload_n 0, 1) := by decide +kernel
theorem dX4_init_5 : decode cX4_init 5 = .ok (.aload_n 1, 1) := by decide +kernel
theorem dX4_init_6 : decode cX4_init 6 = .ok (.putfield 9, 3) := by decide +kernel
theorem dX4_init_9 : decode cX4_init 9 = .ok (.aload_n 0, 1) := by decide +kernel
theorem dX4_init_10 : decode cX4_init 10 = .ok (.aload_n 2, 1) := by decide +kernel
theorem dX4_init_11 : decode cX4_init 11 = .ok (.putfield 15, 3) := by decide +kernel
theorem dX4_init_14 : decode cX4_init 14 = .ok (.return_, 1) := by decide +kernel
theorem dX4_start_0 : decode cX4_start 0 = .ok (.aload_n 0, 1) := by decide +kernel
theorem dX4_start_1 : decode cX4_start 1 = .ok (.iconst 0, 1) := by decide +kernel
theorem dX4_start_2 : decode cX4_start 2 = .ok (.putfield 19, 3) := by decide +kernel
theorem dX4_start_5 : decode cX4_start 5 = .ok (.aload_n 0, 1) := by decide +kernel
theorem dX4_start_6 : decode cX4_start 6 = .ok (.aload_n 1, 1) := by decide +kernel
theorem dX4_start_7 : decode cX4_start 7 = .ok (.iconst 0, 1) := by decide +kernel
theorem dX4_start_8 : decode cX4_start 8 = .ok (.invokevirtual 23, 3) := by decide +kernel
theorem dX4_start_11 : decode cX4_start 11 = .ok (.return_, 1) := by decide +kernel
theorem dX4_lookAt_0 : decode cX4_lookAt 0 = .ok (.aload_n 1, 1) := by decide +kernel
theorem dX4_lookAt_1 : decode cX4_lookAt 1 = .ok (.ifnull 9, 3) := by decide +kernel
theorem dX4_lookAt_4 : decode cX4_lookAt 4 = .ok (.iload_n 2, 1) := by decide +kernel
theorem dX4_lookAt_5 : decode cX4_lookAt 5 = .ok (.bipush 120, 2) := by decide +kernel
theorem dX4_lookAt_7 : decode cX4_lookAt 7 = .ok (.if_icmp .lt 4, 3) := by decide +kernel
theorem dX4_lookAt_10 : decode cX4_lookAt 10 = .ok (.return_, 1) := by decide +kernel
theorem dX4_lookAt_11 : decode cX4_lookAt 11 = .ok (.aload_n 0, 1) := by decide +kernel
theorem dX4_lookAt_12 : decode cX4_lookAt 12 = .ok (.dup, 1) := by decide +kernel
theorem dX4_lookAt_13 : decode cX4_lookAt 13 = .ok (.getfield 19, 3) := by decide +kernel
theorem dX4_lookAt_16 : decode cX4_lookAt 16 = .ok (.iconst 1, 1) := by decide +kernel
theorem dX4_lookAt_17 : decode cX4_lookAt 17 = .ok (.iadd, 1) := by decide +kernel
theorem dX4_lookAt_18 : decode cX4_lookAt 18 = .ok (.putfield 19, 3) := by decide +kernel
theorem dX4_lookAt_21 : decode cX4_lookAt 21 = .ok (.aload_n 1, 1) := by decide +kernel
theorem dX4_lookAt_22 : decode cX4_lookAt 22 = .ok (.getfield 27, 3) := by decide +kernel
theorem dX4_lookAt_25 : decode cX4_lookAt 25 = .ok (.ifCond .ne 25, 3) := by decide +kernel
theorem dX4_lookAt_28 : decode cX4_lookAt 28 = .ok (.aload_n 0, 1) := by decide +kernel
theorem dX4_lookAt_29 : decode cX4_lookAt 29 = .ok (.getfield 15, 3) := by decide +kernel
theorem dX4_lookAt_32 : decode cX4_lookAt 32 = .ok (.aload_n 1, 1) := by decide +kernel
theorem dX4_lookAt_33 : decode cX4_lookAt 33 = .ok (.getfield 33, 3) := by decide +kernel
theorem dX4_lookAt_36 : decode cX4_lookAt 36 = .ok (.aload_n 0, 1) := by decide +kernel
theorem dX4_lookAt_37 : decode cX4_lookAt 37 = .ok (.getfield 9, 3) := by decide +kernel
theorem dX4_lookAt_40 : decode cX4_lookAt 40 = .ok (.aload_n 1, 1) := by decide +kernel
theorem dX4_lookAt_41 : decode cX4_lookAt 41 = .ok (.getfield 36, 3) := by decide +kernel
theorem dX4_lookAt_44 : decode cX4_lookAt 44 = .ok (.invokevirtual 37, 3) := by decide +kernel
theorem dX4_lookAt_47 : decode cX4_lookAt 47 = .ok (.invokevirtual 43, 3) := by decide +kernel
theorem dX4_lookAt_50 : decode cX4_lookAt 50 = .ok (.aload_n 0, 1) := by decide +kernel
theorem dX4_lookAt_51 : decode cX4_lookAt 51 = .ok (.getfield 9, 3) := by decide +kernel
theorem dX4_lookAt_54 : decode cX4_lookAt 54 = .ok (.aload_n 1, 1) := by decide +kernel
theorem dX4_lookAt_55 : decode cX4_lookAt 55 = .ok (.getfield 49, 3) := by decide +kernel
theorem dX4_lookAt_58 : decode cX4_lookAt 58 = .ok (.invokevirtual 52, 3) := by decide +kernel
theorem dX4_lookAt_61 : decode cX4_lookAt 61 = .ok (.aload_n 1, 1) := by decide +kernel
theorem dX4_lookAt_62 : decode cX4_lookAt 62 = .ok (.getfield 36, 3) := by decide +kernel
theorem dX4_lookAt_65 : decode cX4_lookAt 65 = .ok (.aload_n 1, 1) := by decide +kernel
theorem dX4_lookAt_66 : decode cX4_lookAt 66 = .ok (.getfield 49, 3) := by decide +kernel
theorem dX4_lookAt_69 : decode cX4_lookAt 69 = .ok (.invokevirtual 52, 3) := by decide +kernel
theorem dX4_lookAt_72 : decode cX4_lookAt 72 = .ok (.isub, 1) := by decide +kernel
theorem dX4_lookAt_73 : decode cX4_lookAt 73 = .ok (.istore_n 3, 1) := by decide +kernel
theorem dX4_lookAt_74 : decode cX4_lookAt 74 = .ok (.aload_n 0, 1) := by decide +kernel
theorem dX4_lookAt_75 : decode cX4_lookAt 75 = .ok (.iload_n 3, 1) := by decide +kernel
theorem dX4_lookAt_76 : decode cX4_lookAt 76 = .ok (.ifCond .ge 10, 3) := by decide +kernel
theorem dX4_lookAt_79 : decode cX4_lookAt 79 = .ok (.aload_n 1, 1) := by decide +kernel
theorem dX4_lookAt_80 : decode cX4_lookAt 80 = .ok (.getfield 56, 3) := by decide +kernel
theorem dX4_lookAt_83 : decode cX4_lookAt 83 = .ok (.goto 7, 3) := by decide +kernel
theorem dX4_lookAt_86 : decode cX4_lookAt 86 = .ok (.aload_n 1, 1) := by decide +kernel
theorem dX4_lookAt_87 : decode cX4_lookAt 87 = .ok (.getfield 60, 3) := by decide +kernel
theorem dX4_lookAt_90 : decode cX4_lookAt 90 = .ok (.iload_n 2, 1) := by decide +kernel
theorem dX4_lookAt_91 : decode cX4_lookAt 91 = .ok (.iconst 1, 1) := by decide +kernel
theorem dX4_lookAt_92 : decode cX4_lookAt 92 = .ok (.iadd, 1) := by decide +kernel
theorem dX4_lookAt_93 : decode cX4_lookAt 93 = .ok (.invokevirtual 23, 3) := by decide +kernel
theorem dX4_lookAt_96 : decode cX4_lookAt 96 = .ok (.aload_n 0, 1) := by decide +kernel
theorem dX4_lookAt_97 : decode cX4_lookAt 97 = .ok (.getfield 15, 3) := by decide +kernel
theorem dX4_lookAt_100 : decode cX4_lookAt 100 = .ok (.iload_n 3, 1) := by decide +kernel
theorem dX4_lookAt_101 : decode cX4_lookAt 101 = .ok (.i2l, 1) := by decide +kernel
theorem dX4_lookAt_102 : decode cX4_lookAt 102 = .ok (.invokestatic 63, 3) := by decide +kernel
theorem dX4_lookAt_105 : decode cX4_lookAt 105 = .ok (.invokevirtual 67, 3) := by decide +kernel
theorem dX4_lookAt_108 : decode cX4_lookAt 108 = .ok (.ifCond .ne 25, 3) := by decide +kernel
theorem dX4_lookAt_111 : decode cX4_lookAt 111 = .ok (.aload_n 0, 1) := by decide +kernel
theorem dX4_lookAt_112 : decode cX4_lookAt 112 = .ok (.iload_n 3, 1) := by decide +kernel
theorem dX4_lookAt_113 : decode cX4_lookAt 113 = .ok (.ifCond .ge 10, 3) := by decide +kernel
theorem dX4_lookAt_116 : decode cX4_lookAt 116 = .ok (.aload_n 1, 1) := by decide +kernel
theorem dX4_lookAt_117 : decode cX4_lookAt 117 = .ok (.getfield 60, 3) := by decide +kernel
theorem dX4_lookAt_120 : decode cX4_lookAt 120 = .ok (.goto 7, 3) := by decide +kernel
theorem dX4_lookAt_123 : decode cX4_lookAt 123 = .ok (.aload_n 1, 1) := by decide +kernel
theorem dX4_lookAt_124 : decode cX4_lookAt 124 = .ok (.getfield 56, 3) := by decide +kernel
theorem dX4_lookAt_127 : decode cX4_lookAt 127 = .ok (.iload_n 2, 1) := by decide +kernel
theorem dX4_lookAt_128 : decode cX4_lookAt 128 = .ok (.iconst 1, 1) := by decide +kernel
theorem dX4_lookAt_129 : decode cX4_lookAt 129 = .ok (.iadd, 1) := by decide +kernel
theorem dX4_lookAt_130 : decode cX4_lookAt 130 = .ok (.invokevirtual 23, 3) := by decide +kernel
theorem dX4_lookAt_133 : decode cX4_lookAt 133 = .ok (.return_, 1) := by decide +kernel
theorem dX5_init_0 : decode cX5_init 0 = .ok (.aload_n 0, 1) := by decide +kernel
theorem dX5_init_1 : decode cX5_init 1 = .ok (.invokespecial 3, 3) := by decide +kernel
theorem dX5_init_4 : decode cX5_init 4 = .ok (.aload_n 0, 1) := by decide +kernel
theorem dX5_init_5 : decode cX5_init 5 = .ok (.iload_n 1, 1) := by decide +kernel
theorem dX5_init_6 : decode cX5_init 6 = .ok (.putfield 9, 3) := by decide +kernel
theorem dX5_init_9 : decode cX5_init 9 = .ok (.aload_n 0, 1) := by decide +kernel
theorem dX5_init_10 : decode cX5_init 10 = .ok (.bipush 60, 2) := by decide +kernel
theorem dX5_init_12 : decode cX5_init 12 = .ok (.anewarray 15, 3) := by decide +kernel
theorem dX5_init_15 : decode cX5_init 15 = .ok (.putfield 17, 3) := by decide +kernel
theorem dX5_init_18 : decode cX5_init 18 = .ok (.return_, 1) := by decide +kernel
theorem dX5_nodeCount_0 : decode cX5_nodeCount 0 = .ok (.aload_n 0, 1) := by decide +kernel
theorem dX5_nodeCount_1 : decode cX5_nodeCount 1 = .ok (.getfield 21, 3) := by decide +kernel
theorem dX5_nodeCount_4 : decode cX5_nodeCount 4 = .ok (.invokestatic 25, 3) := by decide +kernel
theorem dX5_nodeCount_7 : decode cX5_nodeCount 7 = .ok (.ireturn, 1) := by decide +kernel
theorem dX5_hang_0 : decode cX5_hang 0 = .ok (.aconst_null, 1) := by decide +kernel
theorem dX5_hang_1 : decode cX5_hang 1 = .ok (.astore_n 2, 1) := by decide +kernel
theorem dX5_hang_2 : decode cX5_hang 2 = .ok (.aload_n 0, 1) := by decide +kernel
theorem dX5_hang_3 : decode cX5_hang 3 = .ok (.getfield 21, 3) := by decide +kernel
theorem dX5_hang_6 : decode cX5_hang 6 = .ok (.astore_n 3, 1) := by decide +kernel
theorem dX5_hang_7 : decode cX5_hang 7 = .ok (.aload_n 3, 1) := by decide +kernel
theorem dX5_hang_8 : decode cX5_hang 8 = .ok (.ifnull 24, 3) := by decide +kernel
theorem dX5_hang_11 : decode cX5_hang 11 = .ok (.aload_n 3, 1) := by decide +kernel
theorem dX5_hang_12 : decode cX5_hang 12 = .ok (.astore_n 2, 1) := by decide +kernel
theorem dX5_hang_13 : decode cX5_hang 13 = .ok (.aload_n 2, 1) := by decide +kernel
theorem dX5_hang_14 : decode cX5_hang 14 = .ok (.dup, 1) := by decide +kernel
theorem dX5_hang_15 : decode cX5_hang 15 = .ok (.getfield 29, 3) := by decide +kernel
theorem dX5_hang_18 : decode cX5_hang 18 = .ok (.iconst 1, 1) := by decide +kernel
theorem dX5_hang_19 : decode cX5_hang 19 = .ok (.iadd, 1) := by decide +kernel
theorem dX5_hang_20 : decode cX5_hang 20 = .ok (.putfield 29, 3) := by decide +kernel
theorem dX5_hang_23 : decode cX5_hang 23 = .ok (.aload_n 2, 1) := by decide +kernel
theorem dX5_hang_24 : decode cX5_hang 24 = .ok (.aload_n 1, 1) := by decide +kernel
theorem dX5_hang_25 : decode cX5_hang 25 = .ok (.invokevirtual 32, 3) := by decide +kernel
theorem dX5_hang_28 : decode cX5_hang 28 = .ok (.astore_n 3, 1) := by decide +kernel
theorem dX5_hang_29 : decode cX5_hang 29 = .ok (.goto (-22), 3) := by decide +kernel
theorem dX5_hang_32 : decode cX5_hang 32 = .ok (.aload_n 2, 1) := by decide +kernel
theorem dX5_hang_33 : decode cX5_hang 33 = .ok (.ifnonnull 9, 3) := by decide +kernel
theorem dX5_hang_36 : decode cX5_hang 36 = .ok (.aload_n 0, 1) := by decide +kernel
theorem dX5_hang_37 : decode cX5_hang 37 = .ok (.aload_n 1, 1) := by decide +kernel
theorem dX5_hang_38 : decode cX5_hang 38 = .ok (.putfield 21, 3) := by decide +kernel
theorem dX5_hang_41 : decode cX5_hang 41 = .ok (.return_, 1) := by decide +kernel
theorem dX5_hang_42 : decode cX5_hang 42 = .ok (.aload_n 1, 1) := by decide +kernel
theorem dX5_hang_43 : decode cX5_hang 43 = .ok (.aload_n 2, 1) := by decide +kernel
theorem dX5_hang_44 : decode cX5_hang 44 = .ok (.putfield 36, 3) := by decide +kernel
theorem dX5_hang_47 : decode cX5_hang 47 = .ok (.aload_n 1, 1) := by decide +kernel
theorem dX5_hang_48 : decode cX5_hang 48 = .ok (.aload_n 2, 1) := by decide +kernel
theorem dX5_hang_49 : decode cX5_hang 49 = .ok (.getfield 39, 3) := by decide +kernel
theorem dX5_hang_52 : decode cX5_hang 52 = .ok (.iconst 1, 1) := by decide +kernel
theorem dX5_hang_53 : decode cX5_hang 53 = .ok (.iadd, 1) := by decide +kernel
theorem dX5_hang_54 : decode cX5_hang 54 = .ok (.putfield 39, 3) := by decide +kernel
theorem dX5_hang_57 : decode cX5_hang 57 = .ok (.aload_n 1, 1) := by decide +kernel
theorem dX5_hang_58 : decode cX5_hang 58 = .ok (.aload_n 0, 1) := by decide +kernel
theorem dX5_hang_59 : decode cX5_hang 59 = .ok (.aload_n 2, 1) := by decide +kernel
theorem dX5_hang_60 : decode cX5_hang 60 = .ok (.getfield 42, 3) := by decide +kernel
theorem dX5_hang_63 : decode cX5_hang 63 = .ok (.invokevirtual 45, 3) := by decide +kernel
theorem dX5_hang_66 : decode cX5_hang 66 = .ok (.putfield 42, 3) := by decide +kernel
theorem dX5_hang_69 : decode cX5_hang 69 = .ok (.aload_n 1, 1) := by decide +kernel
theorem dX5_hang_70 : decode cX5_hang 70 = .ok (.aload_n 2, 1) := by decide +kernel
theorem dX5_hang_71 : decode cX5_hang 71 = .ok (.aload_n 2, 1) := by decide +kernel
theorem dX5_hang_72 : decode cX5_hang 72 = .ok (.getfield 42, 3) := by decide +kernel
theorem dX5_hang_75 : decode cX5_hang 75 = .ok (.invokevirtual 49, 3) := by decide +kernel
theorem dX5_hang_78 : decode cX5_hang 78 = .ok (.ifCond .eq 11, 3) := by decide +kernel
theorem dX5_hang_81 : decode cX5_hang 81 = .ok (.aload_n 2, 1) := by decide +kernel
theorem dX5_hang_82 : decode cX5_hang 82 = .ok (.aload_n 1, 1) := by decide +kernel
theorem dX5_hang_83 : decode cX5_hang 83 = .ok (.putfield 53, 3) := by decide +kernel
theorem dX5_hang_86 : decode cX5_hang 86 = .ok (.goto 8, 3) := by decide +kernel
theorem dX5_hang_89 : decode cX5_hang 89 = .ok (.aload_n 2, 1) := by decide +kernel
theorem dX5_hang_90 : decode cX5_hang 90 = .ok (.aload_n 1, 1) := by decide +kernel
theorem dX5_hang_91 : decode cX5_hang 91 = .ok (.putfield 56, 3) := by decide +kernel
theorem dX5_hang_94 : decode cX5_hang 94 = .ok (.return_, 1) := by decide +kernel
theorem dX5_firstLeaningAbove_0 : decode cX5_firstLeaningAbove 0 = .ok (.aload_n 0, 1) := by decide +kernel
theorem dX5_firstLeaningAbove_1 : decode cX5_firstLeaningAbove 1 = .ok (.getfield 21, 3) := by decide +kernel
theorem dX5_firstLeaningAbove_4 : decode cX5_firstLeaningAbove 4 = .ok (.astore_n 2, 1) := by decide +kernel
theorem dX5_firstLeaningAbove_5 : decode cX5_firstLeaningAbove 5 = .ok (.aload_n 2, 1) := by decide +kernel
theorem dX5_firstLeaningAbove_6 : decode cX5_firstLeaningAbove 6 = .ok (.ifnull 26, 3) := by decide +kernel
theorem dX5_firstLeaningAbove_9 : decode cX5_firstLeaningAbove 9 = .ok (.aload_n 2, 1) := by decide +kernel
theorem dX5_firstLeaningAbove_10 : decode cX5_firstLeaningAbove 10 = .ok (.aload_n 1, 1) := by decide +kernel
theorem dX5_firstLeaningAbove_11 : decode cX5_firstLeaningAbove 11 = .ok (.if_acmp .eq 21, 3) := by decide +kernel
theorem dX5_firstLeaningAbove_14 : decode cX5_firstLeaningAbove 14 = .ok (.aload_n 2, 1) := by decide +kernel
theorem dX5_firstLeaningAbove_15 : decode cX5_firstLeaningAbove 15 = .ok (.invokevirtual 59, 3) := by decide +kernel
theorem dX5_firstLeaningAbove_18 : decode cX5_firstLeaningAbove 18 = .ok (.ifCond .eq 5, 3) := by decide +kernel
theorem dX5_firstLeaningAbove_21 : decode cX5_firstLeaningAbove 21 = .ok (.aload_n 2, 1) := by decide +kernel
theorem dX5_firstLeaningAbove_22 : decode cX5_firstLeaningAbove 22 = .ok (.areturn, 1) := by decide +kernel
theorem dX5_firstLeaningAbove_23 : decode cX5_firstLeaningAbove 23 = .ok (.aload_n 2, 1) := by decide +kernel
theorem dX5_firstLeaningAbove_24 : decode cX5_firstLeaningAbove 24 = .ok (.aload_n 1, 1) := by decide +kernel
theorem dX5_firstLeaningAbove_25 : decode cX5_firstLeaningAbove 25 = .ok (.invokevirtual 32, 3) := by decide +kernel
theorem dX5_firstLeaningAbove_28 : decode cX5_firstLeaningAbove 28 = .ok (.astore_n 2, 1) := by decide +kernel
theorem dX5_firstLeaningAbove_29 : decode cX5_firstLeaningAbove 29 = .ok (.goto (-24), 3) := by decide +kernel
theorem dX5_firstLeaningAbove_32 : decode cX5_firstLeaningAbove 32 = .ok (.aconst_null, 1) := by decide +kernel
theorem dX5_firstLeaningAbove_33 : decode cX5_firstLeaningAbove 33 = .ok (.areturn, 1) := by decide +kernel
theorem dX5_buildAnew_0 : decode cX5_buildAnew 0 = .ok (.aload_n 1, 1) := by decide +kernel
theorem dX5_buildAnew_1 : decode cX5_buildAnew 1 = .ok (.ifnonnull 4, 3) := by decide +kernel
theorem dX5_buildAnew_4 : decode cX5_buildAnew 4 = .ok (.return_, 1) := by decide +kernel
theorem dX5_buildAnew_5 : decode cX5_buildAnew 5 = .ok (.aload_n 1, 1) := by decide +kernel
theorem dX5_buildAnew_6 : decode cX5_buildAnew 6 = .ok (.getfield 36, 3) := by decide +kernel
theorem dX5_buildAnew_9 : decode cX5_buildAnew 9 = .ok (.astore_n 2, 1) := by decide +kernel
theorem dX5_buildAnew_10 : decode cX5_buildAnew 10 = .ok (.aload_n 2, 1) := by decide +kernel
theorem dX5_buildAnew_11 : decode cX5_buildAnew 11 = .ok (.ifnull 15, 3) := by decide +kernel
theorem dX5_buildAnew_14 : decode cX5_buildAnew 14 = .ok (.aload_n 2, 1) := by decide +kernel
theorem dX5_buildAnew_15 : decode cX5_buildAnew 15 = .ok (.getfield 53, 3) := by decide +kernel
theorem dX5_buildAnew_18 : decode cX5_buildAnew 18 = .ok (.aload_n 1, 1) := by decide +kernel
theorem dX5_buildAnew_19 : decode cX5_buildAnew 19 = .ok (.if_acmp .ne 7, 3) := by decide +kernel
theorem dX5_buildAnew_22 : decode cX5_buildAnew 22 = .ok (.iconst 1, 1) := by decide +kernel
theorem dX5_buildAnew_23 : decode cX5_buildAnew 23 = .ok (.goto 4, 3) := by decide +kernel
theorem dX5_buildAnew_26 : decode cX5_buildAnew 26 = .ok (.iconst 0, 1) := by decide +kernel
theorem dX5_buildAnew_27 : decode cX5_buildAnew 27 = .ok (.istore_n 3, 1) := by decide +kernel
theorem dX5_buildAnew_28 : decode cX5_buildAnew 28 = .ok (.aload_n 1, 1) := by decide +kernel
theorem dX5_buildAnew_29 : decode cX5_buildAnew 29 = .ok (.getfield 29, 3) := by decide +kernel
theorem dX5_buildAnew_32 : decode cX5_buildAnew 32 = .ok (.istore 4, 2) := by decide +kernel
theorem dX5_buildAnew_34 : decode cX5_buildAnew 34 = .ok (.aload_n 0, 1) := by decide +kernel
theorem dX5_buildAnew_35 : decode cX5_buildAnew 35 = .ok (.aload_n 1, 1) := by decide +kernel
theorem dX5_buildAnew_36 : decode cX5_buildAnew 36 = .ok (.invokevirtual 63, 3) := by decide +kernel
theorem dX5_buildAnew_39 : decode cX5_buildAnew 39 = .ok (.istore 5, 2) := by decide +kernel
theorem dX5_buildAnew_41 : decode cX5_buildAnew 41 = .ok (.aload_n 0, 1) := by decide +kernel
theorem dX5_buildAnew_42 : decode cX5_buildAnew 42 = .ok (.iconst 0, 1) := by decide +kernel
theorem dX5_buildAnew_43 : decode cX5_buildAnew 43 = .ok (.iload 5, 2) := by decide +kernel
theorem dX5_buildAnew_45 : decode cX5_buildAnew 45 = .ok (.aload_n 1, 1) := by decide +kernel
theorem dX5_buildAnew_46 : decode cX5_buildAnew 46 = .ok (.getfield 39, 3) := by decide +kernel
theorem dX5_buildAnew_49 : decode cX5_buildAnew 49 = .ok (.aload_n 1, 1) := by decide +kernel
theorem dX5_buildAnew_50 : decode cX5_buildAnew 50 = .ok (.getfield 42, 3) := by decide +kernel
theorem dX5_buildAnew_53 : decode cX5_buildAnew 53 = .ok (.aload_n 2, 1) := by decide +kernel
theorem dX5_buildAnew_54 : decode cX5_buildAnew 54 = .ok (.invokevirtual 66, 3) := by decide +kernel
theorem dX5_buildAnew_57 : decode cX5_buildAnew 57 = .ok (.astore 6, 2) := by decide +kernel
theorem dX5_buildAnew_59 : decode cX5_buildAnew 59 = .ok (.aload_n 2, 1) := by decide +kernel
theorem dX5_buildAnew_60 : decode cX5_buildAnew 60 = .ok (.ifnonnull 12, 3) := by decide +kernel
theorem dX5_buildAnew_63 : decode cX5_buildAnew 63 = .ok (.aload_n 0, 1) := by decide +kernel
theorem dX5_buildAnew_64 : decode cX5_buildAnew 64 = .ok (.aload 6, 2) := by decide +kernel
theorem dX5_buildAnew_66 : decode cX5_buildAnew 66 = .ok (.putfield 21, 3) := by decide +kernel
theorem dX5_buildAnew_69 : decode cX5_buildAnew 69 = .ok (.goto 22, 3) := by decide +kernel
theorem dX5_buildAnew_72 : decode cX5_buildAnew 72 = .ok (.iload_n 3, 1) := by decide +kernel
theorem dX5_buildAnew_73 : decode cX5_buildAnew 73 = .ok (.ifCond .eq 12, 3) := by decide +kernel
theorem dX5_buildAnew_76 : decode cX5_buildAnew 76 = .ok (.aload_n 2, 1) := by decide +kernel
theorem dX5_buildAnew_77 : decode cX5_buildAnew 77 = .ok (.aload 6, 2) := by decide +kernel
theorem dX5_buildAnew_79 : decode cX5_buildAnew 79 = .ok (.putfield 53, 3) := by decide +kernel
theorem dX5_buildAnew_82 : decode cX5_buildAnew 82 = .ok (.goto 9, 3) := by decide +kernel
theorem dX5_buildAnew_85 : decode cX5_buildAnew 85 = .ok (.aload_n 2, 1) := by decide +kernel
theorem dX5_buildAnew_86 : decode cX5_buildAnew 86 = .ok (.aload 6, 2) := by decide +kernel
theorem dX5_buildAnew_88 : decode cX5_buildAnew 88 = .ok (.putfield 56, 3) := by decide +kernel
theorem dX5_buildAnew_91 : decode cX5_buildAnew 91 = .ok (.aload_n 2, 1) := by decide +kernel
theorem dX5_buildAnew_92 : decode cX5_buildAnew 92 = .ok (.astore 7, 2) := by decide +kernel
theorem dX5_buildAnew_94 : decode cX5_buildAnew 94 = .ok (.aload 7, 2) := by decide +kernel
theorem dX5_buildAnew_96 : decode cX5_buildAnew 96 = .ok (.ifnull 28, 3) := by decide +kernel
theorem dX5_buildAnew_99 : decode cX5_buildAnew 99 = .ok (.aload 7, 2) := by decide +kernel
theorem dX5_buildAnew_101 : decode cX5_buildAnew 101 = .ok (.dup, 1) := by decide +kernel
theorem dX5_buildAnew_102 : decode cX5_buildAnew 102 = .ok (.getfield 29, 3) := by decide +kernel
theorem dX5_buildAnew_105 : decode cX5_buildAnew 105 = .ok (.iload 4, 2) := by decide +kernel
theorem dX5_buildAnew_107 : decode cX5_buildAnew 107 = .ok (.iload 5, 2) := by decide +kernel
theorem dX5_buildAnew_109 : decode cX5_buildAnew 109 = .ok (.isub, 1) := by decide +kernel
theorem dX5_buildAnew_110 : decode cX5_buildAnew 110 = .ok (.isub, 1) := by decide +kernel
theorem dX5_buildAnew_111 : decode cX5_buildAnew 111 = .ok (.putfield 29, 3) := by decide +kernel
theorem dX5_buildAnew_114 : decode cX5_buildAnew 114 = .ok (.aload 7, 2) := by decide +kernel
theorem dX5_buildAnew_116 : decode cX5_buildAnew 116 = .ok (.getfield 36, 3) := by decide +kernel
theorem dX5_buildAnew_119 : decode cX5_buildAnew 119 = .ok (.astore 7, 2) := by decide +kernel
theorem dX5_buildAnew_121 : decode cX5_buildAnew 121 = .ok (.goto (-27), 3) := by decide +kernel
theorem dX5_buildAnew_124 : decode cX5_buildAnew 124 = .ok (.aload_n 0, 1) := by decide +kernel
theorem dX5_buildAnew_125 : decode cX5_buildAnew 125 = .ok (.dup, 1) := by decide +kernel
theorem dX5_buildAnew_126 : decode cX5_buildAnew 126 = .ok (.getfield 70, 3) := by decide +kernel
theorem dX5_buildAnew_129 : decode cX5_buildAnew 129 = .ok (.iload 5, 2) := by decide +kernel
theorem dX5_buildAnew_131 : decode cX5_buildAnew 131 = .ok (.iadd, 1) := by decide +kernel
theorem dX5_buildAnew_132 : decode cX5_buildAnew 132 = .ok (.putfield 70, 3) := by decide +kernel
theorem dX5_buildAnew_135 : decode cX5_buildAnew 135 = .ok (.return_, 1) := by decide +kernel
theorem dX5_gatherLive_0 : decode cX5_gatherLive 0 = .ok (.iconst 0, 1) := by decide +kernel
theorem dX5_gatherLive_1 : decode cX5_gatherLive 1 = .ok (.istore_n 2, 1) := by decide +kernel
theorem dX5_gatherLive_2 : decode cX5_gatherLive 2 = .ok (.iconst 0, 1) := by decide +kernel
theorem dX5_gatherLive_3 : decode cX5_gatherLive 3 = .ok (.istore_n 3, 1) := by decide +kernel
theorem dX5_gatherLive_4 : decode cX5_gatherLive 4 = .ok (.iload_n 3, 1) := by decide +kernel
theorem dX5_gatherLive_5 : decode cX5_gatherLive 5 = .ok (.aload_n 1, 1) := by decide +kernel
theorem dX5_gatherLive_6 : decode cX5_gatherLive 6 = .ok (.getfield 29, 3) := by decide +kernel
theorem dX5_gatherLive_9 : decode cX5_gatherLive 9 = .ok (.if_icmp .ge 49, 3) := by decide +kernel
theorem dX5_gatherLive_12 : decode cX5_gatherLive 12 = .ok (.iload_n 2, 1) := by decide +kernel
theorem dX5_gatherLive_13 : decode cX5_gatherLive 13 = .ok (.aload_n 0, 1) := by decide +kernel
theorem dX5_gatherLive_14 : decode cX5_gatherLive 14 = .ok (.getfield 17, 3) := by decide +kernel
theorem dX5_gatherLive_17 : decode cX5_gatherLive 17 = .ok (.arraylength, 1) := by decide +kernel
theorem dX5_gatherLive_18 : decode cX5_gatherLive 18 = .ok (.if_icmp .ge 40, 3) := by decide +kernel
theorem dX5_gatherLive_21 : decode cX5_gatherLive 21 = .ok (.aload_n 1, 1) := by decide +kernel
theorem dX5_gatherLive_22 : decode cX5_gatherLive 22 = .ok (.iload_n 3, 1) := by decide +kernel
theorem dX5_gatherLive_23 : decode cX5_gatherLive 23 = .ok (.invokestatic 73, 3) := by decide +kernel
theorem dX5_gatherLive_26 : decode cX5_gatherLive 26 = .ok (.astore 4, 2) := by decide +kernel
theorem dX5_gatherLive_28 : decode cX5_gatherLive 28 = .ok (.aload 4, 2) := by decide +kernel
theorem dX5_gatherLive_30 : decode cX5_gatherLive 30 = .ok (.ifnull 22, 3) := by decide +kernel
theorem dX5_gatherLive_33 : decode cX5_gatherLive 33 = .ok (.aload 4, 2) := by decide +kernel
theorem dX5_gatherLive_35 : decode cX5_gatherLive 35 = .ok (.getfield 77, 3) := by decide +kernel
theorem dX5_gatherLive_38 : decode cX5_gatherLive 38 = .ok (.ifCond .ne 14, 3) := by decide +kernel
theorem dX5_gatherLive_41 : decode cX5_gatherLive 41 = .ok (.aload_n 0, 1) := by decide +kernel
theorem dX5_gatherLive_42 : decode cX5_gatherLive 42 = .ok (.getfield 17, 3) := by decide +kernel
theorem dX5_gatherLive_45 : decode cX5_gatherLive 45 = .ok (.iload_n 2, 1) := by decide +kernel
theorem dX5_gatherLive_46 : decode cX5_gatherLive 46 = .ok (.aload 4, 2) := by decide +kernel
theorem dX5_gatherLive_48 : decode cX5_gatherLive 48 = .ok (.aastore, 1) := by decide +kernel
theorem dX5_gatherLive_49 : decode cX5_gatherLive 49 = .ok (.iinc 2 1, 3) := by decide +kernel
theorem dX5_gatherLive_52 : decode cX5_gatherLive 52 = .ok (.iinc 3 1, 3) := by decide +kernel
theorem dX5_gatherLive_55 : decode cX5_gatherLive 55 = .ok (.goto (-51), 3) := by decide +kernel
theorem dX5_gatherLive_58 : decode cX5_gatherLive 58 = .ok (.iload_n 2, 1) := by decide +kernel
theorem dX5_gatherLive_59 : decode cX5_gatherLive 59 = .ok (.ireturn, 1) := by decide +kernel
theorem dX5_build_0 : decode cX5_build 0 = .ok (.iload_n 1, 1) := by decide +kernel
theorem dX5_build_1 : decode cX5_build 1 = .ok (.ifCond .lt 23, 3) := by decide +kernel
theorem dX5_build_4 : decode cX5_build 4 = .ok (.iload_n 1, 1) := by decide +kernel
theorem dX5_build_5 : decode cX5_build 5 = .ok (.iload_n 2, 1) := by decide +kernel
theorem dX5_build_6 : decode cX5_build 6 = .ok (.if_icmp .ge 18, 3) := by decide +kernel
theorem dX5_build_9 : decode cX5_build 9 = .ok (.iload_n 2, 1) := by decide +kernel
theorem dX5_build_10 : decode cX5_build 10 = .ok (.aload_n 0, 1) := by decide +kernel
theorem dX5_build_11 : decode cX5_build 11 = .ok (.getfield 17, 3) := by decide +kernel
theorem dX5_build_14 : decode cX5_build 14 = .ok (.arraylength, 1) := by decide +kernel
theorem dX5_build_15 : decode cX5_build 15 = .ok (.if_icmp .gt 9, 3) := by decide +kernel
theorem dX5_build_18 : decode cX5_build 18 = .ok (.iload_n 3, 1) := by decide +kernel
theorem dX5_build_19 : decode cX5_build 19 = .ok (.bipush 120, 2) := by decide +kernel
theorem dX5_build_21 : decode cX5_build 21 = .ok (.if_icmp .lt 5, 3) := by decide +kernel
theorem dX5_build_24 : decode cX5_build 24 = .ok (.aconst_null, 1) := by decide +kernel
theorem dX5_build_25 : decode cX5_build 25 = .ok (.areturn, 1) := by decide +kernel
theorem dX5_build_26 : decode cX5_build 26 = .ok (.aload_n 0, 1) := by decide +kernel
theorem dX5_build_27 : decode cX5_build 27 = .ok (.iload_n 1, 1) := by decide +kernel
theorem dX5_build_28 : decode cX5_build 28 = .ok (.iload_n 2, 1) := by decide +kernel
theorem dX5_build_29 : decode cX5_build 29 = .ok (.iload 4, 2) := by decide +kernel
theorem dX5_build_31 : decode cX5_build 31 = .ok (.invokevirtual 81, 3) := by decide +kernel
theorem dX5_build_34 : decode cX5_build 34 = .ok (.iload_n 1, 1) := by decide +kernel
theorem dX5_build_35 : decode cX5_build 35 = .ok (.iload_n 2, 1) := by decide +kernel
theorem dX5_build_36 : decode cX5_build 36 = .ok (.iload_n 1, 1) := by decide +kernel
theorem dX5_build_37 : decode cX5_build 37 = .ok (.isub, 1) := by decide +kernel
theorem dX5_build_38 : decode cX5_build 38 = .ok (.iconst 2, 1) := by decide +kernel
theorem dX5_build_39 : decode cX5_build 39 = .ok (.idiv, 1) := by decide +kernel
theorem dX5_build_40 : decode cX5_build 40 = .ok (.iadd, 1) := by decide +kernel
theorem dX5_build_41 : decode cX5_build 41 = .ok (.istore 6, 2) := by decide +kernel
theorem dX5_build_43 : decode cX5_build 43 = .ok (.aload_n 0, 1) := by decide +kernel
theorem dX5_build_44 : decode cX5_build 44 = .ok (.getfield 17, 3) := by decide +kernel
theorem dX5_build_47 : decode cX5_build 47 = .ok (.iload 6, 2) := by decide +kernel
theorem dX5_build_49 : decode cX5_build 49 = .ok (.aaload, 1) := by decide +kernel
theorem dX5_build_50 : decode cX5_build 50 = .ok (.astore 7, 2) := by decide +kernel
theorem dX5_build_52 : decode cX5_build 52 = .ok (.aload 7, 2) := by decide +kernel
theorem dX5_build_54 : decode cX5_build 54 = .ok (.ifnonnull 5, 3) := by decide +kernel
theorem dX5_build_57 : decode cX5_build 57 = .ok (.aconst_null, 1) := by decide +kernel
theorem dX5_build_58 : decode cX5_build 58 = .ok (.areturn, 1) := by decide +kernel
theorem dX5_build_59 : decode cX5_build 59 = .ok (.aload 7, 2) := by decide +kernel
theorem dX5_build_61 : decode cX5_build 61 = .ok (.aload 5, 2) := by decide +kernel
theorem dX5_build_63 : decode cX5_build 63 = .ok (.putfield 36, 3) := by decide +kernel
theorem dX5_build_66 : decode cX5_build 66 = .ok (.aload 7, 2) := by decide +kernel
theorem dX5_build_68 : decode cX5_build 68 = .ok (.iload_n 3, 1) := by decide +kernel
theorem dX5_build_69 : decode cX5_build 69 = .ok (.putfield 39, 3) := by decide +kernel
theorem dX5_build_72 : decode cX5_build 72 = .ok (.aload 7, 2) := by decide +kernel
theorem dX5_build_74 : decode cX5_build 74 = .ok (.iload 4, 2) := by decide +kernel
theorem dX5_build_76 : decode cX5_build 76 = .ok (.putfield 42, 3) := by decide +kernel
theorem dX5_build_79 : decode cX5_build 79 = .ok (.aload 7, 2) := by decide +kernel
theorem dX5_build_81 : decode cX5_build 81 = .ok (.iload_n 2, 1) := by decide +kernel
theorem dX5_build_82 : decode cX5_build 82 = .ok (.iload_n 1, 1) := by decide +kernel
theorem dX5_build_83 : decode cX5_build 83 = .ok (.isub, 1) := by decide +kernel
theorem dX5_build_84 : decode cX5_build 84 = .ok (.putfield 29, 3) := by decide +kernel
theorem dX5_build_87 : decode cX5_build 87 = .ok (.aload_n 0, 1) := by decide +kernel
theorem dX5_build_88 : decode cX5_build 88 = .ok (.iload 4, 2) := by decide +kernel
theorem dX5_build_90 : decode cX5_build 90 = .ok (.invokevirtual 45, 3) := by decide +kernel
theorem dX5_build_93 : decode cX5_build 93 = .ok (.istore 8, 2) := by decide +kernel
theorem dX5_build_95 : decode cX5_build 95 = .ok (.aload 7, 2) := by decide +kernel
theorem dX5_build_97 : decode cX5_build 97 = .ok (.aload_n 0, 1) := by decide +kernel
theorem dX5_build_98 : decode cX5_build 98 = .ok (.iload_n 1, 1) := by decide +kernel
theorem dX5_build_99 : decode cX5_build 99 = .ok (.iload 6, 2) := by decide +kernel
theorem dX5_build_101 : decode cX5_build 101 = .ok (.iload_n 3, 1) := by decide +kernel
theorem dX5_build_102 : decode cX5_build 102 = .ok (.iconst 1, 1) := by decide +kernel
theorem dX5_build_103 : decode cX5_build 103 = .ok (.iadd, 1) := by decide +kernel
theorem dX5_build_104 : decode cX5_build 104 = .ok (.iload 8, 2) := by decide +kernel
theorem dX5_build_106 : decode cX5_build 106 = .ok (.aload 7, 2) := by decide +kernel
theorem dX5_build_108 : decode cX5_build 108 = .ok (.invokevirtual 66, 3) := by decide +kernel
theorem dX5_build_111 : decode cX5_build 111 = .ok (.putfield 53, 3) := by decide +kernel
theorem dX5_build_114 : decode cX5_build 114 = .ok (.aload 7, 2) := by decide +kernel
theorem dX5_build_116 : decode cX5_build 116 = .ok (.aload_n 0, 1) := by decide +kernel
theorem dX5_build_117 : decode cX5_build 117 = .ok (.iload 6, 2) := by decide +kernel
theorem dX5_build_119 : decode cX5_build 119 = .ok (.iconst 1, 1) := by decide +kernel
theorem dX5_build_120 : decode cX5_build 120 = .ok (.iadd, 1) := by decide +kernel
theorem dX5_build_121 : decode cX5_build 121 = .ok (.iload_n 2, 1) := by decide +kernel
theorem dX5_build_122 : decode cX5_build 122 = .ok (.iload_n 3, 1) := by decide +kernel
theorem dX5_build_123 : decode cX5_build 123 = .ok (.iconst 1, 1) := by decide +kernel
theorem dX5_build_124 : decode cX5_build 124 = .ok (.iadd, 1) := by decide +kernel
theorem dX5_build_125 : decode cX5_build 125 = .ok (.iload 8, 2) := by decide +kernel
theorem dX5_build_127 : decode cX5_build 127 = .ok (.aload 7, 2) := by decide +kernel
theorem dX5_build_129 : decode cX5_build 129 = .ok (.invokevirtual 66, 3) := by decide +kernel
theorem dX5_build_132 : decode cX5_build 132 = .ok (.putfield 56, 3) := by decide +kernel
theorem dX5_build_135 : decode cX5_build 135 = .ok (.aload 7, 2) := by decide +kernel
theorem dX5_build_137 : decode cX5_build 137 = .ok (.areturn, 1) := by decide +kernel
theorem dX5_order_0 : decode cX5_order 0 = .ok (.iload_n 1, 1) := by decide +kernel
theorem dX5_order_1 : decode cX5_order 1 = .ok (.iconst 1, 1) := by decide +kernel
theorem dX5_order_2 : decode cX5_order 2 = .ok (.iadd, 1) := by decide +kernel
theorem dX5_order_3 : decode cX5_order 3 = .ok (.istore 4, 2) := by decide +kernel
theorem dX5_order_5 : decode cX5_order 5 = .ok (.iload 4, 2) := by decide +kernel
theorem dX5_order_7 : decode cX5_order 7 = .ok (.iload_n 2, 1) := by decide +kernel
theorem dX5_order_8 : decode cX5_order 8 = .ok (.if_icmp .ge 77, 3) := by decide +kernel
theorem dX5_order_11 : decode cX5_order 11 = .ok (.aload_n 0, 1) := by decide +kernel
theorem dX5_order_12 : decode cX5_order 12 = .ok (.getfield 17, 3) := by decide +kernel
theorem dX5_order_15 : decode cX5_order 15 = .ok (.iload 4, 2) := by decide +kernel
theorem dX5_order_17 : decode cX5_order 17 = .ok (.aaload, 1) := by decide +kernel
theorem dX5_order_18 : decode cX5_order 18 = .ok (.astore 5, 2) := by decide +kernel
theorem dX5_order_20 : decode cX5_order 20 = .ok (.iload 4, 2) := by decide +kernel
theorem dX5_order_22 : decode cX5_order 22 = .ok (.istore 6, 2) := by decide +kernel
theorem dX5_order_24 : decode cX5_order 24 = .ok (.iload 6, 2) := by decide +kernel
theorem dX5_order_26 : decode cX5_order 26 = .ok (.iload_n 1, 1) := by decide +kernel
theorem dX5_order_27 : decode cX5_order 27 = .ok (.if_icmp .le 43, 3) := by decide +kernel
theorem dX5_order_30 : decode cX5_order 30 = .ok (.aload 5, 2) := by decide +kernel
theorem dX5_order_32 : decode cX5_order 32 = .ok (.aload_n 0, 1) := by decide +kernel
theorem dX5_order_33 : decode cX5_order 33 = .ok (.getfield 17, 3) := by decide +kernel
theorem dX5_order_36 : decode cX5_order 36 = .ok (.iload 6, 2) := by decide +kernel
theorem dX5_order_38 : decode cX5_order 38 = .ok (.iconst 1, 1) := by decide +kernel
theorem dX5_order_39 : decode cX5_order 39 = .ok (.isub, 1) := by decide +kernel
theorem dX5_order_40 : decode cX5_order 40 = .ok (.aaload, 1) := by decide +kernel
theorem dX5_order_41 : decode cX5_order 41 = .ok (.iload_n 3, 1) := by decide +kernel
theorem dX5_order_42 : decode cX5_order 42 = .ok (.invokestatic 85, 3) := by decide +kernel
theorem dX5_order_45 : decode cX5_order 45 = .ok (.ifCond .eq 25, 3) := by decide +kernel
theorem dX5_order_48 : decode cX5_order 48 = .ok (.aload_n 0, 1) := by decide +kernel
theorem dX5_order_49 : decode cX5_order 49 = .ok (.getfield 17, 3) := by decide +kernel
theorem dX5_order_52 : decode cX5_order 52 = .ok (.iload 6, 2) := by decide +kernel
theorem dX5_order_54 : decode cX5_order 54 = .ok (.aload_n 0, 1) := by decide +kernel
theorem dX5_order_55 : decode cX5_order 55 = .ok (.getfield 17, 3) := by decide +kernel
theorem dX5_order_58 : decode cX5_order 58 = .ok (.iload 6, 2) := by decide +kernel
theorem dX5_order_60 : decode cX5_order 60 = .ok (.iconst 1, 1) := by decide +kernel
theorem dX5_order_61 : decode cX5_order 61 = .ok (.isub, 1) := by decide +kernel
theorem dX5_order_62 : decode cX5_order 62 = .ok (.aaload, 1) := by decide +kernel
theorem dX5_order_63 : decode cX5_order 63 = .ok (.aastore, 1) := by decide +kernel
theorem dX5_order_64 : decode cX5_order 64 = .ok (.iinc 6 (-1), 3) := by decide +kernel
theorem dX5_order_67 : decode cX5_order 67 = .ok (.goto (-43), 3) := by decide +kernel
theorem dX5_order_70 : decode cX5_order 70 = .ok (.aload_n 0, 1) := by decide +kernel
theorem dX5_order_71 : decode cX5_order 71 = .ok (.getfield 17, 3) := by decide +kernel
theorem dX5_order_74 : decode cX5_order 74 = .ok (.iload 6, 2) := by decide +kernel
theorem dX5_order_76 : decode cX5_order 76 = .ok (.aload 5, 2) := by decide +kernel
theorem dX5_order_78 : decode cX5_order 78 = .ok (.aastore, 1) := by decide +kernel
theorem dX5_order_79 : decode cX5_order 79 = .ok (.iinc 4 1, 3) := by decide +kernel
theorem dX5_order_82 : decode cX5_order 82 = .ok (.goto (-77), 3) := by decide +kernel
theorem dX5_order_85 : decode cX5_order 85 = .ok (.return_, 1) := by decide +kernel
theorem dX5_isAhead_0 : decode cX5_isAhead 0 = .ok (.aload_n 0, 1) := by decide +kernel
theorem dX5_isAhead_1 : decode cX5_isAhead 1 = .ok (.ifnull 20, 3) := by decide +kernel
theorem dX5_isAhead_4 : decode cX5_isAhead 4 = .ok (.aload_n 1, 1) := by decide +kernel
theorem dX5_isAhead_5 : decode cX5_isAhead 5 = .ok (.ifnull 16, 3) := by decide +kernel
theorem dX5_isAhead_8 : decode cX5_isAhead 8 = .ok (.aload_n 0, 1) := by decide +kernel
theorem dX5_isAhead_9 : decode cX5_isAhead 9 = .ok (.aload_n 1, 1) := by decide +kernel
theorem dX5_isAhead_10 : decode cX5_isAhead 10 = .ok (.iload_n 2, 1) := by decide +kernel
theorem dX5_isAhead_11 : decode cX5_isAhead 11 = .ok (.invokevirtual 49, 3) := by decide +kernel
theorem dX5_isAhead_14 : decode cX5_isAhead 14 = .ok (.ifCond .eq 7, 3) := by decide +kernel
theorem dX5_isAhead_17 : decode cX5_isAhead 17 = .ok (.iconst 1, 1) := by decide +kernel
theorem dX5_isAhead_18 : decode cX5_isAhead 18 = .ok (.goto 4, 3) := by decide +kernel
theorem dX5_isAhead_21 : decode cX5_isAhead 21 = .ok (.iconst 0, 1) := by decide +kernel
theorem dX5_isAhead_22 : decode cX5_isAhead 22 = .ok (.ireturn, 1) := by decide +kernel
theorem dX5_axisBehind_0 : decode cX5_axisBehind 0 = .ok (.iload_n 1, 1) := by decide +kernel
theorem dX5_axisBehind_1 : decode cX5_axisBehind 1 = .ok (.iconst 1, 1) := by decide +kernel
theorem dX5_axisBehind_2 : decode cX5_axisBehind 2 = .ok (.iadd, 1) := by decide +kernel
theorem dX5_axisBehind_3 : decode cX5_axisBehind 3 = .ok (.aload_n 0, 1) := by decide +kernel
theorem dX5_axisBehind_4 : decode cX5_axisBehind 4 = .ok (.getfield 9, 3) := by decide +kernel
theorem dX5_axisBehind_7 : decode cX5_axisBehind 7 = .ok (.if_icmp .ge 9, 3) := by decide +kernel
theorem dX5_axisBehind_10 : decode cX5_axisBehind 10 = .ok (.iload_n 1, 1) := by decide +kernel
theorem dX5_axisBehind_11 : decode cX5_axisBehind 11 = .ok (.iconst 1, 1) := by decide +kernel
theorem dX5_axisBehind_12 : decode cX5_axisBehind 12 = .ok (.iadd, 1) := by decide +kernel
theorem dX5_axisBehind_13 : decode cX5_axisBehind 13 = .ok (.goto 4, 3) := by decide +kernel
theorem dX5_axisBehind_16 : decode cX5_axisBehind 16 = .ok (.iconst 0, 1) := by decide +kernel
theorem dX5_axisBehind_17 : decode cX5_axisBehind 17 = .ok (.ireturn, 1) := by decide +kernel
theorem dX5_nodeOnWalk_0 : decode cX5_nodeOnWalk 0 = .ok (.aload_n 0, 1) := by decide +kernel
theorem dX5_nodeOnWalk_1 : decode cX5_nodeOnWalk 1 = .ok (.astore_n 2, 1) := by decide +kernel
theorem dX5_nodeOnWalk_2 : decode cX5_nodeOnWalk 2 = .ok (.iload_n 1, 1) := by decide +kernel
theorem dX5_nodeOnWalk_3 : decode cX5_nodeOnWalk 3 = .ok (.istore_n 3, 1) := by decide +kernel
theorem dX5_nodeOnWalk_4 : decode cX5_nodeOnWalk 4 = .ok (.aload_n 2, 1) := by decide +kernel
theorem dX5_nodeOnWalk_5 : decode cX5_nodeOnWalk 5 = .ok (.ifnull 46, 3) := by decide +kernel
theorem dX5_nodeOnWalk_8 : decode cX5_nodeOnWalk 8 = .ok (.iload_n 3, 1) := by decide +kernel
theorem dX5_nodeOnWalk_9 : decode cX5_nodeOnWalk 9 = .ok (.ifCond .le 42, 3) := by decide +kernel
theorem dX5_nodeOnWalk_12 : decode cX5_nodeOnWalk 12 = .ok (.iinc 3 (-1), 3) := by decide +kernel
theorem dX5_nodeOnWalk_15 : decode cX5_nodeOnWalk 15 = .ok (.aload_n 2, 1) := by decide +kernel
theorem dX5_nodeOnWalk_16 : decode cX5_nodeOnWalk 16 = .ok (.getfield 53, 3) := by decide +kernel
theorem dX5_nodeOnWalk_19 : decode cX5_nodeOnWalk 19 = .ok (.invokestatic 25, 3) := by decide +kernel
theorem dX5_nodeOnWalk_22 : decode cX5_nodeOnWalk 22 = .ok (.istore 4, 2) := by decide +kernel
theorem dX5_nodeOnWalk_24 : decode cX5_nodeOnWalk 24 = .ok (.iload_n 3, 1) := by decide +kernel
theorem dX5_nodeOnWalk_25 : decode cX5_nodeOnWalk 25 = .ok (.iload 4, 2) := by decide +kernel
theorem dX5_nodeOnWalk_27 : decode cX5_nodeOnWalk 27 = .ok (.if_icmp .ge 11, 3) := by decide +kernel
theorem dX5_nodeOnWalk_30 : decode cX5_nodeOnWalk 30 = .ok (.aload_n 2, 1) := by decide +kernel
theorem dX5_nodeOnWalk_31 : decode cX5_nodeOnWalk 31 = .ok (.getfield 53, 3) := by decide +kernel
theorem dX5_nodeOnWalk_34 : decode cX5_nodeOnWalk 34 = .ok (.astore_n 2, 1) := by decide +kernel
theorem dX5_nodeOnWalk_35 : decode cX5_nodeOnWalk 35 = .ok (.goto 13, 3) := by decide +kernel
theorem dX5_nodeOnWalk_38 : decode cX5_nodeOnWalk 38 = .ok (.iload_n 3, 1) := by decide +kernel
theorem dX5_nodeOnWalk_39 : decode cX5_nodeOnWalk 39 = .ok (.iload 4, 2) := by decide +kernel
theorem dX5_nodeOnWalk_41 : decode cX5_nodeOnWalk 41 = .ok (.isub, 1) := by decide +kernel
theorem dX5_nodeOnWalk_42 : decode cX5_nodeOnWalk 42 = .ok (.istore_n 3, 1) := by decide +kernel
theorem dX5_nodeOnWalk_43 : decode cX5_nodeOnWalk 43 = .ok (.aload_n 2, 1) := by decide +kernel
theorem dX5_nodeOnWalk_44 : decode cX5_nodeOnWalk 44 = .ok (.getfield 56, 3) := by decide +kernel
theorem dX5_nodeOnWalk_47 : decode cX5_nodeOnWalk 47 = .ok (.astore_n 2, 1) := by decide +kernel
theorem dX5_nodeOnWalk_48 : decode cX5_nodeOnWalk 48 = .ok (.goto (-44), 3) := by decide +kernel
theorem dX5_nodeOnWalk_51 : decode cX5_nodeOnWalk 51 = .ok (.aload_n 2, 1) := by decide +kernel
theorem dX5_nodeOnWalk_52 : decode cX5_nodeOnWalk 52 = .ok (.areturn, 1) := by decide +kernel
theorem dX5_levels_0 : decode cX5_levels 0 = .ok (.iconst 0, 1) := by decide +kernel
theorem dX5_levels_1 : decode cX5_levels 1 = .ok (.istore_n 1, 1) := by decide +kernel
theorem dX5_levels_2 : decode cX5_levels 2 = .ok (.aload_n 0, 1) := by decide +kernel
theorem dX5_levels_3 : decode cX5_levels 3 = .ok (.invokevirtual 89, 3) := by decide +kernel
theorem dX5_levels_6 : decode cX5_levels 6 = .ok (.istore_n 2, 1) := by decide +kernel
theorem dX5_levels_7 : decode cX5_levels 7 = .ok (.iconst 0, 1) := by decide +kernel
theorem dX5_levels_8 : decode cX5_levels 8 = .ok (.istore_n 3, 1) := by decide +kernel
theorem dX5_levels_9 : decode cX5_levels 9 = .ok (.iload_n 3, 1) := by decide +kernel
theorem dX5_levels_10 : decode cX5_levels 10 = .ok (.iload_n 2, 1) := by decide +kernel
theorem dX5_levels_11 : decode cX5_levels 11 = .ok (.if_icmp .ge 36, 3) := by decide +kernel
theorem dX5_levels_14 : decode cX5_levels 14 = .ok (.aload_n 0, 1) := by decide +kernel
theorem dX5_levels_15 : decode cX5_levels 15 = .ok (.getfield 21, 3) := by decide +kernel
theorem dX5_levels_18 : decode cX5_levels 18 = .ok (.iload_n 3, 1) := by decide +kernel
theorem dX5_levels_19 : decode cX5_levels 19 = .ok (.invokestatic 73, 3) := by decide +kernel
theorem dX5_levels_22 : decode cX5_levels 22 = .ok (.astore 4, 2) := by decide +kernel
theorem dX5_levels_24 : decode cX5_levels 24 = .ok (.aload 4, 2) := by decide +kernel
theorem dX5_levels_26 : decode cX5_levels 26 = .ok (.ifnull 15, 3) := by decide +kernel
theorem dX5_levels_29 : decode cX5_levels 29 = .ok (.iload_n 1, 1) := by decide +kernel
theorem dX5_levels_30 : decode cX5_levels 30 = .ok (.aload 4, 2) := by decide +kernel
theorem dX5_levels_32 : decode cX5_levels 32 = .ok (.getfield 39, 3) := by decide +kernel
theorem dX5_levels_35 : decode cX5_levels 35 = .ok (.iconst 1, 1) := by decide +kernel
theorem dX5_levels_36 : decode cX5_levels 36 = .ok (.iadd, 1) := by decide +kernel
theorem dX5_levels_37 : decode cX5_levels 37 = .ok (.invokestatic 93, 3) := by decide +kernel
theorem dX5_levels_40 : decode cX5_levels 40 = .ok (.istore_n 1, 1) := by decide +kernel
theorem dX5_levels_41 : decode cX5_levels 41 = .ok (.iinc 3 1, 3) := by decide +kernel
theorem dX5_levels_44 : decode cX5_levels 44 = .ok (.goto (-35), 3) := by decide +kernel
theorem dX5_levels_47 : decode cX5_levels 47 = .ok (.iload_n 1, 1) := by decide +kernel
theorem dX5_levels_48 : decode cX5_levels 48 = .ok (.ireturn, 1) := by decide +kernel
end
section
theorem dX6_init_0 : decode cX6_init 0 = .ok (.aload_n 0, 1) := by decide +kernel
theorem dX6_init_1 : decode cX6_init 1 = .ok (.invokespecial 3, 3) := by decide +kernel
theorem dX6_init_4 : decode cX6_init 4 = .ok (.aload_n 0, 1) := by decide +kernel
theorem dX6_init_5 : decode cX6_init 5 = .ok (.iconst 1, 1) := by decide +kernel
theorem dX6_init_6 : decode cX6_init 6 = .ok (.iconst 4, 1) := by decide +kernel
theorem dX6_init_7 : decode cX6_init 7 = .ok (.iload_n 1, 1) := by decide +kernel
theorem dX6_init_8 : decode cX6_init 8 = .ok (.invokestatic 9, 3) := by decide +kernel
theorem dX6_init_11 : decode cX6_init 11 = .ok (.invokestatic 15, 3) := by decide +kernel
theorem dX6_init_14 : decode cX6_init 14 = .ok (.putfield 18, 3) := by decide +kernel
theorem dX6_init_17 : decode cX6_init 17 = .ok (.aload_n 0, 1) := by decide +kernel
theorem dX6_init_18 : decode cX6_init 18 = .ok (.bipush 100, 2) := by decide +kernel
theorem dX6_init_20 : decode cX6_init 20 = .ok (.anewarray 22, 3) := by decide +kernel
theorem dX6_init_23 : decode cX6_init 23 = .ok (.putfield 24, 3) := by decide +kernel
theorem dX6_init_26 : decode cX6_init 26 = .ok (.aload_n 0, 1) := by decide +kernel
theorem dX6_init_27 : decode cX6_init 27 = .ok (.new 28, 3) := by decide +kernel
theorem dX6_init_30 : decode cX6_init 30 = .ok (.dup, 1) := by decide +kernel
theorem dX6_init_31 : decode cX6_init 31 = .ok (.aload_n 0, 1) := by decide +kernel
theorem dX6_init_32 : decode cX6_init 32 = .ok (.getfield 18, 3) := by decide +kernel
theorem dX6_init_35 : decode cX6_init 35 = .ok (.invokespecial 30, 3) := by decide +kernel
theorem dX6_init_38 : decode cX6_init 38 = .ok (.putfield 33, 3) := by decide +kernel
theorem dX6_init_41 : decode cX6_init 41 = .ok (.aload_n 0, 1) := by decide +kernel
theorem dX6_init_42 : decode cX6_init 42 = .ok (.new 37, 3) := by decide +kernel
theorem dX6_init_45 : decode cX6_init 45 = .ok (.dup, 1) := by decide +kernel
theorem dX6_init_46 : decode cX6_init 46 = .ok (.invokespecial 39, 3) := by decide +kernel
theorem dX6_init_49 : decode cX6_init 49 = .ok (.putfield 40, 3) := by decide +kernel
theorem dX6_init_52 : decode cX6_init 52 = .ok (.aload_n 0, 1) := by decide +kernel
theorem dX6_init_53 : decode cX6_init 53 = .ok (.new 44, 3) := by decide +kernel
theorem dX6_init_56 : decode cX6_init 56 = .ok (.dup, 1) := by decide +kernel
theorem dX6_init_57 : decode cX6_init 57 = .ok (.invokespecial 46, 3) := by decide +kernel
theorem dX6_init_60 : decode cX6_init 60 = .ok (.putfield 47, 3) := by decide +kernel
theorem dX6_init_63 : decode cX6_init 63 = .ok (.return_, 1) := by decide +kernel
theorem dX6_put_0 : decode cX6_put 0 = .ok (.iload_n 1, 1) := by decide +kernel
theorem dX6_put_1 : decode cX6_put 1 = .ok (.invokestatic 51, 3) := by decide +kernel
theorem dX6_put_4 : decode cX6_put 4 = .ok (.ifCond .eq 16, 3) := by decide +kernel
theorem dX6_put_7 : decode cX6_put 7 = .ok (.aload_n 0, 1) := by decide +kernel
theorem dX6_put_8 : decode cX6_put 8 = .ok (.iload_n 2, 1) := by decide +kernel
theorem dX6_put_9 : decode cX6_put 9 = .ok (.iload_n 3, 1) := by decide +kernel
theorem dX6_put_10 : decode cX6_put 10 = .ok (.iload 4, 2) := by decide +kernel
theorem dX6_put_12 : decode cX6_put 12 = .ok (.iload 5, 2) := by decide +kernel
theorem dX6_put_14 : decode cX6_put 14 = .ok (.invokevirtual 55, 3) := by decide +kernel
theorem dX6_put_17 : decode cX6_put 17 = .ok (.ifCond .ne 13, 3) := by decide +kernel
theorem dX6_put_20 : decode cX6_put 20 = .ok (.new 59, 3) := by decide +kernel
theorem dX6_put_23 : decode cX6_put 23 = .ok (.dup, 1) := by decide +kernel
theorem dX6_put_24 : decode cX6_put 24 = .ok (.ldc 61, 2) := by decide +kernel
theorem dX6_put_26 : decode cX6_put 26 = .ok (.invokespecial 63, 3) := by decide +kernel
theorem dX6_put_29 : decode cX6_put 29 = .ok (.athrow, 1) := by decide +kernel
theorem dX6_put_30 : decode cX6_put 30 = .ok (.aload_n 0, 1) := by decide +kernel
theorem dX6_put_31 : decode cX6_put 31 = .ok (.getfield 24, 3) := by decide +kernel
theorem dX6_put_34 : decode cX6_put 34 = .ok (.iload_n 1, 1) := by decide +kernel
theorem dX6_put_35 : decode cX6_put 35 = .ok (.aaload, 1) := by decide +kernel
theorem dX6_put_36 : decode cX6_put 36 = .ok (.ifnonnull 12, 3) := by decide +kernel
theorem dX6_put_39 : decode cX6_put 39 = .ok (.aload_n 0, 1) := by decide +kernel
theorem dX6_put_40 : decode cX6_put 40 = .ok (.getfield 66, 3) := by decide +kernel
theorem dX6_put_43 : decode cX6_put 43 = .ok (.bipush 60, 2) := by decide +kernel
theorem dX6_put_45 : decode cX6_put 45 = .ok (.if_icmp .lt 13, 3) := by decide +kernel
theorem dX6_put_48 : decode cX6_put 48 = .ok (.new 69, 3) := by decide +kernel
theorem dX6_put_51 : decode cX6_put 51 = .ok (.dup, 1) := by decide +kernel
theorem dX6_put_52 : decode cX6_put 52 = .ok (.ldc 71, 2) := by decide +kernel
theorem dX6_put_54 : decode cX6_put 54 = .ok (.invokespecial 73, 3) := by decide +kernel
theorem dX6_put_57 : decode cX6_put 57 = .ok (.athrow, 1) := by decide +kernel
theorem dX6_put_58 : decode cX6_put 58 = .ok (.new 22, 3) := by decide +kernel
theorem dX6_put_61 : decode cX6_put 61 = .ok (.dup, 1) := by decide +kernel
theorem dX6_put_62 : decode cX6_put 62 = .ok (.iload_n 1, 1) := by decide +kernel
theorem dX6_put_63 : decode cX6_put 63 = .ok (.new 74, 3) := by decide +kernel
theorem dX6_put_66 : decode cX6_put 66 = .ok (.dup, 1) := by decide +kernel
theorem dX6_put_67 : decode cX6_put 67 = .ok (.aload_n 0, 1) := by decide +kernel
theorem dX6_put_68 : decode cX6_put 68 = .ok (.getfield 18, 3) := by decide +kernel
theorem dX6_put_71 : decode cX6_put 71 = .ok (.iload_n 2, 1) := by decide +kernel
theorem dX6_put_72 : decode cX6_put 72 = .ok (.iload_n 3, 1) := by decide +kernel
theorem dX6_put_73 : decode cX6_put 73 = .ok (.iload 4, 2) := by decide +kernel
theorem dX6_put_75 : decode cX6_put 75 = .ok (.iload 5, 2) := by decide +kernel
theorem dX6_put_77 : decode cX6_put 77 = .ok (.invokespecial 76, 3) := by decide +kernel
theorem dX6_put_80 : decode cX6_put 80 = .ok (.invokespecial 79, 3) := by decide +kernel
theorem dX6_put_83 : decode cX6_put 83 = .ok (.astore 6, 2) := by decide +kernel
theorem dX6_put_85 : decode cX6_put 85 = .ok (.aload_n 0, 1) := by decide +kernel
theorem dX6_put_86 : decode cX6_put 86 = .ok (.getfield 24, 3) := by decide +kernel
theorem dX6_put_89 : decode cX6_put 89 = .ok (.iload_n 1, 1) := by decide +kernel
theorem dX6_put_90 : decode cX6_put 90 = .ok (.aload 6, 2) := by decide +kernel
theorem dX6_put_92 : decode cX6_put 92 = .ok (.aastore, 1) := by decide +kernel
theorem dX6_put_93 : decode cX6_put 93 = .ok (.aload_n 0, 1) := by decide +kernel
theorem dX6_put_94 : decode cX6_put 94 = .ok (.dup, 1) := by decide +kernel
theorem dX6_put_95 : decode cX6_put 95 = .ok (.getfield 66, 3) := by decide +kernel
theorem dX6_put_98 : decode cX6_put 98 = .ok (.iconst 1, 1) := by decide +kernel
theorem dX6_put_99 : decode cX6_put 99 = .ok (.iadd, 1) := by decide +kernel
theorem dX6_put_100 : decode cX6_put 100 = .ok (.putfield 66, 3) := by decide +kernel
theorem dX6_put_103 : decode cX6_put 103 = .ok (.aload_n 0, 1) := by decide +kernel
theorem dX6_put_104 : decode cX6_put 104 = .ok (.getfield 33, 3) := by decide +kernel
theorem dX6_put_107 : decode cX6_put 107 = .ok (.aload 6, 2) := by decide +kernel
theorem dX6_put_109 : decode cX6_put 109 = .ok (.invokevirtual 82, 3) := by decide +kernel
theorem dX6_put_112 : decode cX6_put 112 = .ok (.aload_n 0, 1) := by decide +kernel
theorem dX6_put_113 : decode cX6_put 113 = .ok (.getfield 33, 3) := by decide +kernel
theorem dX6_put_116 : decode cX6_put 116 = .ok (.aload 6, 2) := by decide +kernel
theorem dX6_put_118 : decode cX6_put 118 = .ok (.invokevirtual 86, 3) := by decide +kernel
theorem dX6_put_121 : decode cX6_put 121 = .ok (.astore 7, 2) := by decide +kernel
theorem dX6_put_123 : decode cX6_put 123 = .ok (.aload 7, 2) := by decide +kernel
theorem dX6_put_125 : decode cX6_put 125 = .ok (.ifnull 22, 3) := by decide +kernel
theorem dX6_put_128 : decode cX6_put 128 = .ok (.aload_n 0, 1) := by decide +kernel
theorem dX6_put_129 : decode cX6_put 129 = .ok (.dup, 1) := by decide +kernel
theorem dX6_put_130 : decode cX6_put 130 = .ok (.getfield 90, 3) := by decide +kernel
theorem dX6_put_133 : decode cX6_put 133 = .ok (.iconst 1, 1) := by decide +kernel
theorem dX6_put_134 : decode cX6_put 134 = .ok (.iadd, 1) := by decide +kernel
theorem dX6_put_135 : decode cX6_put 135 = .ok (.putfield 90, 3) := by decide +kernel
theorem dX6_put_138 : decode cX6_put 138 = .ok (.aload_n 0, 1) := by decide +kernel
theorem dX6_put_139 : decode cX6_put 139 = .ok (.getfield 33, 3) := by decide +kernel
theorem dX6_put_142 : decode cX6_put 142 = .ok (.aload 7, 2) := by decide +kernel
theorem dX6_put_144 : decode cX6_put 144 = .ok (.invokevirtual 93, 3) := by decide +kernel
theorem dX6_put_147 : decode cX6_put 147 = .ok (.aload_n 0, 1) := by decide +kernel
theorem dX6_put_148 : decode cX6_put 148 = .ok (.getfield 66, 3) := by decide +kernel
theorem dX6_put_151 : decode cX6_put 151 = .ok (.ireturn, 1) := by decide +kernel
theorem dX6_drop_0 : decode cX6_drop 0 = .ok (.iload_n 1, 1) := by decide +kernel
theorem dX6_drop_1 : decode cX6_drop 1 = .ok (.invokestatic 51, 3) := by decide +kernel
theorem dX6_drop_4 : decode cX6_drop 4 = .ok (.ifCond .ne 13, 3) := by decide +kernel
theorem dX6_drop_7 : decode cX6_drop 7 = .ok (.new 59, 3) := by decide +kernel
theorem dX6_drop_10 : decode cX6_drop 10 = .ok (.dup, 1) := by decide +kernel
theorem dX6_drop_11 : decode cX6_drop 11 = .ok (.ldc 96, 2) := by decide +kernel
theorem dX6_drop_13 : decode cX6_drop 13 = .ok (.invokespecial 63, 3) := by decide +kernel
theorem dX6_drop_16 : decode cX6_drop 16 = .ok (.athrow, 1) := by decide +kernel
theorem dX6_drop_17 : decode cX6_drop 17 = .ok (.aload_n 0, 1) := by decide +kernel
theorem dX6_drop_18 : decode cX6_drop 18 = .ok (.getfield 24, 3) := by decide +kernel
theorem dX6_drop_21 : decode cX6_drop 21 = .ok (.iload_n 1, 1) := by decide +kernel
theorem dX6_drop_22 : decode cX6_drop 22 = .ok (.aaload, 1) := by decide +kernel
theorem dX6_drop_23 : decode cX6_drop 23 = .ok (.astore_n 2, 1) := by decide +kernel
theorem dX6_drop_24 : decode cX6_drop 24 = .ok (.aload_n 2, 1) := by decide +kernel
theorem dX6_drop_25 : decode cX6_drop 25 = .ok (.ifnonnull 13, 3) := by decide +kernel
theorem dX6_drop_28 : decode cX6_drop 28 = .ok (.new 69, 3) := by decide +kernel
theorem dX6_drop_31 : decode cX6_drop 31 = .ok (.dup, 1) := by decide +kernel
theorem dX6_drop_32 : decode cX6_drop 32 = .ok (.ldc 98, 2) := by decide +kernel
theorem dX6_drop_34 : decode cX6_drop 34 = .ok (.invokespecial 73, 3) := by decide +kernel
theorem dX6_drop_37 : decode cX6_drop 37 = .ok (.athrow, 1) := by decide +kernel
theorem dX6_drop_38 : decode cX6_drop 38 = .ok (.aload_n 2, 1) := by decide +kernel
theorem dX6_drop_39 : decode cX6_drop 39 = .ok (.iconst 1, 1) := by decide +kernel
theorem dX6_drop_40 : decode cX6_drop 40 = .ok (.putfield 100, 3) := by decide +kernel
theorem dX6_drop_43 : decode cX6_drop 43 = .ok (.aload_n 0, 1) := by decide +kernel
theorem dX6_drop_44 : decode cX6_drop 44 = .ok (.getfield 24, 3) := by decide +kernel
theorem dX6_drop_47 : decode cX6_drop 47 = .ok (.iload_n 1, 1) := by decide +kernel
theorem dX6_drop_48 : decode cX6_drop 48 = .ok (.aconst_null, 1) := by decide +kernel
theorem dX6_drop_49 : decode cX6_drop 49 = .ok (.aastore, 1) := by decide +kernel
theorem dX6_drop_50 : decode cX6_drop 50 = .ok (.aload_n 0, 1) := by decide +kernel
theorem dX6_drop_51 : decode cX6_drop 51 = .ok (.dup, 1) := by decide +kernel
theorem dX6_drop_52 : decode cX6_drop 52 = .ok (.getfield 66, 3) := by decide +kernel
theorem dX6_drop_55 : decode cX6_drop 55 = .ok (.iconst 1, 1) := by decide +kernel
theorem dX6_drop_56 : decode cX6_drop 56 = .ok (.isub, 1) := by decide +kernel
theorem dX6_drop_57 : decode cX6_drop 57 = .ok (.putfield 66, 3) := by decide +kernel
theorem dX6_drop_60 : decode cX6_drop 60 = .ok (.aload_n 0, 1) := by decide +kernel
theorem dX6_drop_61 : decode cX6_drop 61 = .ok (.invokevirtual 104, 3) := by decide +kernel
theorem dX6_drop_64 : decode cX6_drop 64 = .ok (.iconst 2, 1) := by decide +kernel
theorem dX6_drop_65 : decode cX6_drop 65 = .ok (.imul, 1) := by decide +kernel
theorem dX6_drop_66 : decode cX6_drop 66 = .ok (.aload_n 0, 1) := by decide +kernel
theorem dX6_drop_67 : decode cX6_drop 67 = .ok (.getfield 33, 3) := by decide +kernel
theorem dX6_drop_70 : decode cX6_drop 70 = .ok (.invokevirtual 108, 3) := by decide +kernel
theorem dX6_drop_73 : decode cX6_drop 73 = .ok (.if_icmp .le 27, 3) := by decide +kernel
theorem dX6_drop_76 : decode cX6_drop 76 = .ok (.aload_n 0, 1) := by decide +kernel
theorem dX6_drop_77 : decode cX6_drop 77 = .ok (.dup, 1) := by decide +kernel
theorem dX6_drop_78 : decode cX6_drop 78 = .ok (.getfield 111, 3) := by decide +kernel
theorem dX6_drop_81 : decode cX6_drop 81 = .ok (.iconst 1, 1) := by decide +kernel
theorem dX6_drop_82 : decode cX6_drop 82 = .ok (.iadd, 1) := by decide +kernel
theorem dX6_drop_83 : decode cX6_drop 83 = .ok (.putfield 111, 3) := by decide +kernel
theorem dX6_drop_86 : decode cX6_drop 86 = .ok (.aload_n 0, 1) := by decide +kernel
theorem dX6_drop_87 : decode cX6_drop 87 = .ok (.getfield 33, 3) := by decide +kernel
theorem dX6_drop_90 : decode cX6_drop 90 = .ok (.aload_n 0, 1) := by decide +kernel
theorem dX6_drop_91 : decode cX6_drop 91 = .ok (.getfield 33, 3) := by decide +kernel
theorem dX6_drop_94 : decode cX6_drop 94 = .ok (.getfield 114, 3) := by decide +kernel
theorem dX6_drop_97 : decode cX6_drop 97 = .ok (.invokevirtual 93, 3) := by decide +kernel
theorem dX6_drop_100 : decode cX6_drop 100 = .ok (.aload_n 0, 1) := by decide +kernel
theorem dX6_drop_101 : decode cX6_drop 101 = .ok (.getfield 66, 3) := by decide +kernel
theorem dX6_drop_104 : decode cX6_drop 104 = .ok (.ireturn, 1) := by decide +kernel
theorem dX6_at_0 : decode cX6_at 0 = .ok (.iload_n 1, 1) := by decide +kernel
theorem dX6_at_1 : decode cX6_at 1 = .ok (.invokestatic 51, 3) := by decide +kernel
theorem dX6_at_4 : decode cX6_at 4 = .ok (.ifCond .eq 12, 3) := by decide +kernel
theorem dX6_at_7 : decode cX6_at 7 = .ok (.iload_n 2, 1) := by decide +kernel
theorem dX6_at_8 : decode cX6_at 8 = .ok (.ifCond .lt 8, 3) := by decide +kernel
theorem dX6_at_11 : decode cX6_at 11 = .ok (.iload_n 2, 1) := by decide +kernel
theorem dX6_at_12 : decode cX6_at 12 = .ok (.iconst 4, 1) := by decide +kernel
theorem dX6_at_13 : decode cX6_at 13 = .ok (.if_icmp .lt 13, 3) := by decide +kernel
theorem dX6_at_16 : decode cX6_at 16 = .ok (.new 59, 3) := by decide +kernel
theorem dX6_at_19 : decode cX6_at 19 = .ok (.dup, 1) := by decide +kernel
theorem dX6_at_20 : decode cX6_at 20 = .ok (.ldc 118, 2) := by decide +kernel
theorem dX6_at_22 : decode cX6_at 22 = .ok (.invokespecial 63, 3) := by decide +kernel
theorem dX6_at_25 : decode cX6_at 25 = .ok (.athrow, 1) := by decide +kernel
theorem dX6_at_26 : decode cX6_at 26 = .ok (.aload_n 0, 1) := by decide +kernel
theorem dX6_at_27 : decode cX6_at 27 = .ok (.getfield 24, 3) := by decide +kernel
theorem dX6_at_30 : decode cX6_at 30 = .ok (.iload_n 1, 1) := by decide +kernel
theorem dX6_at_31 : decode cX6_at 31 = .ok (.aaload, 1) := by decide +kernel
theorem dX6_at_32 : decode cX6_at 32 = .ok (.astore_n 3, 1) := by decide +kernel
theorem dX6_at_33 : decode cX6_at 33 = .ok (.aload_n 3, 1) := by decide +kernel
theorem dX6_at_34 : decode cX6_at 34 = .ok (.ifnonnull 13, 3) := by decide +kernel
theorem dX6_at_37 : decode cX6_at 37 = .ok (.new 69, 3) := by decide +kernel
theorem dX6_at_40 : decode cX6_at 40 = .ok (.dup, 1) := by decide +kernel
theorem dX6_at_41 : decode cX6_at 41 = .ok (.ldc 120, 2) := by decide +kernel
theorem dX6_at_43 : decode cX6_at 43 = .ok (.invokespecial 73, 3) := by decide +kernel
theorem dX6_at_46 : decode cX6_at 46 = .ok (.athrow, 1) := by decide +kernel
theorem dX6_at_47 : decode cX6_at 47 = .ok (.aload_n 3, 1) := by decide +kernel
theorem dX6_at_48 : decode cX6_at 48 = .ok (.getfield 122, 3) := by decide +kernel
theorem dX6_at_51 : decode cX6_at 51 = .ok (.iload_n 2, 1) := by decide +kernel
theorem dX6_at_52 : decode cX6_at 52 = .ok (.invokevirtual 126, 3) := by decide +kernel
theorem dX6_at_55 : decode cX6_at 55 = .ok (.ireturn, 1) := by decide +kernel
theorem dX6_nearest_0 : decode cX6_nearest 0 = .ok (.iload_n 1, 1) := by decide +kernel
theorem dX6_nearest_1 : decode cX6_nearest 1 = .ok (.ifCond .lt 22, 3) := by decide +kernel
theorem dX6_nearest_4 : decode cX6_nearest 4 = .ok (.iload_n 1, 1) := by decide +kernel
theorem dX6_nearest_5 : decode cX6_nearest 5 = .ok (.bipush 100, 2) := by decide +kernel
theorem dX6_nearest_7 : decode cX6_nearest 7 = .ok (.if_icmp .gt 16, 3) := by decide +kernel
theorem dX6_nearest_10 : decode cX6_nearest 10 = .ok (.aload_n 0, 1) := by decide +kernel
theorem dX6_nearest_11 : decode cX6_nearest 11 = .ok (.iload_n 2, 1) := by decide +kernel
theorem dX6_nearest_12 : decode cX6_nearest 12 = .ok (.iload_n 3, 1) := by decide +kernel
theorem dX6_nearest_13 : decode cX6_nearest 13 = .ok (.iload 4, 2) := by decide +kernel
theorem dX6_nearest_15 : decode cX6_nearest 15 = .ok (.iload 5, 2) := by decide +kernel
theorem dX6_nearest_17 : decode cX6_nearest 17 = .ok (.invokevirtual 55, 3) := by decide +kernel
theorem dX6_nearest_20 : decode cX6_nearest 20 = .ok (.ifCond .ne 13, 3) := by decide +kernel
theorem dX6_nearest_23 : decode cX6_nearest 23 = .ok (.new 59, 3) := by decide +kernel
theorem dX6_nearest_26 : decode cX6_nearest 26 = .ok (.dup, 1) := by decide +kernel
theorem dX6_nearest_27 : decode cX6_nearest 27 = .ok (.ldc 130, 2) := by decide +kernel
theorem dX6_nearest_29 : decode cX6_nearest 29 = .ok (.invokespecial 63, 3) := by decide +kernel
theorem dX6_nearest_32 : decode cX6_nearest 32 = .ok (.athrow, 1) := by decide +kernel
theorem dX6_nearest_33 : decode cX6_nearest 33 = .ok (.aload_n 0, 1) := by decide +kernel
theorem dX6_nearest_34 : decode cX6_nearest 34 = .ok (.getfield 40, 3) := by decide +kernel
theorem dX6_nearest_37 : decode cX6_nearest 37 = .ok (.iload_n 1, 1) := by decide +kernel
theorem dX6_nearest_38 : decode cX6_nearest 38 = .ok (.invokevirtual 132, 3) := by decide +kernel
theorem dX6_nearest_41 : decode cX6_nearest 41 = .ok (.new 135, 3) := by decide +kernel
theorem dX6_nearest_44 : decode cX6_nearest 44 = .ok (.dup, 1) := by decide +kernel
theorem dX6_nearest_45 : decode cX6_nearest 45 = .ok (.new 74, 3) := by decide +kernel
theorem dX6_nearest_48 : decode cX6_nearest 48 = .ok (.dup, 1) := by decide +kernel
theorem dX6_nearest_49 : decode cX6_nearest 49 = .ok (.aload_n 0, 1) := by decide +kernel
theorem dX6_nearest_50 : decode cX6_nearest 50 = .ok (.getfield 18, 3) := by decide +kernel
theorem dX6_nearest_53 : decode cX6_nearest 53 = .ok (.iload_n 2, 1) := by decide +kernel
theorem dX6_nearest_54 : decode cX6_nearest 54 = .ok (.iload_n 3, 1) := by decide +kernel
theorem dX6_nearest_55 : decode cX6_nearest 55 = .ok (.iload 4, 2) := by decide +kernel
theorem dX6_nearest_57 : decode cX6_nearest 57 = .ok (.iload 5, 2) := by decide +kernel
theorem dX6_nearest_59 : decode cX6_nearest 59 = .ok (.invokespecial 76, 3) := by decide +kernel
theorem dX6_nearest_62 : decode cX6_nearest 62 = .ok (.aload_n 0, 1) := by decide +kernel
theorem dX6_nearest_63 : decode cX6_nearest 63 = .ok (.getfield 40, 3) := by decide +kernel
theorem dX6_nearest_66 : decode cX6_nearest 66 = .ok (.invokespecial 137, 3) := by decide +kernel
theorem dX6_nearest_69 : decode cX6_nearest 69 = .ok (.astore 6, 2) := by decide +kernel
theorem dX6_nearest_71 : decode cX6_nearest 71 = .ok (.aload 6, 2) := by decide +kernel
theorem dX6_nearest_73 : decode cX6_nearest 73 = .ok (.aload_n 0, 1) := by decide +kernel
theorem dX6_nearest_74 : decode cX6_nearest 74 = .ok (.getfield 33, 3) := by decide +kernel
theorem dX6_nearest_77 : decode cX6_nearest 77 = .ok (.getfield 114, 3) := by decide +kernel
theorem dX6_nearest_80 : decode cX6_nearest 80 = .ok (.invokevirtual 140, 3) := by decide +kernel
theorem dX6_nearest_83 : decode cX6_nearest 83 = .ok (.aload_n 0, 1) := by decide +kernel
theorem dX6_nearest_84 : decode cX6_nearest 84 = .ok (.aload 6, 2) := by decide +kernel
theorem dX6_nearest_86 : decode cX6_nearest 86 = .ok (.getfield 143, 3) := by decide +kernel
theorem dX6_nearest_89 : decode cX6_nearest 89 = .ok (.putfield 146, 3) := by decide +kernel
theorem dX6_nearest_92 : decode cX6_nearest 92 = .ok (.aload_n 0, 1) := by decide +kernel
theorem dX6_nearest_93 : decode cX6_nearest 93 = .ok (.getfield 40, 3) := by decide +kernel
theorem dX6_nearest_96 : decode cX6_nearest 96 = .ok (.getfield 149, 3) := by decide +kernel
theorem dX6_nearest_99 : decode cX6_nearest 99 = .ok (.ireturn, 1) := by decide +kernel
theorem dX6_within_0 : decode cX6_within 0 = .ok (.lload_n 1, 1) := by decide +kernel
theorem dX6_within_1 : decode cX6_within 1 = .ok (.lconst 0, 1) := by decide +kernel
theorem dX6_within_2 : decode cX6_within 2 = .ok (.lcmp, 1) := by decide +kernel
theorem dX6_within_3 : decode cX6_within 3 = .ok (.ifCond .lt 17, 3) := by decide +kernel
theorem dX6_within_6 : decode cX6_within 6 = .ok (.aload_n 0, 1) := by decide +kernel
theorem dX6_within_7 : decode cX6_within 7 = .ok (.iload_n 3, 1) := by decide +kernel
theorem dX6_within_8 : decode cX6_within 8 = .ok (.iload 4, 2) := by decide +kernel
theorem dX6_within_10 : decode cX6_within 10 = .ok (.iload 5, 2) := by decide +kernel
theorem dX6_within_12 : decode cX6_within 12 = .ok (.iload 6, 2) := by decide +kernel
theorem dX6_within_14 : decode cX6_within 14 = .ok (.invokevirtual 55, 3) := by decide +kernel
theorem dX6_within_17 : decode cX6_within 17 = .ok (.ifCond .ne 13, 3) := by decide +kernel
theorem dX6_within_20 : decode cX6_within 20 = .ok (.new 59, 3) := by decide +kernel
theorem dX6_within_23 : decode cX6_within 23 = .ok (.dup, 1) := by decide +kernel
theorem dX6_within_24 : decode cX6_within 24 = .ok (.ldc 152, 2) := by decide +kernel
theorem dX6_within_26 : decode cX6_within 26 = .ok (.invokespecial 63, 3) := by decide +kernel
theorem dX6_within_29 : decode cX6_within 29 = .ok (.athrow, 1) := by decide +kernel
theorem dX6_within_30 : decode cX6_within 30 = .ok (.new 74, 3) := by decide +kernel
theorem dX6_within_33 : decode cX6_within 33 = .ok (.dup, 1) := by decide +kernel
theorem dX6_within_34 : decode cX6_within 34 = .ok (.aload_n 0, 1) := by decide +kernel
theorem dX6_within_35 : decode cX6_within 35 = .ok (.getfield 18, 3) := by decide +kernel
theorem dX6_within_38 : decode cX6_within 38 = .ok (.iload_n 3, 1) := by decide +kernel
theorem dX6_within_39 : decode cX6_within 39 = .ok (.iload 4, 2) := by decide +kernel
theorem dX6_within_41 : decode cX6_within 41 = .ok (.iload 5, 2) := by decide +kernel
theorem dX6_within_43 : decode cX6_within 43 = .ok (.iload 6, 2) := by decide +kernel
theorem dX6_within_45 : decode cX6_within 45 = .ok (.invokespecial 76, 3) := by decide +kernel
theorem dX6_within_48 : decode cX6_within 48 = .ok (.astore 7, 2) := by decide +kernel
theorem dX6_within_50 : decode cX6_within 50 = .ok (.aload_n 0, 1) := by decide +kernel
theorem dX6_within_51 : decode cX6_within 51 = .ok (.getfield 40, 3) := by decide +kernel
theorem dX6_within_54 : decode cX6_within 54 = .ok (.bipush 60, 2) := by decide +kernel
theorem dX6_within_56 : decode cX6_within 56 = .ok (.invokevirtual 132, 3) := by decide +kernel
theorem dX6_within_59 : decode cX6_within 59 = .ok (.aload_n 0, 1) := by decide +kernel
theorem dX6_within_60 : decode cX6_within 60 = .ok (.getfield 24, 3) := by decide +kernel
theorem dX6_within_63 : decode cX6_within 63 = .ok (.astore 8, 2) := by decide +kernel
theorem dX6_within_65 : decode cX6_within 65 = .ok (.aload 8, 2) := by decide +kernel
theorem dX6_within_67 : decode cX6_within 67 = .ok (.arraylength, 1) := by decide +kernel
theorem dX6_within_68 : decode cX6_within 68 = .ok (.istore 9, 2) := by decide +kernel
theorem dX6_within_70 : decode cX6_within 70 = .ok (.iconst 0, 1) := by decide +kernel
theorem dX6_within_71 : decode cX6_within 71 = .ok (.istore 10, 2) := by decide +kernel
theorem dX6_within_73 : decode cX6_within 73 = .ok (.iload 10, 2) := by decide +kernel
theorem dX6_within_75 : decode cX6_within 75 = .ok (.iload 9, 2) := by decide +kernel
theorem dX6_within_77 : decode cX6_within 77 = .ok (.if_icmp .ge 54, 3) := by decide +kernel
theorem dX6_within_80 : decode cX6_within 80 = .ok (.aload 8, 2) := by decide +kernel
theorem dX6_within_82 : decode cX6_within 82 = .ok (.iload 10, 2) := by decide +kernel
theorem dX6_within_84 : decode cX6_within 84 = .ok (.aaload, 1) := by decide +kernel
theorem dX6_within_85 : decode cX6_within 85 = .ok (.astore 11, 2) := by decide +kernel
theorem dX6_within_87 : decode cX6_within 87 = .ok (.aload 11, 2) := by decide +kernel
theorem dX6_within_89 : decode cX6_within 89 = .ok (.ifnull 36, 3) := by decide +kernel
theorem dX6_within_92 : decode cX6_within 92 = .ok (.aload 11, 2) := by decide +kernel
theorem dX6_within_94 : decode cX6_within 94 = .ok (.getfield 122, 3) := by decide +kernel
theorem dX6_within_97 : decode cX6_within 97 = .ok (.aload 7, 2) := by decide +kernel
theorem dX6_within_99 : decode cX6_within 99 = .ok (.invokevirtual 154, 3) := by decide +kernel
theorem dX6_within_102 : decode cX6_within 102 = .ok (.lstore 12, 2) := by decide +kernel
theorem dX6_within_104 : decode cX6_within 104 = .ok (.lload 12, 2) := by decide +kernel
theorem dX6_within_106 : decode cX6_within 106 = .ok (.lload_n 1, 1) := by decide +kernel
theorem dX6_within_107 : decode cX6_within 107 = .ok (.lcmp, 1) := by decide +kernel
theorem dX6_within_108 : decode cX6_within 108 = .ok (.ifCond .gt 17, 3) := by decide +kernel
theorem dX6_within_111 : decode cX6_within 111 = .ok (.aload_n 0, 1) := by decide +kernel
theorem dX6_within_112 : decode cX6_within 112 = .ok (.getfield 40, 3) := by decide +kernel
theorem dX6_within_115 : decode cX6_within 115 = .ok (.aload 11, 2) := by decide +kernel
theorem dX6_within_117 : decode cX6_within 117 = .ok (.getfield 158, 3) := by decide +kernel
theorem dX6_within_120 : decode cX6_within 120 = .ok (.lload 12, 2) := by decide +kernel
theorem dX6_within_122 : decode cX6_within 122 = .ok (.invokevirtual 161, 3) := by decide +kernel
theorem dX6_within_125 : decode cX6_within 125 = .ok (.iinc 10 1, 3) := by decide +kernel
theorem dX6_within_128 : decode cX6_within 128 = .ok (.goto (-55), 3) := by decide +kernel
theorem dX6_within_131 : decode cX6_within 131 = .ok (.aload_n 0, 1) := by decide +kernel
theorem dX6_within_132 : decode cX6_within 132 = .ok (.getfield 40, 3) := by decide +kernel
theorem dX6_within_135 : decode cX6_within 135 = .ok (.getfield 149, 3) := by decide +kernel
theorem dX6_within_138 : decode cX6_within 138 = .ok (.ireturn, 1) := by decide +kernel
theorem dX6_listed_0 : decode cX6_listed 0 = .ok (.aload_n 0, 1) := by decide +kernel
theorem dX6_listed_1 : decode cX6_listed 1 = .ok (.getfield 40, 3) := by decide +kernel
theorem dX6_listed_4 : decode cX6_listed 4 = .ok (.iload_n 1, 1) := by decide +kernel
theorem dX6_listed_5 : decode cX6_listed 5 = .ok (.invokevirtual 165, 3) := by decide +kernel
theorem dX6_listed_8 : decode cX6_listed 8 = .ok (.ifCond .ne 13, 3) := by decide +kernel
theorem dX6_listed_11 : decode cX6_listed 11 = .ok (.new 168, 3) := by decide +kernel
theorem dX6_listed_14 : decode cX6_listed 14 = .ok (.dup, 1) := by decide +kernel
theorem dX6_listed_15 : decode cX6_listed 15 = .ok (.ldc 170, 2) := by decide +kernel
theorem dX6_listed_17 : decode cX6_listed 17 = .ok (.invokespecial 172, 3) := by decide +kernel
theorem dX6_listed_20 : decode cX6_listed 20 = .ok (.athrow, 1) := by decide +kernel
theorem dX6_listed_21 : decode cX6_listed 21 = .ok (.aload_n 0, 1) := by decide +kernel
theorem dX6_listed_22 : decode cX6_listed 22 = .ok (.getfield 40, 3) := by decide +kernel
theorem dX6_listed_25 : decode cX6_listed 25 = .ok (.getfield 173, 3) := by decide +kernel
theorem dX6_listed_28 : decode cX6_listed 28 = .ok (.iload_n 1, 1) := by decide +kernel
theorem dX6_listed_29 : decode cX6_listed 29 = .ok (.iaload, 1) := by decide +kernel
theorem dX6_listed_30 : decode cX6_listed 30 = .ok (.ireturn, 1) := by decide +kernel
theorem dX6_distance_0 : decode cX6_distance 0 = .ok (.aload_n 0, 1) := by decide +kernel
theorem dX6_distance_1 : decode cX6_distance 1 = .ok (.getfield 40, 3) := by decide +kernel
theorem dX6_distance_4 : decode cX6_distance 4 = .ok (.iload_n 1, 1) := by decide +kernel
theorem dX6_distance_5 : decode cX6_distance 5 = .ok (.invokevirtual 165, 3) := by decide +kernel
theorem dX6_distance_8 : decode cX6_distance 8 = .ok (.ifCond .ne 13, 3) := by decide +kernel
theorem dX6_distance_11 : decode cX6_distance 11 = .ok (.new 168, 3) := by decide +kernel
theorem dX6_distance_14 : decode cX6_distance 14 = .ok (.dup, 1) := by decide +kernel
theorem dX6_distance_15 : decode cX6_distance 15 = .ok (.ldc 177, 2) := by decide +kernel
theorem dX6_distance_17 : decode cX6_distance 17 = .ok (.invokespecial 172, 3) := by decide +kernel
theorem dX6_distance_20 : decode cX6_distance 20 = .ok (.athrow, 1) := by decide +kernel
theorem dX6_distance_21 : decode cX6_distance 21 = .ok (.aload_n 0, 1) := by decide +kernel
theorem dX6_distance_22 : decode cX6_distance 22 = .ok (.getfield 40, 3) := by decide +kernel
theorem dX6_distance_25 : decode cX6_distance 25 = .ok (.getfield 179, 3) := by decide +kernel
theorem dX6_distance_28 : decode cX6_distance 28 = .ok (.iload_n 1, 1) := by decide +kernel
theorem dX6_distance_29 : decode cX6_distance 29 = .ok (.laload, 1) := by decide +kernel
theorem dX6_distance_30 : decode cX6_distance 30 = .ok (.lreturn, 1) := by decide +kernel
theorem dX6_looked_0 : decode cX6_looked 0 = .ok (.aload_n 0, 1) := by decide +kernel
theorem dX6_looked_1 : decode cX6_looked 1 = .ok (.getfield 146, 3) := by decide +kernel
theorem dX6_looked_4 : decode cX6_looked 4 = .ok (.ireturn, 1) := by decide +kernel
theorem dX6_inBox_0 : decode cX6_inBox 0 = .ok (.aload_n 0, 1) := by decide +kernel
theorem dX6_inBox_1 : decode cX6_inBox 1 = .ok (.iload_n 1, 1) := by decide +kernel
theorem dX6_inBox_2 : decode cX6_inBox 2 = .ok (.invokevirtual 183, 3) := by decide +kernel
theorem dX6_inBox_5 : decode cX6_inBox 5 = .ok (.ifCond .eq 12, 3) := by decide +kernel
theorem dX6_inBox_8 : decode cX6_inBox 8 = .ok (.aload_n 0, 1) := by decide +kernel
theorem dX6_inBox_9 : decode cX6_inBox 9 = .ok (.iload 4, 2) := by decide +kernel
theorem dX6_inBox_11 : decode cX6_inBox 11 = .ok (.invokevirtual 183, 3) := by decide +kernel
theorem dX6_inBox_14 : decode cX6_inBox 14 = .ok (.ifCond .ne 13, 3) := by decide +kernel
theorem dX6_inBox_17 : decode cX6_inBox 17 = .ok (.new 59, 3) := by decide +kernel
theorem dX6_inBox_20 : decode cX6_inBox 20 = .ok (.dup, 1) := by decide +kernel
theorem dX6_inBox_21 : decode cX6_inBox 21 = .ok (.ldc 186, 2) := by decide +kernel
theorem dX6_inBox_23 : decode cX6_inBox 23 = .ok (.invokespecial 63, 3) := by decide +kernel
theorem dX6_inBox_26 : decode cX6_inBox 26 = .ok (.athrow, 1) := by decide +kernel
theorem dX6_inBox_27 : decode cX6_inBox 27 = .ok (.iconst 0, 1) := by decide +kernel
theorem dX6_inBox_28 : decode cX6_inBox 28 = .ok (.istore 7, 2) := by decide +kernel
theorem dX6_inBox_30 : decode cX6_inBox 30 = .ok (.aload_n 0, 1) := by decide +kernel
theorem dX6_inBox_31 : decode cX6_inBox 31 = .ok (.getfield 24, 3) := by decide +kernel
theorem dX6_inBox_34 : decode cX6_inBox 34 = .ok (.astore 8, 2) := by decide +kernel
theorem dX6_inBox_36 : decode cX6_inBox 36 = .ok (.aload 8, 2) := by decide +kernel
theorem dX6_inBox_38 : decode cX6_inBox 38 = .ok (.arraylength, 1) := by decide +kernel
theorem dX6_inBox_39 : decode cX6_inBox 39 = .ok (.istore 9, 2) := by decide +kernel
theorem dX6_inBox_41 : decode cX6_inBox 41 = .ok (.iconst 0, 1) := by decide +kernel
theorem dX6_inBox_42 : decode cX6_inBox 42 = .ok (.istore 10, 2) := by decide +kernel
theorem dX6_inBox_44 : decode cX6_inBox 44 = .ok (.iload 10, 2) := by decide +kernel
theorem dX6_inBox_46 : decode cX6_inBox 46 = .ok (.iload 9, 2) := by decide +kernel
theorem dX6_inBox_48 : decode cX6_inBox 48 = .ok (.if_icmp .ge 55, 3) := by decide +kernel
theorem dX6_inBox_51 : decode cX6_inBox 51 = .ok (.aload 8, 2) := by decide +kernel
theorem dX6_inBox_53 : decode cX6_inBox 53 = .ok (.iload 10, 2) := by decide +kernel
theorem dX6_inBox_55 : decode cX6_inBox 55 = .ok (.aaload, 1) := by decide +kernel
theorem dX6_inBox_56 : decode cX6_inBox 56 = .ok (.astore 11, 2) := by decide +kernel
theorem dX6_inBox_58 : decode cX6_inBox 58 = .ok (.aload 11, 2) := by decide +kernel
theorem dX6_inBox_60 : decode cX6_inBox 60 = .ok (.ifnull 37, 3) := by decide +kernel
theorem dX6_inBox_63 : decode cX6_inBox 63 = .ok (.aload 11, 2) := by decide +kernel
theorem dX6_inBox_65 : decode cX6_inBox 65 = .ok (.getfield 122, 3) := by decide +kernel
theorem dX6_inBox_68 : decode cX6_inBox 68 = .ok (.iload_n 1, 1) := by decide +kernel
theorem dX6_inBox_69 : decode cX6_inBox 69 = .ok (.iload_n 2, 1) := by decide +kernel
theorem dX6_inBox_70 : decode cX6_inBox 70 = .ok (.iload_n 3, 1) := by decide +kernel
theorem dX6_inBox_71 : decode cX6_inBox 71 = .ok (.invokevirtual 188, 3) := by decide +kernel
theorem dX6_inBox_74 : decode cX6_inBox 74 = .ok (.ifCond .eq 23, 3) := by decide +kernel
theorem dX6_inBox_77 : decode cX6_inBox 77 = .ok (.aload 11, 2) := by decide +kernel
theorem dX6_inBox_79 : decode cX6_inBox 79 = .ok (.getfield 122, 3) := by decide +kernel
theorem dX6_inBox_82 : decode cX6_inBox 82 = .ok (.iload 4, 2) := by decide +kernel
theorem dX6_inBox_84 : decode cX6_inBox 84 = .ok (.iload 5, 2) := by decide +kernel
theorem dX6_inBox_86 : decode cX6_inBox 86 = .ok (.iload 6, 2) := by decide +kernel
theorem dX6_inBox_88 : decode cX6_inBox 88 = .ok (.invokevirtual 188, 3) := by decide +kernel
theorem dX6_inBox_91 : decode cX6_inBox 91 = .ok (.ifCond .eq 6, 3) := by decide +kernel
theorem dX6_inBox_94 : decode cX6_inBox 94 = .ok (.iinc 7 1, 3) := by decide +kernel
theorem dX6_inBox_97 : decode cX6_inBox 97 = .ok (.iinc 10 1, 3) := by decide +kernel
theorem dX6_inBox_100 : decode cX6_inBox 100 = .ok (.goto (-56), 3) := by decide +kernel
theorem dX6_inBox_103 : decode cX6_inBox 103 = .ok (.iload 7, 2) := by decide +kernel
theorem dX6_inBox_105 : decode cX6_inBox 105 = .ok (.ireturn, 1) := by decide +kernel
theorem dX6_pair_0 : decode cX6_pair 0 = .ok (.iload_n 1, 1) := by decide +kernel
theorem dX6_pair_1 : decode cX6_pair 1 = .ok (.ifCond .lt 8, 3) := by decide +kernel
theorem dX6_pair_4 : decode cX6_pair 4 = .ok (.iload_n 1, 1) := by decide +kernel
theorem dX6_pair_5 : decode cX6_pair 5 = .ok (.iconst 2, 1) := by decide +kernel
theorem dX6_pair_6 : decode cX6_pair 6 = .ok (.if_icmp .le 13, 3) := by decide +kernel
theorem dX6_pair_9 : decode cX6_pair 9 = .ok (.new 59, 3) := by decide +kernel
theorem dX6_pair_12 : decode cX6_pair 12 = .ok (.dup, 1) := by decide +kernel
theorem dX6_pair_13 : decode cX6_pair 13 = .ok (.ldc 192, 2) := by decide +kernel
theorem dX6_pair_15 : decode cX6_pair 15 = .ok (.invokespecial 63, 3) := by decide +kernel
theorem dX6_pair_18 : decode cX6_pair 18 = .ok (.athrow, 1) := by decide +kernel
theorem dX6_pair_19 : decode cX6_pair 19 = .ok (.aload_n 0, 1) := by decide +kernel
theorem dX6_pair_20 : decode cX6_pair 20 = .ok (.getfield 66, 3) := by decide +kernel
theorem dX6_pair_23 : decode cX6_pair 23 = .ok (.iconst 2, 1) := by decide +kernel
theorem dX6_pair_24 : decode cX6_pair 24 = .ok (.if_icmp .ge 13, 3) := by decide +kernel
theorem dX6_pair_27 : decode cX6_pair 27 = .ok (.new 69, 3) := by decide +kernel
theorem dX6_pair_30 : decode cX6_pair 30 = .ok (.dup, 1) := by decide +kernel
theorem dX6_pair_31 : decode cX6_pair 31 = .ok (.ldc 194, 2) := by decide +kernel
theorem dX6_pair_33 : decode cX6_pair 33 = .ok (.invokespecial 73, 3) := by decide +kernel
theorem dX6_pair_36 : decode cX6_pair 36 = .ok (.athrow, 1) := by decide +kernel
theorem dX6_pair_37 : decode cX6_pair 37 = .ok (.aload_n 0, 1) := by decide +kernel
theorem dX6_pair_38 : decode cX6_pair 38 = .ok (.getfield 47, 3) := by decide +kernel
theorem dX6_pair_41 : decode cX6_pair 41 = .ok (.aload_n 0, 1) := by decide +kernel
theorem dX6_pair_42 : decode cX6_pair 42 = .ok (.getfield 24, 3) := by decide +kernel
theorem dX6_pair_45 : decode cX6_pair 45 = .ok (.invokevirtual 196, 3) := by decide +kernel
theorem dX6_pair_48 : decode cX6_pair 48 = .ok (.iload_n 1, 1) := by decide +kernel
theorem dX6_pair_49 : decode cX6_pair 49 = .ok (.lookupswitch 45 #[(0, 27), (1, 36)], 27) := by decide +kernel
theorem dX6_pair_76 : decode cX6_pair 76 = .ok (.aload_n 0, 1) := by decide +kernel
theorem dX6_pair_77 : decode cX6_pair 77 = .ok (.getfield 47, 3) := by decide +kernel
theorem dX6_pair_80 : decode cX6_pair 80 = .ok (.getfield 200, 3) := by decide +kernel
theorem dX6_pair_83 : decode cX6_pair 83 = .ok (.i2l, 1) := by decide +kernel
theorem dX6_pair_84 : decode cX6_pair 84 = .ok (.lreturn, 1) := by decide +kernel
theorem dX6_pair_85 : decode cX6_pair 85 = .ok (.aload_n 0, 1) := by decide +kernel
theorem dX6_pair_86 : decode cX6_pair 86 = .ok (.getfield 47, 3) := by decide +kernel
theorem dX6_pair_89 : decode cX6_pair 89 = .ok (.getfield 203, 3) := by decide +kernel
theorem dX6_pair_92 : decode cX6_pair 92 = .ok (.i2l, 1) := by decide +kernel
theorem dX6_pair_93 : decode cX6_pair 93 = .ok (.lreturn, 1) := by decide +kernel
theorem dX6_pair_94 : decode cX6_pair 94 = .ok (.aload_n 0, 1) := by decide +kernel
theorem dX6_pair_95 : decode cX6_pair 95 = .ok (.getfield 47, 3) := by decide +kernel
theorem dX6_pair_98 : decode cX6_pair 98 = .ok (.getfield 206, 3) := by decide +kernel
theorem dX6_pair_101 : decode cX6_pair 101 = .ok (.lreturn, 1) := by decide +kernel
theorem dX6_parts_0 : decode cX6_parts 0 = .ok (.lload_n 1, 1) := by decide +kernel
theorem dX6_parts_1 : decode cX6_parts 1 = .ok (.lconst 0, 1) := by decide +kernel
theorem dX6_parts_2 : decode cX6_parts 2 = .ok (.lcmp, 1) := by decide +kernel
theorem dX6_parts_3 : decode cX6_parts 3 = .ok (.ifCond .ge 13, 3) := by decide +kernel
theorem dX6_parts_6 : decode cX6_parts 6 = .ok (.new 59, 3) := by decide +kernel
theorem dX6_parts_9 : decode cX6_parts 9 = .ok (.dup, 1) := by decide +kernel
theorem dX6_parts_10 : decode cX6_parts 10 = .ok (.ldc 210, 2) := by decide +kernel
theorem dX6_parts_12 : decode cX6_parts 12 = .ok (.invokespecial 63, 3) := by decide +kernel
theorem dX6_parts_15 : decode cX6_parts 15 = .ok (.athrow, 1) := by decide +kernel
theorem dX6_parts_16 : decode cX6_parts 16 = .ok (.aload_n 0, 1) := by decide +kernel
theorem dX6_parts_17 : decode cX6_parts 17 = .ok (.getfield 47, 3) := by decide +kernel
theorem dX6_parts_20 : decode cX6_parts 20 = .ok (.aload_n 0, 1) := by decide +kernel
theorem dX6_parts_21 : decode cX6_parts 21 = .ok (.getfield 24, 3) := by decide +kernel
theorem dX6_parts_24 : decode cX6_parts 24 = .ok (.invokevirtual 212, 3) := by decide +kernel
theorem dX6_parts_27 : decode cX6_parts 27 = .ok (.aload_n 0, 1) := by decide +kernel
theorem dX6_parts_28 : decode cX6_parts 28 = .ok (.getfield 47, 3) := by decide +kernel
theorem dX6_parts_31 : decode cX6_parts 31 = .ok (.lload_n 1, 1) := by decide +kernel
theorem dX6_parts_32 : decode cX6_parts 32 = .ok (.invokevirtual 215, 3) := by decide +kernel
theorem dX6_parts_35 : decode cX6_parts 35 = .ok (.ireturn, 1) := by decide +kernel
theorem dX6_span_0 : decode cX6_span 0 = .ok (.aload_n 0, 1) := by decide +kernel
theorem dX6_span_1 : decode cX6_span 1 = .ok (.getfield 47, 3) := by decide +kernel
theorem dX6_span_4 : decode cX6_span 4 = .ok (.aload_n 0, 1) := by decide +kernel
theorem dX6_span_5 : decode cX6_span 5 = .ok (.getfield 24, 3) := by decide +kernel
theorem dX6_span_8 : decode cX6_span 8 = .ok (.invokevirtual 212, 3) := by decide +kernel
theorem dX6_span_11 : decode cX6_span 11 = .ok (.aload_n 0, 1) := by decide +kernel
theorem dX6_span_12 : decode cX6_span 12 = .ok (.getfield 47, 3) := by decide +kernel
theorem dX6_span_15 : decode cX6_span 15 = .ok (.invokevirtual 219, 3) := by decide +kernel
theorem dX6_span_18 : decode cX6_span 18 = .ok (.lreturn, 1) := by decide +kernel
theorem dX6_node_0 : decode cX6_node 0 = .ok (.iload_n 1, 1) := by decide +kernel
theorem dX6_node_1 : decode cX6_node 1 = .ok (.invokestatic 51, 3) := by decide +kernel
theorem dX6_node_4 : decode cX6_node 4 = .ok (.ifCond .eq 12, 3) := by decide +kernel
theorem dX6_node_7 : decode cX6_node 7 = .ok (.iload_n 2, 1) := by decide +kernel
theorem dX6_node_8 : decode cX6_node 8 = .ok (.ifCond .lt 8, 3) := by decide +kernel
theorem dX6_node_11 : decode cX6_node 11 = .ok (.iload_n 2, 1) := by decide +kernel
theorem dX6_node_12 : decode cX6_node 12 = .ok (.iconst 4, 1) := by decide +kernel
theorem dX6_node_13 : decode cX6_node 13 = .ok (.if_icmp .le 13, 3) := by decide +kernel
theorem dX6_node_16 : decode cX6_node 16 = .ok (.new 59, 3) := by decide +kernel
theorem dX6_node_19 : decode cX6_node 19 = .ok (.dup, 1) := by decide +kernel
theorem dX6_node_20 : decode cX6_node 20 = .ok (.ldc 223, 2) := by decide +kernel
theorem dX6_node_22 : decode cX6_node 22 = .ok (.invokespecial 63, 3) := by decide +kernel
theorem dX6_node_25 : decode cX6_node 25 = .ok (.athrow, 1) := by decide +kernel
theorem dX6_node_26 : decode cX6_node 26 = .ok (.aload_n 0, 1) := by decide +kernel
theorem dX6_node_27 : decode cX6_node 27 = .ok (.getfield 24, 3) := by decide +kernel
theorem dX6_node_30 : decode cX6_node 30 = .ok (.iload_n 1, 1) := by decide +kernel
theorem dX6_node_31 : decode cX6_node 31 = .ok (.aaload, 1) := by decide +kernel
theorem dX6_node_32 : decode cX6_node 32 = .ok (.astore_n 3, 1) := by decide +kernel
theorem dX6_node_33 : decode cX6_node 33 = .ok (.aload_n 3, 1) := by decide +kernel
theorem dX6_node_34 : decode cX6_node 34 = .ok (.ifnonnull 13, 3) := by decide +kernel
theorem dX6_node_37 : decode cX6_node 37 = .ok (.new 69, 3) := by decide +kernel
theorem dX6_node_40 : decode cX6_node 40 = .ok (.dup, 1) := by decide +kernel
theorem dX6_node_41 : decode cX6_node 41 = .ok (.ldc 225, 2) := by decide +kernel
theorem dX6_node_43 : decode cX6_node 43 = .ok (.invokespecial 73, 3) := by decide +kernel
theorem dX6_node_46 : decode cX6_node 46 = .ok (.athrow, 1) := by decide +kernel
theorem dX6_node_47 : decode cX6_node 47 = .ok (.aload_n 3, 1) := by decide +kernel
theorem dX6_node_48 : decode cX6_node 48 = .ok (.getfield 227, 3) := by decide +kernel
theorem dX6_node_51 : decode cX6_node 51 = .ok (.astore 4, 2) := by decide +kernel
theorem dX6_node_53 : decode cX6_node 53 = .ok (.iload_n 2, 1) := by decide +kernel
theorem dX6_node_54 : decode cX6_node 54 = .ok (.tableswitch 74 0 3 #[30, 35, 40, 55], 30) := by decide +kernel
theorem dX6_node_84 : decode cX6_node 84 = .ok (.aload_n 3, 1) := by decide +kernel
theorem dX6_node_85 : decode cX6_node 85 = .ok (.getfield 230, 3) := by decide +kernel
theorem dX6_node_88 : decode cX6_node 88 = .ok (.ireturn, 1) := by decide +kernel
theorem dX6_node_89 : decode cX6_node 89 = .ok (.aload_n 3, 1) := by decide +kernel
theorem dX6_node_90 : decode cX6_node 90 = .ok (.getfield 233, 3) := by decide +kernel
theorem dX6_node_93 : decode cX6_node 93 = .ok (.ireturn, 1) := by decide +kernel
theorem dX6_node_94 : decode cX6_node 94 = .ok (.aload 4, 2) := by decide +kernel
theorem dX6_node_96 : decode cX6_node 96 = .ok (.ifnonnull 7, 3) := by decide +kernel
theorem dX6_node_99 : decode cX6_node 99 = .ok (.iconst (-1), 1) := by decide +kernel
theorem dX6_node_100 : decode cX6_node 100 = .ok (.goto 8, 3) := by decide +kernel
theorem dX6_node_103 : decode cX6_node 103 = .ok (.aload 4, 2) := by decide +kernel
theorem dX6_node_105 : decode cX6_node 105 = .ok (.getfield 158, 3) := by decide +kernel
theorem dX6_node_108 : decode cX6_node 108 = .ok (.ireturn, 1) := by decide +kernel
theorem dX6_node_109 : decode cX6_node 109 = .ok (.aload 4, 2) := by decide +kernel
theorem dX6_node_111 : decode cX6_node 111 = .ok (.ifnull 15, 3) := by decide +kernel
theorem dX6_node_114 : decode cX6_node 114 = .ok (.aload 4, 2) := by decide +kernel
theorem dX6_node_116 : decode cX6_node 116 = .ok (.getfield 100, 3) := by decide +kernel
theorem dX6_node_119 : decode cX6_node 119 = .ok (.ifCond .eq 7, 3) := by decide +kernel
theorem dX6_node_122 : decode cX6_node 122 = .ok (.iconst 1, 1) := by decide +kernel
theorem dX6_node_123 : decode cX6_node 123 = .ok (.goto 4, 3) := by decide +kernel
theorem dX6_node_126 : decode cX6_node 126 = .ok (.iconst 0, 1) := by decide +kernel
theorem dX6_node_127 : decode cX6_node 127 = .ok (.ireturn, 1) := by decide +kernel
theorem dX6_node_128 : decode cX6_node 128 = .ok (.aload 4, 2) := by decide +kernel
theorem dX6_node_130 : decode cX6_node 130 = .ok (.ifnull 16, 3) := by decide +kernel
theorem dX6_node_133 : decode cX6_node 133 = .ok (.aload 4, 2) := by decide +kernel
theorem dX6_node_135 : decode cX6_node 135 = .ok (.getfield 234, 3) := by decide +kernel
theorem dX6_node_138 : decode cX6_node 138 = .ok (.aload_n 3, 1) := by decide +kernel
theorem dX6_node_139 : decode cX6_node 139 = .ok (.if_acmp .ne 7, 3) := by decide +kernel
theorem dX6_node_142 : decode cX6_node 142 = .ok (.iconst 1, 1) := by decide +kernel
theorem dX6_node_143 : decode cX6_node 143 = .ok (.goto 4, 3) := by decide +kernel
theorem dX6_node_146 : decode cX6_node 146 = .ok (.iconst 0, 1) := by decide +kernel
theorem dX6_node_147 : decode cX6_node 147 = .ok (.ireturn, 1) := by decide +kernel
theorem dX6_walk_0 : decode cX6_walk 0 = .ok (.iload_n 1, 1) := by decide +kernel
theorem dX6_walk_1 : decode cX6_walk 1 = .ok (.ifCond .ge 7, 3) := by decide +kernel
theorem dX6_walk_4 : decode cX6_walk 4 = .ok (.aconst_null, 1) := by decide +kernel
theorem dX6_walk_5 : decode cX6_walk 5 = .ok (.goto 14, 3) := by decide +kernel
theorem dX6_walk_8 : decode cX6_walk 8 = .ok (.aload_n 0, 1) := by decide +kernel
theorem dX6_walk_9 : decode cX6_walk 9 = .ok (.getfield 33, 3) := by decide +kernel
theorem dX6_walk_12 : decode cX6_walk 12 = .ok (.getfield 114, 3) := by decide +kernel
theorem dX6_walk_15 : decode cX6_walk 15 = .ok (.iload_n 1, 1) := by decide +kernel
theorem dX6_walk_16 : decode cX6_walk 16 = .ok (.invokestatic 237, 3) := by decide +kernel
theorem dX6_walk_19 : decode cX6_walk 19 = .ok (.astore_n 2, 1) := by decide +kernel
theorem dX6_walk_20 : decode cX6_walk 20 = .ok (.aload_n 2, 1) := by decide +kernel
theorem dX6_walk_21 : decode cX6_walk 21 = .ok (.ifnonnull 13, 3) := by decide +kernel
theorem dX6_walk_24 : decode cX6_walk 24 = .ok (.new 168, 3) := by decide +kernel
theorem dX6_walk_27 : decode cX6_walk 27 = .ok (.dup, 1) := by decide +kernel
theorem dX6_walk_28 : decode cX6_walk 28 = .ok (.ldc 241, 2) := by decide +kernel
theorem dX6_walk_30 : decode cX6_walk 30 = .ok (.invokespecial 172, 3) := by decide +kernel
theorem dX6_walk_33 : decode cX6_walk 33 = .ok (.athrow, 1) := by decide +kernel
theorem dX6_walk_34 : decode cX6_walk 34 = .ok (.aload_n 2, 1) := by decide +kernel
theorem dX6_walk_35 : decode cX6_walk 35 = .ok (.getfield 100, 3) := by decide +kernel
theorem dX6_walk_38 : decode cX6_walk 38 = .ok (.ifCond .eq 13, 3) := by decide +kernel
theorem dX6_walk_41 : decode cX6_walk 41 = .ok (.aload_n 2, 1) := by decide +kernel
theorem dX6_walk_42 : decode cX6_walk 42 = .ok (.getfield 158, 3) := by decide +kernel
theorem dX6_walk_45 : decode cX6_walk 45 = .ok (.bipush 100, 2) := by decide +kernel
theorem dX6_walk_47 : decode cX6_walk 47 = .ok (.isub, 1) := by decide +kernel
theorem dX6_walk_48 : decode cX6_walk 48 = .ok (.goto 7, 3) := by decide +kernel
theorem dX6_walk_51 : decode cX6_walk 51 = .ok (.aload_n 2, 1) := by decide +kernel
theorem dX6_walk_52 : decode cX6_walk 52 = .ok (.getfield 158, 3) := by decide +kernel
theorem dX6_walk_55 : decode cX6_walk 55 = .ok (.ireturn, 1) := by decide +kernel
theorem dX6_count_0 : decode cX6_count 0 = .ok (.iload_n 1, 1) := by decide +kernel
theorem dX6_count_1 : decode cX6_count 1 = .ok (.tableswitch 96 0 7 #[47, 52, 57, 65, 70, 78, 83, 88], 47) := by decide +kernel
theorem dX6_count_48 : decode cX6_count 48 = .ok (.aload_n 0, 1) := by decide +kernel
theorem dX6_count_49 : decode cX6_count 49 = .ok (.getfield 18, 3) := by decide +kernel
theorem dX6_count_52 : decode cX6_count 52 = .ok (.ireturn, 1) := by decide +kernel
theorem dX6_count_53 : decode cX6_count 53 = .ok (.aload_n 0, 1) := by decide +kernel
theorem dX6_count_54 : decode cX6_count 54 = .ok (.getfield 66, 3) := by decide +kernel
theorem dX6_count_57 : decode cX6_count 57 = .ok (.ireturn, 1) := by decide +kernel
theorem dX6_count_58 : decode cX6_count 58 = .ok (.aload_n 0, 1) := by decide +kernel
theorem dX6_count_59 : decode cX6_count 59 = .ok (.getfield 33, 3) := by decide +kernel
theorem dX6_count_62 : decode cX6_count 62 = .ok (.invokevirtual 108, 3) := by decide +kernel
theorem dX6_count_65 : decode cX6_count 65 = .ok (.ireturn, 1) := by decide +kernel
theorem dX6_count_66 : decode cX6_count 66 = .ok (.aload_n 0, 1) := by decide +kernel
theorem dX6_count_67 : decode cX6_count 67 = .ok (.invokevirtual 104, 3) := by decide +kernel
theorem dX6_count_70 : decode cX6_count 70 = .ok (.ireturn, 1) := by decide +kernel
theorem dX6_count_71 : decode cX6_count 71 = .ok (.aload_n 0, 1) := by decide +kernel
theorem dX6_count_72 : decode cX6_count 72 = .ok (.getfield 33, 3) := by decide +kernel
theorem dX6_count_75 : decode cX6_count 75 = .ok (.invokevirtual 243, 3) := by decide +kernel
theorem dX6_count_78 : decode cX6_count 78 = .ok (.ireturn, 1) := by decide +kernel
theorem dX6_count_79 : decode cX6_count 79 = .ok (.aload_n 0, 1) := by decide +kernel
theorem dX6_count_80 : decode cX6_count 80 = .ok (.getfield 90, 3) := by decide +kernel
theorem dX6_count_83 : decode cX6_count 83 = .ok (.ireturn, 1) := by decide +kernel
theorem dX6_count_84 : decode cX6_count 84 = .ok (.aload_n 0, 1) := by decide +kernel
theorem dX6_count_85 : decode cX6_count 85 = .ok (.getfield 111, 3) := by decide +kernel
theorem dX6_count_88 : decode cX6_count 88 = .ok (.ireturn, 1) := by decide +kernel
theorem dX6_count_89 : decode cX6_count 89 = .ok (.aload_n 0, 1) := by decide +kernel
theorem dX6_count_90 : decode cX6_count 90 = .ok (.getfield 33, 3) := by decide +kernel
theorem dX6_count_93 : decode cX6_count 93 = .ok (.getfield 246, 3) := by decide +kernel
theorem dX6_count_96 : decode cX6_count 96 = .ok (.ireturn, 1) := by decide +kernel
theorem dX6_count_97 : decode cX6_count 97 = .ok (.new 59, 3) := by decide +kernel
theorem dX6_count_100 : decode cX6_count 100 = .ok (.dup, 1) := by decide +kernel
theorem dX6_count_101 : decode cX6_count 101 = .ok (.ldc 249, 2) := by decide +kernel
theorem dX6_count_103 : decode cX6_count 103 = .ok (.invokespecial 63, 3) := by decide +kernel
theorem dX6_count_106 : decode cX6_count 106 = .ok (.athrow, 1) := by decide +kernel
theorem dX6_isId_0 : decode cX6_isId 0 = .ok (.iload_n 0, 1) := by decide +kernel
theorem dX6_isId_1 : decode cX6_isId 1 = .ok (.ifCond .lt 13, 3) := by decide +kernel
theorem dX6_isId_4 : decode cX6_isId 4 = .ok (.iload_n 0, 1) := by decide +kernel
theorem dX6_isId_5 : decode cX6_isId 5 = .ok (.bipush 100, 2) := by decide +kernel
theorem dX6_isId_7 : decode cX6_isId 7 = .ok (.if_icmp .ge 7, 3) := by decide +kernel
theorem dX6_isId_10 : decode cX6_isId 10 = .ok (.iconst 1, 1) := by decide +kernel
theorem dX6_isId_11 : decode cX6_isId 11 = .ok (.goto 4, 3) := by decide +kernel
theorem dX6_isId_14 : decode cX6_isId 14 = .ok (.iconst 0, 1) := by decide +kernel
theorem dX6_isId_15 : decode cX6_isId 15 = .ok (.ireturn, 1) := by decide +kernel
theorem dX6_isCountingAxis_0 : decode cX6_isCountingAxis 0 = .ok (.iload_n 1, 1) := by decide +kernel
theorem dX6_isCountingAxis_1 : decode cX6_isCountingAxis 1 = .ok (.ifCond .lt 15, 3) := by decide +kernel
theorem dX6_isCountingAxis_4 : decode cX6_isCountingAxis 4 = .ok (.iload_n 1, 1) := by decide +kernel
theorem dX6_isCountingAxis_5 : decode cX6_isCountingAxis 5 = .ok (.aload_n 0, 1) := by decide +kernel
theorem dX6_isCountingAxis_6 : decode cX6_isCountingAxis 6 = .ok (.getfield 18, 3) := by decide +kernel
theorem dX6_isCountingAxis_9 : decode cX6_isCountingAxis 9 = .ok (.if_icmp .ge 7, 3) := by decide +kernel
theorem dX6_isCountingAxis_12 : decode cX6_isCountingAxis 12 = .ok (.iconst 1, 1) := by decide +kernel
theorem dX6_isCountingAxis_13 : decode cX6_isCountingAxis 13 = .ok (.goto 4, 3) := by decide +kernel
theorem dX6_isCountingAxis_16 : decode cX6_isCountingAxis 16 = .ok (.iconst 0, 1) := by decide +kernel
theorem dX6_isCountingAxis_17 : decode cX6_isCountingAxis 17 = .ok (.ireturn, 1) := by decide +kernel
theorem dX6_isPlace_0 : decode cX6_isPlace 0 = .ok (.iload_n 1, 1) := by decide +kernel
theorem dX6_isPlace_1 : decode cX6_isPlace 1 = .ok (.invokestatic 251, 3) := by decide +kernel
theorem dX6_isPlace_4 : decode cX6_isPlace 4 = .ok (.ifCond .eq 53, 3) := by decide +kernel
theorem dX6_isPlace_7 : decode cX6_isPlace 7 = .ok (.aload_n 0, 1) := by decide +kernel
theorem dX6_isPlace_8 : decode cX6_isPlace 8 = .ok (.getfield 18, 3) := by decide +kernel
theorem dX6_isPlace_11 : decode cX6_isPlace 11 = .ok (.iconst 2, 1) := by decide +kernel
theorem dX6_isPlace_12 : decode cX6_isPlace 12 = .ok (.if_icmp .lt 10, 3) := by decide +kernel
theorem dX6_isPlace_15 : decode cX6_isPlace 15 = .ok (.iload_n 2, 1) := by decide +kernel
theorem dX6_isPlace_16 : decode cX6_isPlace 16 = .ok (.invokestatic 251, 3) := by decide +kernel
theorem dX6_isPlace_19 : decode cX6_isPlace 19 = .ok (.ifCond .eq 38, 3) := by decide +kernel
theorem dX6_isPlace_22 : decode cX6_isPlace 22 = .ok (.aload_n 0, 1) := by decide +kernel
theorem dX6_isPlace_23 : decode cX6_isPlace 23 = .ok (.getfield 18, 3) := by decide +kernel
theorem dX6_isPlace_26 : decode cX6_isPlace 26 = .ok (.iconst 3, 1) := by decide +kernel
theorem dX6_isPlace_27 : decode cX6_isPlace 27 = .ok (.if_icmp .lt 10, 3) := by decide +kernel
theorem dX6_isPlace_30 : decode cX6_isPlace 30 = .ok (.iload_n 3, 1) := by decide +kernel
theorem dX6_isPlace_31 : decode cX6_isPlace 31 = .ok (.invokestatic 251, 3) := by decide +kernel
theorem dX6_isPlace_34 : decode cX6_isPlace 34 = .ok (.ifCond .eq 23, 3) := by decide +kernel
theorem dX6_isPlace_37 : decode cX6_isPlace 37 = .ok (.aload_n 0, 1) := by decide +kernel
theorem dX6_isPlace_38 : decode cX6_isPlace 38 = .ok (.getfield 18, 3) := by decide +kernel
theorem dX6_isPlace_41 : decode cX6_isPlace 41 = .ok (.iconst 4, 1) := by decide +kernel
theorem dX6_isPlace_42 : decode cX6_isPlace 42 = .ok (.if_icmp .lt 11, 3) := by decide +kernel
theorem dX6_isPlace_45 : decode cX6_isPlace 45 = .ok (.iload 4, 2) := by decide +kernel
theorem dX6_isPlace_47 : decode cX6_isPlace 47 = .ok (.invokestatic 251, 3) := by decide +kernel
theorem dX6_isPlace_50 : decode cX6_isPlace 50 = .ok (.ifCond .eq 7, 3) := by decide +kernel
theorem dX6_isPlace_53 : decode cX6_isPlace 53 = .ok (.iconst 1, 1) := by decide +kernel
theorem dX6_isPlace_54 : decode cX6_isPlace 54 = .ok (.goto 4, 3) := by decide +kernel
theorem dX6_isPlace_57 : decode cX6_isPlace 57 = .ok (.iconst 0, 1) := by decide +kernel
theorem dX6_isPlace_58 : decode cX6_isPlace 58 = .ok (.ireturn, 1) := by decide +kernel
theorem dX6_isNumber_0 : decode cX6_isNumber 0 = .ok (.iload_n 0, 1) := by decide +kernel
theorem dX6_isNumber_1 : decode cX6_isNumber 1 = .ok (.sipush (-10000), 3) := by decide +kernel
theorem dX6_isNumber_4 : decode cX6_isNumber 4 = .ok (.if_icmp .lt 14, 3) := by decide +kernel
theorem dX6_isNumber_7 : decode cX6_isNumber 7 = .ok (.iload_n 0, 1) := by decide +kernel
theorem dX6_isNumber_8 : decode cX6_isNumber 8 = .ok (.sipush 10000, 3) := by decide +kernel
theorem dX6_isNumber_11 : decode cX6_isNumber 11 = .ok (.if_icmp .gt 7, 3) := by decide +kernel
theorem dX6_isNumber_14 : decode cX6_isNumber 14 = .ok (.iconst 1, 1) := by decide +kernel
theorem dX6_isNumber_15 : decode cX6_isNumber 15 = .ok (.goto 4, 3) := by decide +kernel
theorem dX6_isNumber_18 : decode cX6_isNumber 18 = .ok (.iconst 0, 1) := by decide +kernel
theorem dX6_isNumber_19 : decode cX6_isNumber 19 = .ok (.ireturn, 1) := by decide +kernel
theorem dX6_deadCount_0 : decode cX6_deadCount 0 = .ok (.aload_n 0, 1) := by decide +kernel
theorem dX6_deadCount_1 : decode cX6_deadCount 1 = .ok (.getfield 33, 3) := by decide +kernel
theorem dX6_deadCount_4 : decode cX6_deadCount 4 = .ok (.invokevirtual 108, 3) := by decide +kernel
theorem dX6_deadCount_7 : decode cX6_deadCount 7 = .ok (.aload_n 0, 1) := by decide +kernel
theorem dX6_deadCount_8 : decode cX6_deadCount 8 = .ok (.getfield 66, 3) := by decide +kernel
theorem dX6_deadCount_11 : decode cX6_deadCount 11 = .ok (.isub, 1) := by decide +kernel
theorem dX6_deadCount_12 : decode cX6_deadCount 12 = .ok (.ireturn, 1) := by decide +kernel
theorem dJ9_max_7cf53_0 : decode cJ9_max_7cf53 0 = .ok (.iload_n 0, 1) := by decide +kernel
theorem dJ9_max_7cf53_1 : decode cJ9_max_7cf53 1 = .ok (.iload_n 1, 1) := by decide +kernel
theorem dJ9_max_7cf53_2 : decode cJ9_max_7cf53 2 = .ok (.if_icmp .lt 7, 3) := by decide +kernel
theorem dJ9_max_7cf53_5 : decode cJ9_max_7cf53 5 = .ok (.iload_n 0, 1) := by decide +kernel
theorem dJ9_max_7cf53_6 : decode cJ9_max_7cf53 6 = .ok (.goto 4, 3) := by decide +kernel
theorem dJ9_max_7cf53_9 : decode cJ9_max_7cf53 9 = .ok (.iload_n 1, 1) := by decide +kernel
theorem dJ9_max_7cf53_10 : decode cJ9_max_7cf53 10 = .ok (.ireturn, 1) := by decide +kernel
theorem dJ9_min_7cf53_0 : decode cJ9_min_7cf53 0 = .ok (.iload_n 0, 1) := by decide +kernel
theorem dJ9_min_7cf53_1 : decode cJ9_min_7cf53 1 = .ok (.iload_n 1, 1) := by decide +kernel
theorem dJ9_min_7cf53_2 : decode cJ9_min_7cf53 2 = .ok (.if_icmp .gt 7, 3) := by decide +kernel
theorem dJ9_min_7cf53_5 : decode cJ9_min_7cf53 5 = .ok (.iload_n 0, 1) := by decide +kernel
theorem dJ9_min_7cf53_6 : decode cJ9_min_7cf53 6 = .ok (.goto 4, 3) := by decide +kernel
theorem dJ9_min_7cf53_9 : decode cJ9_min_7cf53 9 = .ok (.iload_n 1, 1) := by decide +kernel
theorem dJ9_min_7cf53_10 : decode cJ9_min_7cf53 10 = .ok (.ireturn, 1) := by decide +kernel
theorem dJ9_min_f86c9_0 : decode cJ9_min_f86c9 0 = .ok (.lload_n 0, 1) := by decide +kernel
theorem dJ9_min_f86c9_1 : decode cJ9_min_f86c9 1 = .ok (.lload_n 2, 1) := by decide +kernel
theorem dJ9_min_f86c9_2 : decode cJ9_min_f86c9 2 = .ok (.lcmp, 1) := by decide +kernel
theorem dJ9_min_f86c9_3 : decode cJ9_min_f86c9 3 = .ok (.ifCond .gt 7, 3) := by decide +kernel
theorem dJ9_min_f86c9_6 : decode cJ9_min_f86c9 6 = .ok (.lload_n 0, 1) := by decide +kernel
theorem dJ9_min_f86c9_7 : decode cJ9_min_f86c9 7 = .ok (.goto 4, 3) := by decide +kernel
theorem dJ9_min_f86c9_10 : decode cJ9_min_f86c9 10 = .ok (.lload_n 2, 1) := by decide +kernel
theorem dJ9_min_f86c9_11 : decode cJ9_min_f86c9 11 = .ok (.lreturn, 1) := by decide +kernel
end
section
theorem dX7_thrown_0 : decode cX7_thrown 0 = .ok (.aload_n 0, 1) := by decide +kernel
theorem dX7_thrown_1 : decode cX7_thrown 1 = .ok (.getfield 1, 3) := by decide +kernel
theorem dX7_thrown_4 : decode cX7_thrown 4 = .ok (.ireturn, 1) := by decide +kernel
theorem dX7_in_0 : decode cX7_in 0 = .ok (.lload_n 0, 1) := by decide +kernel
theorem dX7_in_1 : decode cX7_in 1 = .ok (.lload_n 2, 1) := by decide +kernel
theorem dX7_in_2 : decode cX7_in 2 = .ok (.lcmp, 1) := by decide +kernel
theorem dX7_in_3 : decode cX7_in 3 = .ok (.ifCond .lt 14, 3) := by decide +kernel
theorem dX7_in_6 : decode cX7_in 6 = .ok (.lload_n 0, 1) := by decide +kernel
theorem dX7_in_7 : decode cX7_in 7 = .ok (.lload 4, 2) := by decide +kernel
theorem dX7_in_9 : decode cX7_in 9 = .ok (.lcmp, 1) := by decide +kernel
theorem dX7_in_10 : decode cX7_in 10 = .ok (.ifCond .gt 7, 3) := by decide +kernel
theorem dX7_in_13 : decode cX7_in 13 = .ok (.iconst 1, 1) := by decide +kernel
theorem dX7_in_14 : decode cX7_in 14 = .ok (.goto 4, 3) := by decide +kernel
theorem dX7_in_17 : decode cX7_in 17 = .ok (.iconst 0, 1) := by decide +kernel
theorem dX7_in_18 : decode cX7_in 18 = .ok (.ireturn, 1) := by decide +kernel
theorem dX7_init_0 : decode cX7_init 0 = .ok (.aload_n 0, 1) := by decide +kernel
theorem dX7_init_1 : decode cX7_init 1 = .ok (.invokespecial 7, 3) := by decide +kernel
theorem dX7_init_4 : decode cX7_init 4 = .ok (.aload_n 0, 1) := by decide +kernel
theorem dX7_init_5 : decode cX7_init 5 = .ok (.bipush 100, 2) := by decide +kernel
theorem dX7_init_7 : decode cX7_init 7 = .ok (.newarray .boolean, 2) := by decide +kernel
theorem dX7_init_9 : decode cX7_init 9 = .ok (.putfield 13, 3) := by decide +kernel
theorem dX7_init_12 : decode cX7_init 12 = .ok (.aload_n 0, 1) := by decide +kernel
theorem dX7_init_13 : decode cX7_init 13 = .ok (.sipush 400, 3) := by decide +kernel
theorem dX7_init_16 : decode cX7_init 16 = .ok (.newarray .int, 2) := by decide +kernel
theorem dX7_init_18 : decode cX7_init 18 = .ok (.putfield 17, 3) := by decide +kernel
theorem dX7_init_21 : decode cX7_init 21 = .ok (.aload_n 0, 1) := by decide +kernel
theorem dX7_init_22 : decode cX7_init 22 = .ok (.bipush 100, 2) := by decide +kernel
theorem dX7_init_24 : decode cX7_init 24 = .ok (.newarray .int, 2) := by decide +kernel
theorem dX7_init_26 : decode cX7_init 26 = .ok (.putfield 21, 3) := by decide +kernel
theorem dX7_init_29 : decode cX7_init 29 = .ok (.aload_n 0, 1) := by decide +kernel
theorem dX7_init_30 : decode cX7_init 30 = .ok (.sipush 140, 3) := by decide +kernel
theorem dX7_init_33 : decode cX7_init 33 = .ok (.newarray .boolean, 2) := by decide +kernel
theorem dX7_init_35 : decode cX7_init 35 = .ok (.putfield 24, 3) := by decide +kernel
theorem dX7_init_38 : decode cX7_init 38 = .ok (.aload_n 0, 1) := by decide +kernel
theorem dX7_init_39 : decode cX7_init 39 = .ok (.sipush 140, 3) := by decide +kernel
theorem dX7_init_42 : decode cX7_init 42 = .ok (.newarray .int, 2) := by decide +kernel
theorem dX7_init_44 : decode cX7_init 44 = .ok (.putfield 27, 3) := by decide +kernel
theorem dX7_init_47 : decode cX7_init 47 = .ok (.aload_n 0, 1) := by decide +kernel
theorem dX7_init_48 : decode cX7_init 48 = .ok (.sipush 560, 3) := by decide +kernel
theorem dX7_init_51 : decode cX7_init 51 = .ok (.newarray .int, 2) := by decide +kernel
theorem dX7_init_53 : decode cX7_init 53 = .ok (.putfield 30, 3) := by decide +kernel
theorem dX7_init_56 : decode cX7_init 56 = .ok (.aload_n 0, 1) := by decide +kernel
theorem dX7_init_57 : decode cX7_init 57 = .ok (.sipush 140, 3) := by decide +kernel
theorem dX7_init_60 : decode cX7_init 60 = .ok (.newarray .boolean, 2) := by decide +kernel
theorem dX7_init_62 : decode cX7_init 62 = .ok (.putfield 33, 3) := by decide +kernel
theorem dX7_init_65 : decode cX7_init 65 = .ok (.aload_n 0, 1) := by decide +kernel
theorem dX7_init_66 : decode cX7_init 66 = .ok (.sipush 140, 3) := by decide +kernel
theorem dX7_init_69 : decode cX7_init 69 = .ok (.newarray .int, 2) := by decide +kernel
theorem dX7_init_71 : decode cX7_init 71 = .ok (.putfield 36, 3) := by decide +kernel
theorem dX7_init_74 : decode cX7_init 74 = .ok (.aload_n 0, 1) := by decide +kernel
theorem dX7_init_75 : decode cX7_init 75 = .ok (.sipush 140, 3) := by decide +kernel
theorem dX7_init_78 : decode cX7_init 78 = .ok (.newarray .int, 2) := by decide +kernel
theorem dX7_init_80 : decode cX7_init 80 = .ok (.putfield 39, 3) := by decide +kernel
theorem dX7_init_83 : decode cX7_init 83 = .ok (.aload_n 0, 1) := by decide +kernel
theorem dX7_init_84 : decode cX7_init 84 = .ok (.sipush 140, 3) := by decide +kernel
theorem dX7_init_87 : decode cX7_init 87 = .ok (.newarray .int, 2) := by decide +kernel
theorem dX7_init_89 : decode cX7_init 89 = .ok (.putfield 42, 3) := by decide +kernel
theorem dX7_init_92 : decode cX7_init 92 = .ok (.aload_n 0, 1) := by decide +kernel
theorem dX7_init_93 : decode cX7_init 93 = .ok (.iconst (-1), 1) := by decide +kernel
theorem dX7_init_94 : decode cX7_init 94 = .ok (.putfield 45, 3) := by decide +kernel
theorem dX7_init_97 : decode cX7_init 97 = .ok (.aload_n 0, 1) := by decide +kernel
theorem dX7_init_98 : decode cX7_init 98 = .ok (.sipush 140, 3) := by decide +kernel
theorem dX7_init_101 : decode cX7_init 101 = .ok (.newarray .int, 2) := by decide +kernel
theorem dX7_init_103 : decode cX7_init 103 = .ok (.putfield 48, 3) := by decide +kernel
theorem dX7_init_106 : decode cX7_init 106 = .ok (.aload_n 0, 1) := by decide +kernel
theorem dX7_init_107 : decode cX7_init 107 = .ok (.sipush 140, 3) := by decide +kernel
theorem dX7_init_110 : decode cX7_init 110 = .ok (.newarray .int, 2) := by decide +kernel
theorem dX7_init_112 : decode cX7_init 112 = .ok (.putfield 51, 3) := by decide +kernel
theorem dX7_init_115 : decode cX7_init 115 = .ok (.aload_n 0, 1) := by decide +kernel
theorem dX7_init_116 : decode cX7_init 116 = .ok (.bipush 100, 2) := by decide +kernel
theorem dX7_init_118 : decode cX7_init 118 = .ok (.newarray .int, 2) := by decide +kernel
theorem dX7_init_120 : decode cX7_init 120 = .ok (.putfield 54, 3) := by decide +kernel
theorem dX7_init_123 : decode cX7_init 123 = .ok (.aload_n 0, 1) := by decide +kernel
theorem dX7_init_124 : decode cX7_init 124 = .ok (.bipush 100, 2) := by decide +kernel
theorem dX7_init_126 : decode cX7_init 126 = .ok (.newarray .int, 2) := by decide +kernel
theorem dX7_init_128 : decode cX7_init 128 = .ok (.putfield 57, 3) := by decide +kernel
theorem dX7_init_131 : decode cX7_init 131 = .ok (.aload_n 0, 1) := by decide +kernel
theorem dX7_init_132 : decode cX7_init 132 = .ok (.bipush 100, 2) := by decide +kernel
theorem dX7_init_134 : decode cX7_init 134 = .ok (.newarray .int, 2) := by decide +kernel
theorem dX7_init_136 : decode cX7_init 136 = .ok (.putfield 60, 3) := by decide +kernel
theorem dX7_init_139 : decode cX7_init 139 = .ok (.aload_n 0, 1) := by decide +kernel
theorem dX7_init_140 : decode cX7_init 140 = .ok (.bipush 100, 2) := by decide +kernel
theorem dX7_init_142 : decode cX7_init 142 = .ok (.newarray .int, 2) := by decide +kernel
theorem dX7_init_144 : decode cX7_init 144 = .ok (.putfield 63, 3) := by decide +kernel
theorem dX7_init_147 : decode cX7_init 147 = .ok (.aload_n 0, 1) := by decide +kernel
theorem dX7_init_148 : decode cX7_init 148 = .ok (.bipush 100, 2) := by decide +kernel
theorem dX7_init_150 : decode cX7_init 150 = .ok (.newarray .boolean, 2) := by decide +kernel
theorem dX7_init_152 : decode cX7_init 152 = .ok (.putfield 66, 3) := by decide +kernel
theorem dX7_init_155 : decode cX7_init 155 = .ok (.aload_n 0, 1) := by decide +kernel
theorem dX7_init_156 : decode cX7_init 156 = .ok (.iconst 4, 1) := by decide +kernel
theorem dX7_init_157 : decode cX7_init 157 = .ok (.newarray .int, 2) := by decide +kernel
theorem dX7_init_159 : decode cX7_init 159 = .ok (.putfield 69, 3) := by decide +kernel
theorem dX7_init_162 : decode cX7_init 162 = .ok (.aload_n 0, 1) := by decide +kernel
theorem dX7_init_163 : decode cX7_init 163 = .ok (.bipush 100, 2) := by decide +kernel
theorem dX7_init_165 : decode cX7_init 165 = .ok (.newarray .int, 2) := by decide +kernel
theorem dX7_init_167 : decode cX7_init 167 = .ok (.putfield 72, 3) := by decide +kernel
theorem dX7_init_170 : decode cX7_init 170 = .ok (.aload_n 0, 1) := by decide +kernel
theorem dX7_init_171 : decode cX7_init 171 = .ok (.bipush 100, 2) := by decide +kernel
theorem dX7_init_173 : decode cX7_init 173 = .ok (.newarray .long, 2) := by decide +kernel
theorem dX7_init_175 : decode cX7_init 175 = .ok (.putfield 75, 3) := by decide +kernel
theorem dX7_init_178 : decode cX7_init 178 = .ok (.aload_n 0, 1) := by decide +kernel
theorem dX7_init_179 : decode cX7_init 179 = .ok (.sipush 140, 3) := by decide +kernel
theorem dX7_init_182 : decode cX7_init 182 = .ok (.newarray .boolean, 2) := by decide +kernel
theorem dX7_init_184 : decode cX7_init 184 = .ok (.putfield 79, 3) := by decide +kernel
theorem dX7_init_187 : decode cX7_init 187 = .ok (.aload_n 0, 1) := by decide +kernel
theorem dX7_init_188 : decode cX7_init 188 = .ok (.bipush 100, 2) := by decide +kernel
theorem dX7_init_190 : decode cX7_init 190 = .ok (.newarray .boolean, 2) := by decide +kernel
theorem dX7_init_192 : decode cX7_init 192 = .ok (.putfield 82, 3) := by decide +kernel
theorem dX7_init_195 : decode cX7_init 195 = .ok (.aload_n 0, 1) := by decide +kernel
theorem dX7_init_196 : decode cX7_init 196 = .ok (.iload_n 1, 1) := by decide +kernel
theorem dX7_init_197 : decode cX7_init 197 = .ok (.iconst 1, 1) := by decide +kernel
theorem dX7_init_198 : decode cX7_init 198 = .ok (.if_icmp .ge 7, 3) := by decide +kernel
theorem dX7_init_201 : decode cX7_init 201 = .ok (.iconst 1, 1) := by decide +kernel
theorem dX7_init_202 : decode cX7_init 202 = .ok (.goto 13, 3) := by decide +kernel
theorem dX7_init_205 : decode cX7_init 205 = .ok (.iload_n 1, 1) := by decide +kernel
theorem dX7_init_206 : decode cX7_init 206 = .ok (.iconst 4, 1) := by decide +kernel
theorem dX7_init_207 : decode cX7_init 207 = .ok (.if_icmp .le 7, 3) := by decide +kernel
theorem dX7_init_210 : decode cX7_init 210 = .ok (.iconst 4, 1) := by decide +kernel
theorem dX7_init_211 : decode cX7_init 211 = .ok (.goto 4, 3) := by decide +kernel
theorem dX7_init_214 : decode cX7_init 214 = .ok (.iload_n 1, 1) := by decide +kernel
theorem dX7_init_215 : decode cX7_init 215 = .ok (.putfield 85, 3) := by decide +kernel
theorem dX7_init_218 : decode cX7_init 218 = .ok (.return_, 1) := by decide +kernel
theorem dX7_isId_0 : decode cX7_isId 0 = .ok (.iload_n 0, 1) := by decide +kernel
theorem dX7_isId_1 : decode cX7_isId 1 = .ok (.i2l, 1) := by decide +kernel
theorem dX7_isId_2 : decode cX7_isId 2 = .ok (.lconst 0, 1) := by decide +kernel
theorem dX7_isId_3 : decode cX7_isId 3 = .ok (.ldc2_w 88, 3) := by decide +kernel
theorem dX7_isId_6 : decode cX7_isId 6 = .ok (.invokestatic 90, 3) := by decide +kernel
theorem dX7_isId_9 : decode cX7_isId 9 = .ok (.ireturn, 1) := by decide +kernel
theorem dX7_areNumbers_0 : decode cX7_areNumbers 0 = .ok (.iload_n 1, 1) := by decide +kernel
theorem dX7_areNumbers_1 : decode cX7_areNumbers 1 = .ok (.i2l, 1) := by decide +kernel
theorem dX7_areNumbers_2 : decode cX7_areNumbers 2 = .ok (.ldc2_w 94, 3) := by decide +kernel
theorem dX7_areNumbers_5 : decode cX7_areNumbers 5 = .ok (.ldc2_w 96, 3) := by decide +kernel
theorem dX7_areNumbers_8 : decode cX7_areNumbers 8 = .ok (.invokestatic 90, 3) := by decide +kernel
theorem dX7_areNumbers_11 : decode cX7_areNumbers 11 = .ok (.ifCond .eq 74, 3) := by decide +kernel
theorem dX7_areNumbers_14 : decode cX7_areNumbers 14 = .ok (.aload_n 0, 1) := by decide +kernel
theorem dX7_areNumbers_15 : decode cX7_areNumbers 15 = .ok (.getfield 85, 3) := by decide +kernel
theorem dX7_areNumbers_18 : decode cX7_areNumbers 18 = .ok (.iconst 2, 1) := by decide +kernel
theorem dX7_areNumbers_19 : decode cX7_areNumbers 19 = .ok (.if_icmp .lt 17, 3) := by decide +kernel
theorem dX7_areNumbers_22 : decode cX7_areNumbers 22 = .ok (.iload_n 2, 1) := by decide +kernel
theorem dX7_areNumbers_23 : decode cX7_areNumbers 23 = .ok (.i2l, 1) := by decide +kernel
theorem dX7_areNumbers_24 : decode cX7_areNumbers 24 = .ok (.ldc2_w 94, 3) := by decide +kernel
theorem dX7_areNumbers_27 : decode cX7_areNumbers 27 = .ok (.ldc2_w 96, 3) := by decide +kernel
theorem dX7_areNumbers_30 : decode cX7_areNumbers 30 = .ok (.invokestatic 90, 3) := by decide +kernel
theorem dX7_areNumbers_33 : decode cX7_areNumbers 33 = .ok (.ifCond .eq 52, 3) := by decide +kernel
theorem dX7_areNumbers_36 : decode cX7_areNumbers 36 = .ok (.aload_n 0, 1) := by decide +kernel
theorem dX7_areNumbers_37 : decode cX7_areNumbers 37 = .ok (.getfield 85, 3) := by decide +kernel
theorem dX7_areNumbers_40 : decode cX7_areNumbers 40 = .ok (.iconst 3, 1) := by decide +kernel
theorem dX7_areNumbers_41 : decode cX7_areNumbers 41 = .ok (.if_icmp .lt 17, 3) := by decide +kernel
theorem dX7_areNumbers_44 : decode cX7_areNumbers 44 = .ok (.iload_n 3, 1) := by decide +kernel
theorem dX7_areNumbers_45 : decode cX7_areNumbers 45 = .ok (.i2l, 1) := by decide +kernel
theorem dX7_areNumbers_46 : decode cX7_areNumbers 46 = .ok (.ldc2_w 94, 3) := by decide +kernel
theorem dX7_areNumbers_49 : decode cX7_areNumbers 49 = .ok (.ldc2_w 96, 3) := by decide +kernel
theorem dX7_areNumbers_52 : decode cX7_areNumbers 52 = .ok (.invokestatic 90, 3) := by decide +kernel
theorem dX7_areNumbers_55 : decode cX7_areNumbers 55 = .ok (.ifCond .eq 30, 3) := by decide +kernel
theorem dX7_areNumbers_58 : decode cX7_areNumbers 58 = .ok (.aload_n 0, 1) := by decide +kernel
theorem dX7_areNumbers_59 : decode cX7_areNumbers 59 = .ok (.getfield 85, 3) := by decide +kernel
theorem dX7_areNumbers_62 : decode cX7_areNumbers 62 = .ok (.iconst 4, 1) := by decide +kernel
theorem dX7_areNumbers_63 : decode cX7_areNumbers 63 = .ok (.if_icmp .lt 18, 3) := by decide +kernel
theorem dX7_areNumbers_66 : decode cX7_areNumbers 66 = .ok (.iload 4, 2) := by decide +kernel
theorem dX7_areNumbers_68 : decode cX7_areNumbers 68 = .ok (.i2l, 1) := by decide +kernel
theorem dX7_areNumbers_69 : decode cX7_areNumbers 69 = .ok (.ldc2_w 94, 3) := by decide +kernel
theorem dX7_areNumbers_72 : decode cX7_areNumbers 72 = .ok (.ldc2_w 96, 3) := by decide +kernel
theorem dX7_areNumbers_75 : decode cX7_areNumbers 75 = .ok (.invokestatic 90, 3) := by decide +kernel
theorem dX7_areNumbers_78 : decode cX7_areNumbers 78 = .ok (.ifCond .eq 7, 3) := by decide +kernel
theorem dX7_areNumbers_81 : decode cX7_areNumbers 81 = .ok (.iconst 1, 1) := by decide +kernel
theorem dX7_areNumbers_82 : decode cX7_areNumbers 82 = .ok (.goto 4, 3) := by decide +kernel
theorem dX7_areNumbers_85 : decode cX7_areNumbers 85 = .ok (.iconst 0, 1) := by decide +kernel
theorem dX7_areNumbers_86 : decode cX7_areNumbers 86 = .ok (.ireturn, 1) := by decide +kernel
theorem dX7_depth_0 : decode cX7_depth 0 = .ok (.iconst 0, 1) := by decide +kernel
theorem dX7_depth_1 : decode cX7_depth 1 = .ok (.istore_n 2, 1) := by decide +kernel
theorem dX7_depth_2 : decode cX7_depth 2 = .ok (.aload_n 0, 1) := by decide +kernel
theorem dX7_depth_3 : decode cX7_depth 3 = .ok (.getfield 42, 3) := by decide +kernel
theorem dX7_depth_6 : decode cX7_depth 6 = .ok (.iload_n 1, 1) := by decide +kernel
theorem dX7_depth_7 : decode cX7_depth 7 = .ok (.iaload, 1) := by decide +kernel
theorem dX7_depth_8 : decode cX7_depth 8 = .ok (.istore_n 3, 1) := by decide +kernel
theorem dX7_depth_9 : decode cX7_depth 9 = .ok (.iload_n 3, 1) := by decide +kernel
theorem dX7_depth_10 : decode cX7_depth 10 = .ok (.iconst (-1), 1) := by decide +kernel
theorem dX7_depth_11 : decode cX7_depth 11 = .ok (.if_icmp .eq 16, 3) := by decide +kernel
theorem dX7_depth_14 : decode cX7_depth 14 = .ok (.iinc 2 1, 3) := by decide +kernel
theorem dX7_depth_17 : decode cX7_depth 17 = .ok (.aload_n 0, 1) := by decide +kernel
theorem dX7_depth_18 : decode cX7_depth 18 = .ok (.getfield 42, 3) := by decide +kernel
theorem dX7_depth_21 : decode cX7_depth 21 = .ok (.iload_n 3, 1) := by decide +kernel
theorem dX7_depth_22 : decode cX7_depth 22 = .ok (.iaload, 1) := by decide +kernel
theorem dX7_depth_23 : decode cX7_depth 23 = .ok (.istore_n 3, 1) := by decide +kernel
theorem dX7_depth_24 : decode cX7_depth 24 = .ok (.goto (-15), 3) := by decide +kernel
theorem dX7_depth_27 : decode cX7_depth 27 = .ok (.iload_n 2, 1) := by decide +kernel
theorem dX7_depth_28 : decode cX7_depth 28 = .ok (.ireturn, 1) := by decide +kernel
theorem dX7_walkFrom_0 : decode cX7_walkFrom 0 = .ok (.iconst 0, 1) := by decide +kernel
theorem dX7_walkFrom_1 : decode cX7_walkFrom 1 = .ok (.istore_n 2, 1) := by decide +kernel
theorem dX7_walkFrom_2 : decode cX7_walkFrom 2 = .ok (.iconst 0, 1) := by decide +kernel
theorem dX7_walkFrom_3 : decode cX7_walkFrom 3 = .ok (.istore_n 3, 1) := by decide +kernel
theorem dX7_walkFrom_4 : decode cX7_walkFrom 4 = .ok (.iload_n 1, 1) := by decide +kernel
theorem dX7_walkFrom_5 : decode cX7_walkFrom 5 = .ok (.iconst (-1), 1) := by decide +kernel
theorem dX7_walkFrom_6 : decode cX7_walkFrom 6 = .ok (.if_icmp .eq 12, 3) := by decide +kernel
theorem dX7_walkFrom_9 : decode cX7_walkFrom 9 = .ok (.aload_n 0, 1) := by decide +kernel
theorem dX7_walkFrom_10 : decode cX7_walkFrom 10 = .ok (.getfield 51, 3) := by decide +kernel
theorem dX7_walkFrom_13 : decode cX7_walkFrom 13 = .ok (.iconst 0, 1) := by decide +kernel
theorem dX7_walkFrom_14 : decode cX7_walkFrom 14 = .ok (.iload_n 1, 1) := by decide +kernel
theorem dX7_walkFrom_15 : decode cX7_walkFrom 15 = .ok (.iastore, 1) := by decide +kernel
theorem dX7_walkFrom_16 : decode cX7_walkFrom 16 = .ok (.iconst 1, 1) := by decide +kernel
theorem dX7_walkFrom_17 : decode cX7_walkFrom 17 = .ok (.istore_n 3, 1) := by decide +kernel
theorem dX7_walkFrom_18 : decode cX7_walkFrom 18 = .ok (.iload_n 3, 1) := by decide +kernel
theorem dX7_walkFrom_19 : decode cX7_walkFrom 19 = .ok (.ifCond .le 82, 3) := by decide +kernel
theorem dX7_walkFrom_22 : decode cX7_walkFrom 22 = .ok (.iinc 3 (-1), 3) := by decide +kernel
theorem dX7_walkFrom_25 : decode cX7_walkFrom 25 = .ok (.aload_n 0, 1) := by decide +kernel
theorem dX7_walkFrom_26 : decode cX7_walkFrom 26 = .ok (.getfield 51, 3) := by decide +kernel
theorem dX7_walkFrom_29 : decode cX7_walkFrom 29 = .ok (.iload_n 3, 1) := by decide +kernel
theorem dX7_walkFrom_30 : decode cX7_walkFrom 30 = .ok (.iaload, 1) := by decide +kernel
theorem dX7_walkFrom_31 : decode cX7_walkFrom 31 = .ok (.istore 4, 2) := by decide +kernel
theorem dX7_walkFrom_33 : decode cX7_walkFrom 33 = .ok (.aload_n 0, 1) := by decide +kernel
theorem dX7_walkFrom_34 : decode cX7_walkFrom 34 = .ok (.getfield 48, 3) := by decide +kernel
theorem dX7_walkFrom_37 : decode cX7_walkFrom 37 = .ok (.iload_n 2, 1) := by decide +kernel
theorem dX7_walkFrom_38 : decode cX7_walkFrom 38 = .ok (.iload 4, 2) := by decide +kernel
theorem dX7_walkFrom_40 : decode cX7_walkFrom 40 = .ok (.iastore, 1) := by decide +kernel
theorem dX7_walkFrom_41 : decode cX7_walkFrom 41 = .ok (.iinc 2 1, 3) := by decide +kernel
theorem dX7_walkFrom_44 : decode cX7_walkFrom 44 = .ok (.aload_n 0, 1) := by decide +kernel
theorem dX7_walkFrom_45 : decode cX7_walkFrom 45 = .ok (.getfield 39, 3) := by decide +kernel
theorem dX7_walkFrom_48 : decode cX7_walkFrom 48 = .ok (.iload 4, 2) := by decide +kernel
theorem dX7_walkFrom_50 : decode cX7_walkFrom 50 = .ok (.iaload, 1) := by decide +kernel
theorem dX7_walkFrom_51 : decode cX7_walkFrom 51 = .ok (.iconst (-1), 1) := by decide +kernel
theorem dX7_walkFrom_52 : decode cX7_walkFrom 52 = .ok (.if_icmp .eq 19, 3) := by decide +kernel
theorem dX7_walkFrom_55 : decode cX7_walkFrom 55 = .ok (.aload_n 0, 1) := by decide +kernel
theorem dX7_walkFrom_56 : decode cX7_walkFrom 56 = .ok (.getfield 51, 3) := by decide +kernel
theorem dX7_walkFrom_59 : decode cX7_walkFrom 59 = .ok (.iload_n 3, 1) := by decide +kernel
theorem dX7_walkFrom_60 : decode cX7_walkFrom 60 = .ok (.aload_n 0, 1) := by decide +kernel
theorem dX7_walkFrom_61 : decode cX7_walkFrom 61 = .ok (.getfield 39, 3) := by decide +kernel
theorem dX7_walkFrom_64 : decode cX7_walkFrom 64 = .ok (.iload 4, 2) := by decide +kernel
theorem dX7_walkFrom_66 : decode cX7_walkFrom 66 = .ok (.iaload, 1) := by decide +kernel
theorem dX7_walkFrom_67 : decode cX7_walkFrom 67 = .ok (.iastore, 1) := by decide +kernel
theorem dX7_walkFrom_68 : decode cX7_walkFrom 68 = .ok (.iinc 3 1, 3) := by decide +kernel
theorem dX7_walkFrom_71 : decode cX7_walkFrom 71 = .ok (.aload_n 0, 1) := by decide +kernel
theorem dX7_walkFrom_72 : decode cX7_walkFrom 72 = .ok (.getfield 36, 3) := by decide +kernel
theorem dX7_walkFrom_75 : decode cX7_walkFrom 75 = .ok (.iload 4, 2) := by decide +kernel
theorem dX7_walkFrom_77 : decode cX7_walkFrom 77 = .ok (.iaload, 1) := by decide +kernel
theorem dX7_walkFrom_78 : decode cX7_walkFrom 78 = .ok (.iconst (-1), 1) := by decide +kernel
theorem dX7_walkFrom_79 : decode cX7_walkFrom 79 = .ok (.if_icmp .eq 19, 3) := by decide +kernel
theorem dX7_walkFrom_82 : decode cX7_walkFrom 82 = .ok (.aload_n 0, 1) := by decide +kernel
theorem dX7_walkFrom_83 : decode cX7_walkFrom 83 = .ok (.getfield 51, 3) := by decide +kernel
theorem dX7_walkFrom_86 : decode cX7_walkFrom 86 = .ok (.iload_n 3, 1) := by decide +kernel
theorem dX7_walkFrom_87 : decode cX7_walkFrom 87 = .ok (.aload_n 0, 1) := by decide +kernel
theorem dX7_walkFrom_88 : decode cX7_walkFrom 88 = .ok (.getfield 36, 3) := by decide +kernel
theorem dX7_walkFrom_91 : decode cX7_walkFrom 91 = .ok (.iload 4, 2) := by decide +kernel
theorem dX7_walkFrom_93 : decode cX7_walkFrom 93 = .ok (.iaload, 1) := by decide +kernel
theorem dX7_walkFrom_94 : decode cX7_walkFrom 94 = .ok (.iastore, 1) := by decide +kernel
theorem dX7_walkFrom_95 : decode cX7_walkFrom 95 = .ok (.iinc 3 1, 3) := by decide +kernel
theorem dX7_walkFrom_98 : decode cX7_walkFrom 98 = .ok (.goto (-80), 3) := by decide +kernel
theorem dX7_walkFrom_101 : decode cX7_walkFrom 101 = .ok (.iload_n 2, 1) := by decide +kernel
theorem dX7_walkFrom_102 : decode cX7_walkFrom 102 = .ok (.ireturn, 1) := by decide +kernel
theorem dX7_newNode_0 : decode cX7_newNode 0 = .ok (.iconst 0, 1) := by decide +kernel
theorem dX7_newNode_1 : decode cX7_newNode 1 = .ok (.istore_n 3, 1) := by decide +kernel
theorem dX7_newNode_2 : decode cX7_newNode 2 = .ok (.aload_n 0, 1) := by decide +kernel
theorem dX7_newNode_3 : decode cX7_newNode 3 = .ok (.getfield 24, 3) := by decide +kernel
theorem dX7_newNode_6 : decode cX7_newNode 6 = .ok (.iload_n 3, 1) := by decide +kernel
theorem dX7_newNode_7 : decode cX7_newNode 7 = .ok (.baload, 1) := by decide +kernel
theorem dX7_newNode_8 : decode cX7_newNode 8 = .ok (.ifCond .eq 9, 3) := by decide +kernel
theorem dX7_newNode_11 : decode cX7_newNode 11 = .ok (.iinc 3 1, 3) := by decide +kernel
theorem dX7_newNode_14 : decode cX7_newNode 14 = .ok (.goto (-12), 3) := by decide +kernel
theorem dX7_newNode_17 : decode cX7_newNode 17 = .ok (.aload_n 0, 1) := by decide +kernel
theorem dX7_newNode_18 : decode cX7_newNode 18 = .ok (.getfield 24, 3) := by decide +kernel
theorem dX7_newNode_21 : decode cX7_newNode 21 = .ok (.iload_n 3, 1) := by decide +kernel
theorem dX7_newNode_22 : decode cX7_newNode 22 = .ok (.iconst 1, 1) := by decide +kernel
theorem dX7_newNode_23 : decode cX7_newNode 23 = .ok (.bastore, 1) := by decide +kernel
theorem dX7_newNode_24 : decode cX7_newNode 24 = .ok (.aload_n 0, 1) := by decide +kernel
theorem dX7_newNode_25 : decode cX7_newNode 25 = .ok (.getfield 27, 3) := by decide +kernel
theorem dX7_newNode_28 : decode cX7_newNode 28 = .ok (.iload_n 3, 1) := by decide +kernel
theorem dX7_newNode_29 : decode cX7_newNode 29 = .ok (.iload_n 1, 1) := by decide +kernel
theorem dX7_newNode_30 : decode cX7_newNode 30 = .ok (.iastore, 1) := by decide +kernel
theorem dX7_newNode_31 : decode cX7_newNode 31 = .ok (.iconst 0, 1) := by decide +kernel
theorem dX7_newNode_32 : decode cX7_newNode 32 = .ok (.istore 4, 2) := by decide +kernel
theorem dX7_newNode_34 : decode cX7_newNode 34 = .ok (.iload 4, 2) := by decide +kernel
theorem dX7_newNode_36 : decode cX7_newNode 36 = .ok (.iconst 4, 1) := by decide +kernel
theorem dX7_newNode_37 : decode cX7_newNode 37 = .ok (.if_icmp .ge 31, 3) := by decide +kernel
theorem dX7_newNode_40 : decode cX7_newNode 40 = .ok (.aload_n 0, 1) := by decide +kernel
theorem dX7_newNode_41 : decode cX7_newNode 41 = .ok (.getfield 30, 3) := by decide +kernel
theorem dX7_newNode_44 : decode cX7_newNode 44 = .ok (.iconst 4, 1) := by decide +kernel
theorem dX7_newNode_45 : decode cX7_newNode 45 = .ok (.iload_n 3, 1) := by decide +kernel
theorem dX7_newNode_46 : decode cX7_newNode 46 = .ok (.imul, 1) := by decide +kernel
theorem dX7_newNode_47 : decode cX7_newNode 47 = .ok (.iload 4, 2) := by decide +kernel
theorem dX7_newNode_49 : decode cX7_newNode 49 = .ok (.iadd, 1) := by decide +kernel
theorem dX7_newNode_50 : decode cX7_newNode 50 = .ok (.aload_n 0, 1) := by decide +kernel
theorem dX7_newNode_51 : decode cX7_newNode 51 = .ok (.getfield 17, 3) := by decide +kernel
theorem dX7_newNode_54 : decode cX7_newNode 54 = .ok (.iconst 4, 1) := by decide +kernel
theorem dX7_newNode_55 : decode cX7_newNode 55 = .ok (.iload_n 1, 1) := by decide +kernel
theorem dX7_newNode_56 : decode cX7_newNode 56 = .ok (.imul, 1) := by decide +kernel
theorem dX7_newNode_57 : decode cX7_newNode 57 = .ok (.iload 4, 2) := by decide +kernel
theorem dX7_newNode_59 : decode cX7_newNode 59 = .ok (.iadd, 1) := by decide +kernel
theorem dX7_newNode_60 : decode cX7_newNode 60 = .ok (.iaload, 1) := by decide +kernel
theorem dX7_newNode_61 : decode cX7_newNode 61 = .ok (.iastore, 1) := by decide +kernel
theorem dX7_newNode_62 : decode cX7_newNode 62 = .ok (.iinc 4 1, 3) := by decide +kernel
theorem dX7_newNode_65 : decode cX7_newNode 65 = .ok (.goto (-31), 3) := by decide +kernel
theorem dX7_newNode_68 : decode cX7_newNode 68 = .ok (.aload_n 0, 1) := by decide +kernel
theorem dX7_newNode_69 : decode cX7_newNode 69 = .ok (.getfield 33, 3) := by decide +kernel
theorem dX7_newNode_72 : decode cX7_newNode 72 = .ok (.iload_n 3, 1) := by decide +kernel
theorem dX7_newNode_73 : decode cX7_newNode 73 = .ok (.iconst 1, 1) := by decide +kernel
theorem dX7_newNode_74 : decode cX7_newNode 74 = .ok (.bastore, 1) := by decide +kernel
theorem dX7_newNode_75 : decode cX7_newNode 75 = .ok (.aload_n 0, 1) := by decide +kernel
theorem dX7_newNode_76 : decode cX7_newNode 76 = .ok (.getfield 36, 3) := by decide +kernel
theorem dX7_newNode_79 : decode cX7_newNode 79 = .ok (.iload_n 3, 1) := by decide +kernel
theorem dX7_newNode_80 : decode cX7_newNode 80 = .ok (.iconst (-1), 1) := by decide +kernel
theorem dX7_newNode_81 : decode cX7_newNode 81 = .ok (.iastore, 1) := by decide +kernel
theorem dX7_newNode_82 : decode cX7_newNode 82 = .ok (.aload_n 0, 1) := by decide +kernel
theorem dX7_newNode_83 : decode cX7_newNode 83 = .ok (.getfield 39, 3) := by decide +kernel
theorem dX7_newNode_86 : decode cX7_newNode 86 = .ok (.iload_n 3, 1) := by decide +kernel
theorem dX7_newNode_87 : decode cX7_newNode 87 = .ok (.iconst (-1), 1) := by decide +kernel
theorem dX7_newNode_88 : decode cX7_newNode 88 = .ok (.iastore, 1) := by decide +kernel
theorem dX7_newNode_89 : decode cX7_newNode 89 = .ok (.aload_n 0, 1) := by decide +kernel
theorem dX7_newNode_90 : decode cX7_newNode 90 = .ok (.getfield 42, 3) := by decide +kernel
theorem dX7_newNode_93 : decode cX7_newNode 93 = .ok (.iload_n 3, 1) := by decide +kernel
theorem dX7_newNode_94 : decode cX7_newNode 94 = .ok (.iload_n 2, 1) := by decide +kernel
theorem dX7_newNode_95 : decode cX7_newNode 95 = .ok (.iastore, 1) := by decide +kernel
theorem dX7_newNode_96 : decode cX7_newNode 96 = .ok (.aload_n 0, 1) := by decide +kernel
theorem dX7_newNode_97 : decode cX7_newNode 97 = .ok (.getfield 21, 3) := by decide +kernel
theorem dX7_newNode_100 : decode cX7_newNode 100 = .ok (.iload_n 1, 1) := by decide +kernel
theorem dX7_newNode_101 : decode cX7_newNode 101 = .ok (.iload_n 3, 1) := by decide +kernel
theorem dX7_newNode_102 : decode cX7_newNode 102 = .ok (.iastore, 1) := by decide +kernel
theorem dX7_newNode_103 : decode cX7_newNode 103 = .ok (.iload_n 3, 1) := by decide +kernel
theorem dX7_newNode_104 : decode cX7_newNode 104 = .ok (.ireturn, 1) := by decide +kernel
theorem dX7_hang_0 : decode cX7_hang 0 = .ok (.iload_n 2, 1) := by decide +kernel
theorem dX7_hang_1 : decode cX7_hang 1 = .ok (.iconst (-1), 1) := by decide +kernel
theorem dX7_hang_2 : decode cX7_hang 2 = .ok (.if_icmp .ne 11, 3) := by decide +kernel
theorem dX7_hang_5 : decode cX7_hang 5 = .ok (.aload_n 0, 1) := by decide +kernel
theorem dX7_hang_6 : decode cX7_hang 6 = .ok (.iload_n 1, 1) := by decide +kernel
theorem dX7_hang_7 : decode cX7_hang 7 = .ok (.putfield 45, 3) := by decide +kernel
theorem dX7_hang_10 : decode cX7_hang 10 = .ok (.goto 24, 3) := by decide +kernel
theorem dX7_hang_13 : decode cX7_hang 13 = .ok (.iload_n 3, 1) := by decide +kernel
theorem dX7_hang_14 : decode cX7_hang 14 = .ok (.ifCond .eq 13, 3) := by decide +kernel
theorem dX7_hang_17 : decode cX7_hang 17 = .ok (.aload_n 0, 1) := by decide +kernel
theorem dX7_hang_18 : decode cX7_hang 18 = .ok (.getfield 36, 3) := by decide +kernel
theorem dX7_hang_21 : decode cX7_hang 21 = .ok (.iload_n 2, 1) := by decide +kernel
theorem dX7_hang_22 : decode cX7_hang 22 = .ok (.iload_n 1, 1) := by decide +kernel
theorem dX7_hang_23 : decode cX7_hang 23 = .ok (.iastore, 1) := by decide +kernel
theorem dX7_hang_24 : decode cX7_hang 24 = .ok (.goto 10, 3) := by decide +kernel
theorem dX7_hang_27 : decode cX7_hang 27 = .ok (.aload_n 0, 1) := by decide +kernel
theorem dX7_hang_28 : decode cX7_hang 28 = .ok (.getfield 39, 3) := by decide +kernel
theorem dX7_hang_31 : decode cX7_hang 31 = .ok (.iload_n 2, 1) := by decide +kernel
theorem dX7_hang_32 : decode cX7_hang 32 = .ok (.iload_n 1, 1) := by decide +kernel
theorem dX7_hang_33 : decode cX7_hang 33 = .ok (.iastore, 1) := by decide +kernel
theorem dX7_hang_34 : decode cX7_hang 34 = .ok (.return_, 1) := by decide +kernel
theorem dX7_isLess_0 : decode cX7_isLess 0 = .ok (.aload_n 0, 1) := by decide +kernel
theorem dX7_isLess_1 : decode cX7_isLess 1 = .ok (.getfield 17, 3) := by decide +kernel
theorem dX7_isLess_4 : decode cX7_isLess 4 = .ok (.iconst 4, 1) := by decide +kernel
theorem dX7_isLess_5 : decode cX7_isLess 5 = .ok (.iload_n 1, 1) := by decide +kernel
theorem dX7_isLess_6 : decode cX7_isLess 6 = .ok (.imul, 1) := by decide +kernel
theorem dX7_isLess_7 : decode cX7_isLess 7 = .ok (.iload_n 3, 1) := by decide +kernel
theorem dX7_isLess_8 : decode cX7_isLess 8 = .ok (.iadd, 1) := by decide +kernel
theorem dX7_isLess_9 : decode cX7_isLess 9 = .ok (.iaload, 1) := by decide +kernel
theorem dX7_isLess_10 : decode cX7_isLess 10 = .ok (.istore 4, 2) := by decide +kernel
theorem dX7_isLess_12 : decode cX7_isLess 12 = .ok (.aload_n 0, 1) := by decide +kernel
theorem dX7_isLess_13 : decode cX7_isLess 13 = .ok (.getfield 30, 3) := by decide +kernel
theorem dX7_isLess_16 : decode cX7_isLess 16 = .ok (.iconst 4, 1) := by decide +kernel
theorem dX7_isLess_17 : decode cX7_isLess 17 = .ok (.iload_n 2, 1) := by decide +kernel
theorem dX7_isLess_18 : decode cX7_isLess 18 = .ok (.imul, 1) := by decide +kernel
theorem dX7_isLess_19 : decode cX7_isLess 19 = .ok (.iload_n 3, 1) := by decide +kernel
theorem dX7_isLess_20 : decode cX7_isLess 20 = .ok (.iadd, 1) := by decide +kernel
theorem dX7_isLess_21 : decode cX7_isLess 21 = .ok (.iaload, 1) := by decide +kernel
theorem dX7_isLess_22 : decode cX7_isLess 22 = .ok (.istore 5, 2) := by decide +kernel
theorem dX7_isLess_24 : decode cX7_isLess 24 = .ok (.iload 4, 2) := by decide +kernel
theorem dX7_isLess_26 : decode cX7_isLess 26 = .ok (.iload 5, 2) := by decide +kernel
theorem dX7_isLess_28 : decode cX7_isLess 28 = .ok (.if_icmp .lt 20, 3) := by decide +kernel
theorem dX7_isLess_31 : decode cX7_isLess 31 = .ok (.iload 4, 2) := by decide +kernel
theorem dX7_isLess_33 : decode cX7_isLess 33 = .ok (.iload 5, 2) := by decide +kernel
theorem dX7_isLess_35 : decode cX7_isLess 35 = .ok (.if_icmp .ne 17, 3) := by decide +kernel
theorem dX7_isLess_38 : decode cX7_isLess 38 = .ok (.iload_n 1, 1) := by decide +kernel
theorem dX7_isLess_39 : decode cX7_isLess 39 = .ok (.aload_n 0, 1) := by decide +kernel
theorem dX7_isLess_40 : decode cX7_isLess 40 = .ok (.getfield 27, 3) := by decide +kernel
theorem dX7_isLess_43 : decode cX7_isLess 43 = .ok (.iload_n 2, 1) := by decide +kernel
theorem dX7_isLess_44 : decode cX7_isLess 44 = .ok (.iaload, 1) := by decide +kernel
theorem dX7_isLess_45 : decode cX7_isLess 45 = .ok (.if_icmp .ge 7, 3) := by decide +kernel
theorem dX7_isLess_48 : decode cX7_isLess 48 = .ok (.iconst 1, 1) := by decide +kernel
theorem dX7_isLess_49 : decode cX7_isLess 49 = .ok (.goto 4, 3) := by decide +kernel
theorem dX7_isLess_52 : decode cX7_isLess 52 = .ok (.iconst 0, 1) := by decide +kernel
theorem dX7_isLess_53 : decode cX7_isLess 53 = .ok (.ireturn, 1) := by decide +kernel
theorem dX7_sortBy_0 : decode cX7_sortBy 0 = .ok (.iload_n 2, 1) := by decide +kernel
theorem dX7_sortBy_1 : decode cX7_sortBy 1 = .ok (.iconst 1, 1) := by decide +kernel
theorem dX7_sortBy_2 : decode cX7_sortBy 2 = .ok (.iadd, 1) := by decide +kernel
theorem dX7_sortBy_3 : decode cX7_sortBy 3 = .ok (.istore 4, 2) := by decide +kernel
theorem dX7_sortBy_5 : decode cX7_sortBy 5 = .ok (.iload 4, 2) := by decide +kernel
theorem dX7_sortBy_7 : decode cX7_sortBy 7 = .ok (.iload_n 3, 1) := by decide +kernel
theorem dX7_sortBy_8 : decode cX7_sortBy 8 = .ok (.if_icmp .ge 137, 3) := by decide +kernel
theorem dX7_sortBy_11 : decode cX7_sortBy 11 = .ok (.aload_n 0, 1) := by decide +kernel
theorem dX7_sortBy_12 : decode cX7_sortBy 12 = .ok (.getfield 54, 3) := by decide +kernel
theorem dX7_sortBy_15 : decode cX7_sortBy 15 = .ok (.iload 4, 2) := by decide +kernel
theorem dX7_sortBy_17 : decode cX7_sortBy 17 = .ok (.iaload, 1) := by decide +kernel
theorem dX7_sortBy_18 : decode cX7_sortBy 18 = .ok (.istore 5, 2) := by decide +kernel
theorem dX7_sortBy_20 : decode cX7_sortBy 20 = .ok (.iload 4, 2) := by decide +kernel
theorem dX7_sortBy_22 : decode cX7_sortBy 22 = .ok (.istore 6, 2) := by decide +kernel
theorem dX7_sortBy_24 : decode cX7_sortBy 24 = .ok (.iload 6, 2) := by decide +kernel
theorem dX7_sortBy_26 : decode cX7_sortBy 26 = .ok (.iload_n 2, 1) := by decide +kernel
theorem dX7_sortBy_27 : decode cX7_sortBy 27 = .ok (.if_icmp .le 103, 3) := by decide +kernel
theorem dX7_sortBy_30 : decode cX7_sortBy 30 = .ok (.aload_n 0, 1) := by decide +kernel
theorem dX7_sortBy_31 : decode cX7_sortBy 31 = .ok (.getfield 17, 3) := by decide +kernel
theorem dX7_sortBy_34 : decode cX7_sortBy 34 = .ok (.iconst 4, 1) := by decide +kernel
theorem dX7_sortBy_35 : decode cX7_sortBy 35 = .ok (.aload_n 0, 1) := by decide +kernel
theorem dX7_sortBy_36 : decode cX7_sortBy 36 = .ok (.getfield 54, 3) := by decide +kernel
theorem dX7_sortBy_39 : decode cX7_sortBy 39 = .ok (.iload 6, 2) := by decide +kernel
theorem dX7_sortBy_41 : decode cX7_sortBy 41 = .ok (.iconst 1, 1) := by decide +kernel
theorem dX7_sortBy_42 : decode cX7_sortBy 42 = .ok (.isub, 1) := by decide +kernel
theorem dX7_sortBy_43 : decode cX7_sortBy 43 = .ok (.iaload, 1) := by decide +kernel
theorem dX7_sortBy_44 : decode cX7_sortBy 44 = .ok (.imul, 1) := by decide +kernel
theorem dX7_sortBy_45 : decode cX7_sortBy 45 = .ok (.iload_n 1, 1) := by decide +kernel
theorem dX7_sortBy_46 : decode cX7_sortBy 46 = .ok (.iadd, 1) := by decide +kernel
theorem dX7_sortBy_47 : decode cX7_sortBy 47 = .ok (.iaload, 1) := by decide +kernel
theorem dX7_sortBy_48 : decode cX7_sortBy 48 = .ok (.aload_n 0, 1) := by decide +kernel
theorem dX7_sortBy_49 : decode cX7_sortBy 49 = .ok (.getfield 17, 3) := by decide +kernel
theorem dX7_sortBy_52 : decode cX7_sortBy 52 = .ok (.iconst 4, 1) := by decide +kernel
theorem dX7_sortBy_53 : decode cX7_sortBy 53 = .ok (.iload 5, 2) := by decide +kernel
theorem dX7_sortBy_55 : decode cX7_sortBy 55 = .ok (.imul, 1) := by decide +kernel
theorem dX7_sortBy_56 : decode cX7_sortBy 56 = .ok (.iload_n 1, 1) := by decide +kernel
theorem dX7_sortBy_57 : decode cX7_sortBy 57 = .ok (.iadd, 1) := by decide +kernel
theorem dX7_sortBy_58 : decode cX7_sortBy 58 = .ok (.iaload, 1) := by decide +kernel
theorem dX7_sortBy_59 : decode cX7_sortBy 59 = .ok (.if_icmp .gt 49, 3) := by decide +kernel
theorem dX7_sortBy_62 : decode cX7_sortBy 62 = .ok (.aload_n 0, 1) := by decide +kernel
theorem dX7_sortBy_63 : decode cX7_sortBy 63 = .ok (.getfield 17, 3) := by decide +kernel
theorem dX7_sortBy_66 : decode cX7_sortBy 66 = .ok (.iconst 4, 1) := by decide +kernel
theorem dX7_sortBy_67 : decode cX7_sortBy 67 = .ok (.aload_n 0, 1) := by decide +kernel
theorem dX7_sortBy_68 : decode cX7_sortBy 68 = .ok (.getfield 54, 3) := by decide +kernel
theorem dX7_sortBy_71 : decode cX7_sortBy 71 = .ok (.iload 6, 2) := by decide +kernel
theorem dX7_sortBy_73 : decode cX7_sortBy 73 = .ok (.iconst 1, 1) := by decide +kernel
theorem dX7_sortBy_74 : decode cX7_sortBy 74 = .ok (.isub, 1) := by decide +kernel
theorem dX7_sortBy_75 : decode cX7_sortBy 75 = .ok (.iaload, 1) := by decide +kernel
theorem dX7_sortBy_76 : decode cX7_sortBy 76 = .ok (.imul, 1) := by decide +kernel
theorem dX7_sortBy_77 : decode cX7_sortBy 77 = .ok (.iload_n 1, 1) := by decide +kernel
theorem dX7_sortBy_78 : decode cX7_sortBy 78 = .ok (.iadd, 1) := by decide +kernel
theorem dX7_sortBy_79 : decode cX7_sortBy 79 = .ok (.iaload, 1) := by decide +kernel
theorem dX7_sortBy_80 : decode cX7_sortBy 80 = .ok (.aload_n 0, 1) := by decide +kernel
theorem dX7_sortBy_81 : decode cX7_sortBy 81 = .ok (.getfield 17, 3) := by decide +kernel
theorem dX7_sortBy_84 : decode cX7_sortBy 84 = .ok (.iconst 4, 1) := by decide +kernel
theorem dX7_sortBy_85 : decode cX7_sortBy 85 = .ok (.iload 5, 2) := by decide +kernel
theorem dX7_sortBy_87 : decode cX7_sortBy 87 = .ok (.imul, 1) := by decide +kernel
theorem dX7_sortBy_88 : decode cX7_sortBy 88 = .ok (.iload_n 1, 1) := by decide +kernel
theorem dX7_sortBy_89 : decode cX7_sortBy 89 = .ok (.iadd, 1) := by decide +kernel
theorem dX7_sortBy_90 : decode cX7_sortBy 90 = .ok (.iaload, 1) := by decide +kernel
theorem dX7_sortBy_91 : decode cX7_sortBy 91 = .ok (.if_icmp .ne 39, 3) := by decide +kernel
theorem dX7_sortBy_94 : decode cX7_sortBy 94 = .ok (.aload_n 0, 1) := by decide +kernel
theorem dX7_sortBy_95 : decode cX7_sortBy 95 = .ok (.getfield 54, 3) := by decide +kernel
theorem dX7_sortBy_98 : decode cX7_sortBy 98 = .ok (.iload 6, 2) := by decide +kernel
theorem dX7_sortBy_100 : decode cX7_sortBy 100 = .ok (.iconst 1, 1) := by decide +kernel
theorem dX7_sortBy_101 : decode cX7_sortBy 101 = .ok (.isub, 1) := by decide +kernel
theorem dX7_sortBy_102 : decode cX7_sortBy 102 = .ok (.iaload, 1) := by decide +kernel
theorem dX7_sortBy_103 : decode cX7_sortBy 103 = .ok (.iload 5, 2) := by decide +kernel
theorem dX7_sortBy_105 : decode cX7_sortBy 105 = .ok (.if_icmp .le 25, 3) := by decide +kernel
theorem dX7_sortBy_108 : decode cX7_sortBy 108 = .ok (.aload_n 0, 1) := by decide +kernel
theorem dX7_sortBy_109 : decode cX7_sortBy 109 = .ok (.getfield 54, 3) := by decide +kernel
theorem dX7_sortBy_112 : decode cX7_sortBy 112 = .ok (.iload 6, 2) := by decide +kernel
theorem dX7_sortBy_114 : decode cX7_sortBy 114 = .ok (.aload_n 0, 1) := by decide +kernel
theorem dX7_sortBy_115 : decode cX7_sortBy 115 = .ok (.getfield 54, 3) := by decide +kernel
theorem dX7_sortBy_118 : decode cX7_sortBy 118 = .ok (.iload 6, 2) := by decide +kernel
theorem dX7_sortBy_120 : decode cX7_sortBy 120 = .ok (.iconst 1, 1) := by decide +kernel
theorem dX7_sortBy_121 : decode cX7_sortBy 121 = .ok (.isub, 1) := by decide +kernel
theorem dX7_sortBy_122 : decode cX7_sortBy 122 = .ok (.iaload, 1) := by decide +kernel
theorem dX7_sortBy_123 : decode cX7_sortBy 123 = .ok (.iastore, 1) := by decide +kernel
theorem dX7_sortBy_124 : decode cX7_sortBy 124 = .ok (.iinc 6 (-1), 3) := by decide +kernel
theorem dX7_sortBy_127 : decode cX7_sortBy 127 = .ok (.goto (-103), 3) := by decide +kernel
theorem dX7_sortBy_130 : decode cX7_sortBy 130 = .ok (.aload_n 0, 1) := by decide +kernel
theorem dX7_sortBy_131 : decode cX7_sortBy 131 = .ok (.getfield 54, 3) := by decide +kernel
theorem dX7_sortBy_134 : decode cX7_sortBy 134 = .ok (.iload 6, 2) := by decide +kernel
theorem dX7_sortBy_136 : decode cX7_sortBy 136 = .ok (.iload 5, 2) := by decide +kernel
theorem dX7_sortBy_138 : decode cX7_sortBy 138 = .ok (.iastore, 1) := by decide +kernel
theorem dX7_sortBy_139 : decode cX7_sortBy 139 = .ok (.iinc 4 1, 3) := by decide +kernel
theorem dX7_sortBy_142 : decode cX7_sortBy 142 = .ok (.goto (-137), 3) := by decide +kernel
theorem dX7_sortBy_145 : decode cX7_sortBy 145 = .ok (.return_, 1) := by decide +kernel
theorem dX7_build_0 : decode cX7_build 0 = .ok (.aload_n 0, 1) := by decide +kernel
theorem dX7_build_1 : decode cX7_build 1 = .ok (.getfield 42, 3) := by decide +kernel
theorem dX7_build_4 : decode cX7_build 4 = .ok (.iload_n 1, 1) := by decide +kernel
theorem dX7_build_5 : decode cX7_build 5 = .ok (.iaload, 1) := by decide +kernel
theorem dX7_build_6 : decode cX7_build 6 = .ok (.istore_n 2, 1) := by decide +kernel
theorem dX7_build_7 : decode cX7_build 7 = .ok (.iload_n 2, 1) := by decide +kernel
theorem dX7_build_8 : decode cX7_build 8 = .ok (.iconst (-1), 1) := by decide +kernel
theorem dX7_build_9 : decode cX7_build 9 = .ok (.if_icmp .eq 17, 3) := by decide +kernel
theorem dX7_build_12 : decode cX7_build 12 = .ok (.aload_n 0, 1) := by decide +kernel
theorem dX7_build_13 : decode cX7_build 13 = .ok (.getfield 36, 3) := by decide +kernel
theorem dX7_build_16 : decode cX7_build 16 = .ok (.iload_n 2, 1) := by decide +kernel
theorem dX7_build_17 : decode cX7_build 17 = .ok (.iaload, 1) := by decide +kernel
theorem dX7_build_18 : decode cX7_build 18 = .ok (.iload_n 1, 1) := by decide +kernel
theorem dX7_build_19 : decode cX7_build 19 = .ok (.if_icmp .ne 7, 3) := by decide +kernel
theorem dX7_build_22 : decode cX7_build 22 = .ok (.iconst 1, 1) := by decide +kernel
theorem dX7_build_23 : decode cX7_build 23 = .ok (.goto 4, 3) := by decide +kernel
theorem dX7_build_26 : decode cX7_build 26 = .ok (.iconst 0, 1) := by decide +kernel
theorem dX7_build_27 : decode cX7_build 27 = .ok (.istore_n 3, 1) := by decide +kernel
theorem dX7_build_28 : decode cX7_build 28 = .ok (.aload_n 0, 1) := by decide +kernel
theorem dX7_build_29 : decode cX7_build 29 = .ok (.iload_n 1, 1) := by decide +kernel
theorem dX7_build_30 : decode cX7_build 30 = .ok (.invokevirtual 98, 3) := by decide +kernel
theorem dX7_build_33 : decode cX7_build 33 = .ok (.istore 4, 2) := by decide +kernel
theorem dX7_build_35 : decode cX7_build 35 = .ok (.iconst 0, 1) := by decide +kernel
theorem dX7_build_36 : decode cX7_build 36 = .ok (.istore 5, 2) := by decide +kernel
theorem dX7_build_38 : decode cX7_build 38 = .ok (.iconst 0, 1) := by decide +kernel
theorem dX7_build_39 : decode cX7_build 39 = .ok (.istore 6, 2) := by decide +kernel
theorem dX7_build_41 : decode cX7_build 41 = .ok (.iload 6, 2) := by decide +kernel
theorem dX7_build_43 : decode cX7_build 43 = .ok (.iload 4, 2) := by decide +kernel
theorem dX7_build_45 : decode cX7_build 45 = .ok (.if_icmp .ge 59, 3) := by decide +kernel
theorem dX7_build_48 : decode cX7_build 48 = .ok (.aload_n 0, 1) := by decide +kernel
theorem dX7_build_49 : decode cX7_build 49 = .ok (.getfield 24, 3) := by decide +kernel
theorem dX7_build_52 : decode cX7_build 52 = .ok (.aload_n 0, 1) := by decide +kernel
theorem dX7_build_53 : decode cX7_build 53 = .ok (.getfield 48, 3) := by decide +kernel
theorem dX7_build_56 : decode cX7_build 56 = .ok (.iload 6, 2) := by decide +kernel
theorem dX7_build_58 : decode cX7_build 58 = .ok (.iaload, 1) := by decide +kernel
theorem dX7_build_59 : decode cX7_build 59 = .ok (.iconst 0, 1) := by decide +kernel
theorem dX7_build_60 : decode cX7_build 60 = .ok (.bastore, 1) := by decide +kernel
theorem dX7_build_61 : decode cX7_build 61 = .ok (.aload_n 0, 1) := by decide +kernel
theorem dX7_build_62 : decode cX7_build 62 = .ok (.getfield 33, 3) := by decide +kernel
theorem dX7_build_65 : decode cX7_build 65 = .ok (.aload_n 0, 1) := by decide +kernel
theorem dX7_build_66 : decode cX7_build 66 = .ok (.getfield 48, 3) := by decide +kernel
theorem dX7_build_69 : decode cX7_build 69 = .ok (.iload 6, 2) := by decide +kernel
theorem dX7_build_71 : decode cX7_build 71 = .ok (.iaload, 1) := by decide +kernel
theorem dX7_build_72 : decode cX7_build 72 = .ok (.baload, 1) := by decide +kernel
theorem dX7_build_73 : decode cX7_build 73 = .ok (.ifCond .eq 25, 3) := by decide +kernel
theorem dX7_build_76 : decode cX7_build 76 = .ok (.aload_n 0, 1) := by decide +kernel
theorem dX7_build_77 : decode cX7_build 77 = .ok (.getfield 54, 3) := by decide +kernel
theorem dX7_build_80 : decode cX7_build 80 = .ok (.iload 5, 2) := by decide +kernel
theorem dX7_build_82 : decode cX7_build 82 = .ok (.aload_n 0, 1) := by decide +kernel
theorem dX7_build_83 : decode cX7_build 83 = .ok (.getfield 27, 3) := by decide +kernel
theorem dX7_build_86 : decode cX7_build 86 = .ok (.aload_n 0, 1) := by decide +kernel
theorem dX7_build_87 : decode cX7_build 87 = .ok (.getfield 48, 3) := by decide +kernel
theorem dX7_build_90 : decode cX7_build 90 = .ok (.iload 6, 2) := by decide +kernel
theorem dX7_build_92 : decode cX7_build 92 = .ok (.iaload, 1) := by decide +kernel
theorem dX7_build_93 : decode cX7_build 93 = .ok (.iaload, 1) := by decide +kernel
theorem dX7_build_94 : decode cX7_build 94 = .ok (.iastore, 1) := by decide +kernel
theorem dX7_build_95 : decode cX7_build 95 = .ok (.iinc 5 1, 3) := by decide +kernel
theorem dX7_build_98 : decode cX7_build 98 = .ok (.iinc 6 1, 3) := by decide +kernel
theorem dX7_build_101 : decode cX7_build 101 = .ok (.goto (-60), 3) := by decide +kernel
theorem dX7_build_104 : decode cX7_build 104 = .ok (.aload_n 0, 1) := by decide +kernel
theorem dX7_build_105 : decode cX7_build 105 = .ok (.iconst (-1), 1) := by decide +kernel
theorem dX7_build_106 : decode cX7_build 106 = .ok (.iload_n 2, 1) := by decide +kernel
theorem dX7_build_107 : decode cX7_build 107 = .ok (.iload_n 3, 1) := by decide +kernel
theorem dX7_build_108 : decode cX7_build 108 = .ok (.invokevirtual 102, 3) := by decide +kernel
theorem dX7_build_111 : decode cX7_build 111 = .ok (.iconst 0, 1) := by decide +kernel
theorem dX7_build_112 : decode cX7_build 112 = .ok (.istore 6, 2) := by decide +kernel
theorem dX7_build_114 : decode cX7_build 114 = .ok (.iload 5, 2) := by decide +kernel
theorem dX7_build_116 : decode cX7_build 116 = .ok (.ifCond .le 35, 3) := by decide +kernel
theorem dX7_build_119 : decode cX7_build 119 = .ok (.aload_n 0, 1) := by decide +kernel
theorem dX7_build_120 : decode cX7_build 120 = .ok (.getfield 57, 3) := by decide +kernel
theorem dX7_build_123 : decode cX7_build 123 = .ok (.iconst 0, 1) := by decide +kernel
theorem dX7_build_124 : decode cX7_build 124 = .ok (.iconst 0, 1) := by decide +kernel
theorem dX7_build_125 : decode cX7_build 125 = .ok (.iastore, 1) := by decide +kernel
theorem dX7_build_126 : decode cX7_build 126 = .ok (.aload_n 0, 1) := by decide +kernel
theorem dX7_build_127 : decode cX7_build 127 = .ok (.getfield 60, 3) := by decide +kernel
theorem dX7_build_130 : decode cX7_build 130 = .ok (.iconst 0, 1) := by decide +kernel
theorem dX7_build_131 : decode cX7_build 131 = .ok (.iload 5, 2) := by decide +kernel
theorem dX7_build_133 : decode cX7_build 133 = .ok (.iastore, 1) := by decide +kernel
theorem dX7_build_134 : decode cX7_build 134 = .ok (.aload_n 0, 1) := by decide +kernel
theorem dX7_build_135 : decode cX7_build 135 = .ok (.getfield 63, 3) := by decide +kernel
theorem dX7_build_138 : decode cX7_build 138 = .ok (.iconst 0, 1) := by decide +kernel
theorem dX7_build_139 : decode cX7_build 139 = .ok (.iload_n 2, 1) := by decide +kernel
theorem dX7_build_140 : decode cX7_build 140 = .ok (.iastore, 1) := by decide +kernel
theorem dX7_build_141 : decode cX7_build 141 = .ok (.aload_n 0, 1) := by decide +kernel
theorem dX7_build_142 : decode cX7_build 142 = .ok (.getfield 66, 3) := by decide +kernel
theorem dX7_build_145 : decode cX7_build 145 = .ok (.iconst 0, 1) := by decide +kernel
theorem dX7_build_146 : decode cX7_build 146 = .ok (.iload_n 3, 1) := by decide +kernel
theorem dX7_build_147 : decode cX7_build 147 = .ok (.bastore, 1) := by decide +kernel
theorem dX7_build_148 : decode cX7_build 148 = .ok (.iconst 1, 1) := by decide +kernel
theorem dX7_build_149 : decode cX7_build 149 = .ok (.istore 6, 2) := by decide +kernel
theorem dX7_build_151 : decode cX7_build 151 = .ok (.iload 6, 2) := by decide +kernel
theorem dX7_build_153 : decode cX7_build 153 = .ok (.ifCond .le 211, 3) := by decide +kernel
theorem dX7_build_156 : decode cX7_build 156 = .ok (.iinc 6 (-1), 3) := by decide +kernel
theorem dX7_build_159 : decode cX7_build 159 = .ok (.aload_n 0, 1) := by decide +kernel
theorem dX7_build_160 : decode cX7_build 160 = .ok (.getfield 57, 3) := by decide +kernel
theorem dX7_build_163 : decode cX7_build 163 = .ok (.iload 6, 2) := by decide +kernel
theorem dX7_build_165 : decode cX7_build 165 = .ok (.iaload, 1) := by decide +kernel
theorem dX7_build_166 : decode cX7_build 166 = .ok (.istore 7, 2) := by decide +kernel
theorem dX7_build_168 : decode cX7_build 168 = .ok (.aload_n 0, 1) := by decide +kernel
theorem dX7_build_169 : decode cX7_build 169 = .ok (.getfield 60, 3) := by decide +kernel
theorem dX7_build_172 : decode cX7_build 172 = .ok (.iload 6, 2) := by decide +kernel
theorem dX7_build_174 : decode cX7_build 174 = .ok (.iaload, 1) := by decide +kernel
theorem dX7_build_175 : decode cX7_build 175 = .ok (.istore 8, 2) := by decide +kernel
theorem dX7_build_177 : decode cX7_build 177 = .ok (.aload_n 0, 1) := by decide +kernel
theorem dX7_build_178 : decode cX7_build 178 = .ok (.getfield 63, 3) := by decide +kernel
theorem dX7_build_181 : decode cX7_build 181 = .ok (.iload 6, 2) := by decide +kernel
theorem dX7_build_183 : decode cX7_build 183 = .ok (.iaload, 1) := by decide +kernel
theorem dX7_build_184 : decode cX7_build 184 = .ok (.istore 9, 2) := by decide +kernel
theorem dX7_build_186 : decode cX7_build 186 = .ok (.aload_n 0, 1) := by decide +kernel
theorem dX7_build_187 : decode cX7_build 187 = .ok (.getfield 66, 3) := by decide +kernel
theorem dX7_build_190 : decode cX7_build 190 = .ok (.iload 6, 2) := by decide +kernel
theorem dX7_build_192 : decode cX7_build 192 = .ok (.baload, 1) := by decide +kernel
theorem dX7_build_193 : decode cX7_build 193 = .ok (.istore 10, 2) := by decide +kernel
theorem dX7_build_195 : decode cX7_build 195 = .ok (.iload 9, 2) := by decide +kernel
theorem dX7_build_197 : decode cX7_build 197 = .ok (.iconst (-1), 1) := by decide +kernel
theorem dX7_build_198 : decode cX7_build 198 = .ok (.if_icmp .ne 7, 3) := by decide +kernel
theorem dX7_build_201 : decode cX7_build 201 = .ok (.iconst 0, 1) := by decide +kernel
theorem dX7_build_202 : decode cX7_build 202 = .ok (.goto 11, 3) := by decide +kernel
theorem dX7_build_205 : decode cX7_build 205 = .ok (.aload_n 0, 1) := by decide +kernel
theorem dX7_build_206 : decode cX7_build 206 = .ok (.iload 9, 2) := by decide +kernel
theorem dX7_build_208 : decode cX7_build 208 = .ok (.invokevirtual 106, 3) := by decide +kernel
theorem dX7_build_211 : decode cX7_build 211 = .ok (.iconst 1, 1) := by decide +kernel
theorem dX7_build_212 : decode cX7_build 212 = .ok (.iadd, 1) := by decide +kernel
theorem dX7_build_213 : decode cX7_build 213 = .ok (.aload_n 0, 1) := by decide +kernel
theorem dX7_build_214 : decode cX7_build 214 = .ok (.getfield 85, 3) := by decide +kernel
theorem dX7_build_217 : decode cX7_build 217 = .ok (.irem, 1) := by decide +kernel
theorem dX7_build_218 : decode cX7_build 218 = .ok (.istore 11, 2) := by decide +kernel
theorem dX7_build_220 : decode cX7_build 220 = .ok (.aload_n 0, 1) := by decide +kernel
theorem dX7_build_221 : decode cX7_build 221 = .ok (.iload 11, 2) := by decide +kernel
theorem dX7_build_223 : decode cX7_build 223 = .ok (.iload 7, 2) := by decide +kernel
theorem dX7_build_225 : decode cX7_build 225 = .ok (.iload 8, 2) := by decide +kernel
theorem dX7_build_227 : decode cX7_build 227 = .ok (.invokevirtual 109, 3) := by decide +kernel
theorem dX7_build_230 : decode cX7_build 230 = .ok (.iload 7, 2) := by decide +kernel
theorem dX7_build_232 : decode cX7_build 232 = .ok (.iload 8, 2) := by decide +kernel
theorem dX7_build_234 : decode cX7_build 234 = .ok (.iload 7, 2) := by decide +kernel
theorem dX7_build_236 : decode cX7_build 236 = .ok (.isub, 1) := by decide +kernel
theorem dX7_build_237 : decode cX7_build 237 = .ok (.iconst 2, 1) := by decide +kernel
theorem dX7_build_238 : decode cX7_build 238 = .ok (.idiv, 1) := by decide +kernel
theorem dX7_build_239 : decode cX7_build 239 = .ok (.iadd, 1) := by decide +kernel
theorem dX7_build_240 : decode cX7_build 240 = .ok (.istore 12, 2) := by decide +kernel
theorem dX7_build_242 : decode cX7_build 242 = .ok (.aload_n 0, 1) := by decide +kernel
theorem dX7_build_243 : decode cX7_build 243 = .ok (.aload_n 0, 1) := by decide +kernel
theorem dX7_build_244 : decode cX7_build 244 = .ok (.getfield 54, 3) := by decide +kernel
theorem dX7_build_247 : decode cX7_build 247 = .ok (.iload 12, 2) := by decide +kernel
theorem dX7_build_249 : decode cX7_build 249 = .ok (.iaload, 1) := by decide +kernel
theorem dX7_build_250 : decode cX7_build 250 = .ok (.iload 9, 2) := by decide +kernel
theorem dX7_build_252 : decode cX7_build 252 = .ok (.invokevirtual 113, 3) := by decide +kernel
theorem dX7_build_255 : decode cX7_build 255 = .ok (.istore 13, 2) := by decide +kernel
theorem dX7_build_257 : decode cX7_build 257 = .ok (.aload_n 0, 1) := by decide +kernel
theorem dX7_build_258 : decode cX7_build 258 = .ok (.iload 13, 2) := by decide +kernel
theorem dX7_build_260 : decode cX7_build 260 = .ok (.iload 9, 2) := by decide +kernel
theorem dX7_build_262 : decode cX7_build 262 = .ok (.iload 10, 2) := by decide +kernel
theorem dX7_build_264 : decode cX7_build 264 = .ok (.invokevirtual 102, 3) := by decide +kernel
theorem dX7_build_267 : decode cX7_build 267 = .ok (.iload 12, 2) := by decide +kernel
theorem dX7_build_269 : decode cX7_build 269 = .ok (.iconst 1, 1) := by decide +kernel
theorem dX7_build_270 : decode cX7_build 270 = .ok (.iadd, 1) := by decide +kernel
theorem dX7_build_271 : decode cX7_build 271 = .ok (.iload 8, 2) := by decide +kernel
theorem dX7_build_273 : decode cX7_build 273 = .ok (.if_icmp .ge 43, 3) := by decide +kernel
theorem dX7_build_276 : decode cX7_build 276 = .ok (.aload_n 0, 1) := by decide +kernel
theorem dX7_build_277 : decode cX7_build 277 = .ok (.getfield 57, 3) := by decide +kernel
theorem dX7_build_280 : decode cX7_build 280 = .ok (.iload 6, 2) := by decide +kernel
theorem dX7_build_282 : decode cX7_build 282 = .ok (.iload 12, 2) := by decide +kernel
theorem dX7_build_284 : decode cX7_build 284 = .ok (.iconst 1, 1) := by decide +kernel
theorem dX7_build_285 : decode cX7_build 285 = .ok (.iadd, 1) := by decide +kernel
theorem dX7_build_286 : decode cX7_build 286 = .ok (.iastore, 1) := by decide +kernel
theorem dX7_build_287 : decode cX7_build 287 = .ok (.aload_n 0, 1) := by decide +kernel
theorem dX7_build_288 : decode cX7_build 288 = .ok (.getfield 60, 3) := by decide +kernel
theorem dX7_build_291 : decode cX7_build 291 = .ok (.iload 6, 2) := by decide +kernel
theorem dX7_build_293 : decode cX7_build 293 = .ok (.iload 8, 2) := by decide +kernel
theorem dX7_build_295 : decode cX7_build 295 = .ok (.iastore, 1) := by decide +kernel
theorem dX7_build_296 : decode cX7_build 296 = .ok (.aload_n 0, 1) := by decide +kernel
theorem dX7_build_297 : decode cX7_build 297 = .ok (.getfield 63, 3) := by decide +kernel
theorem dX7_build_300 : decode cX7_build 300 = .ok (.iload 6, 2) := by decide +kernel
theorem dX7_build_302 : decode cX7_build 302 = .ok (.iload 13, 2) := by decide +kernel
theorem dX7_build_304 : decode cX7_build 304 = .ok (.iastore, 1) := by decide +kernel
theorem dX7_build_305 : decode cX7_build 305 = .ok (.aload_n 0, 1) := by decide +kernel
theorem dX7_build_306 : decode cX7_build 306 = .ok (.getfield 66, 3) := by decide +kernel
theorem dX7_build_309 : decode cX7_build 309 = .ok (.iload 6, 2) := by decide +kernel
theorem dX7_build_311 : decode cX7_build 311 = .ok (.iconst 0, 1) := by decide +kernel
theorem dX7_build_312 : decode cX7_build 312 = .ok (.bastore, 1) := by decide +kernel
theorem dX7_build_313 : decode cX7_build 313 = .ok (.iinc 6 1, 3) := by decide +kernel
theorem dX7_build_316 : decode cX7_build 316 = .ok (.iload 7, 2) := by decide +kernel
theorem dX7_build_318 : decode cX7_build 318 = .ok (.iload 12, 2) := by decide +kernel
theorem dX7_build_320 : decode cX7_build 320 = .ok (.if_icmp .ge 41, 3) := by decide +kernel
theorem dX7_build_323 : decode cX7_build 323 = .ok (.aload_n 0, 1) := by decide +kernel
theorem dX7_build_324 : decode cX7_build 324 = .ok (.getfield 57, 3) := by decide +kernel
theorem dX7_build_327 : decode cX7_build 327 = .ok (.iload 6, 2) := by decide +kernel
theorem dX7_build_329 : decode cX7_build 329 = .ok (.iload 7, 2) := by decide +kernel
theorem dX7_build_331 : decode cX7_build 331 = .ok (.iastore, 1) := by decide +kernel
theorem dX7_build_332 : decode cX7_build 332 = .ok (.aload_n 0, 1) := by decide +kernel
theorem dX7_build_333 : decode cX7_build 333 = .ok (.getfield 60, 3) := by decide +kernel
theorem dX7_build_336 : decode cX7_build 336 = .ok (.iload 6, 2) := by decide +kernel
theorem dX7_build_338 : decode cX7_build 338 = .ok (.iload 12, 2) := by decide +kernel
theorem dX7_build_340 : decode cX7_build 340 = .ok (.iastore, 1) := by decide +kernel
theorem dX7_build_341 : decode cX7_build 341 = .ok (.aload_n 0, 1) := by decide +kernel
theorem dX7_build_342 : decode cX7_build 342 = .ok (.getfield 63, 3) := by decide +kernel
theorem dX7_build_345 : decode cX7_build 345 = .ok (.iload 6, 2) := by decide +kernel
theorem dX7_build_347 : decode cX7_build 347 = .ok (.iload 13, 2) := by decide +kernel
theorem dX7_build_349 : decode cX7_build 349 = .ok (.iastore, 1) := by decide +kernel
theorem dX7_build_350 : decode cX7_build 350 = .ok (.aload_n 0, 1) := by decide +kernel
theorem dX7_build_351 : decode cX7_build 351 = .ok (.getfield 66, 3) := by decide +kernel
theorem dX7_build_354 : decode cX7_build 354 = .ok (.iload 6, 2) := by decide +kernel
theorem dX7_build_356 : decode cX7_build 356 = .ok (.iconst 1, 1) := by decide +kernel
theorem dX7_build_357 : decode cX7_build 357 = .ok (.bastore, 1) := by decide +kernel
theorem dX7_build_358 : decode cX7_build 358 = .ok (.iinc 6 1, 3) := by decide +kernel
theorem dX7_build_361 : decode cX7_build 361 = .ok (.goto (-210), 3) := by decide +kernel
theorem dX7_build_364 : decode cX7_build 364 = .ok (.iload 5, 2) := by decide +kernel
theorem dX7_build_366 : decode cX7_build 366 = .ok (.ireturn, 1) := by decide +kernel
theorem dX7_put_0 : decode cX7_put 0 = .ok (.aload_n 0, 1) := by decide +kernel
theorem dX7_put_1 : decode cX7_put 1 = .ok (.iload_n 1, 1) := by decide +kernel
theorem dX7_put_2 : decode cX7_put 2 = .ok (.invokestatic 117, 3) := by decide +kernel
theorem dX7_put_5 : decode cX7_put 5 = .ok (.ifCond .eq 16, 3) := by decide +kernel
theorem dX7_put_8 : decode cX7_put 8 = .ok (.aload_n 0, 1) := by decide +kernel
theorem dX7_put_9 : decode cX7_put 9 = .ok (.iload_n 2, 1) := by decide +kernel
theorem dX7_put_10 : decode cX7_put 10 = .ok (.iload_n 3, 1) := by decide +kernel
theorem dX7_put_11 : decode cX7_put 11 = .ok (.iload 4, 2) := by decide +kernel
theorem dX7_put_13 : decode cX7_put 13 = .ok (.iload 5, 2) := by decide +kernel
theorem dX7_put_15 : decode cX7_put 15 = .ok (.invokevirtual 121, 3) := by decide +kernel
theorem dX7_put_18 : decode cX7_put 18 = .ok (.ifCond .ne 7, 3) := by decide +kernel
theorem dX7_put_21 : decode cX7_put 21 = .ok (.iconst 1, 1) := by decide +kernel
theorem dX7_put_22 : decode cX7_put 22 = .ok (.goto 26, 3) := by decide +kernel
theorem dX7_put_25 : decode cX7_put 25 = .ok (.aload_n 0, 1) := by decide +kernel
theorem dX7_put_26 : decode cX7_put 26 = .ok (.getfield 13, 3) := by decide +kernel
theorem dX7_put_29 : decode cX7_put 29 = .ok (.iload_n 1, 1) := by decide +kernel
theorem dX7_put_30 : decode cX7_put 30 = .ok (.baload, 1) := by decide +kernel
theorem dX7_put_31 : decode cX7_put 31 = .ok (.ifCond .ne 12, 3) := by decide +kernel
theorem dX7_put_34 : decode cX7_put 34 = .ok (.aload_n 0, 1) := by decide +kernel
theorem dX7_put_35 : decode cX7_put 35 = .ok (.getfield 125, 3) := by decide +kernel
theorem dX7_put_38 : decode cX7_put 38 = .ok (.bipush 60, 2) := by decide +kernel
theorem dX7_put_40 : decode cX7_put 40 = .ok (.if_icmp .ne 7, 3) := by decide +kernel
theorem dX7_put_43 : decode cX7_put 43 = .ok (.iconst 2, 1) := by decide +kernel
theorem dX7_put_44 : decode cX7_put 44 = .ok (.goto 4, 3) := by decide +kernel
theorem dX7_put_47 : decode cX7_put 47 = .ok (.iconst 0, 1) := by decide +kernel
theorem dX7_put_48 : decode cX7_put 48 = .ok (.putfield 1, 3) := by decide +kernel
theorem dX7_put_51 : decode cX7_put 51 = .ok (.aload_n 0, 1) := by decide +kernel
theorem dX7_put_52 : decode cX7_put 52 = .ok (.getfield 1, 3) := by decide +kernel
theorem dX7_put_55 : decode cX7_put 55 = .ok (.ifCond .le 5, 3) := by decide +kernel
theorem dX7_put_58 : decode cX7_put 58 = .ok (.iconst 0, 1) := by decide +kernel
theorem dX7_put_59 : decode cX7_put 59 = .ok (.ireturn, 1) := by decide +kernel
theorem dX7_put_60 : decode cX7_put 60 = .ok (.aload_n 0, 1) := by decide +kernel
theorem dX7_put_61 : decode cX7_put 61 = .ok (.getfield 13, 3) := by decide +kernel
theorem dX7_put_64 : decode cX7_put 64 = .ok (.iload_n 1, 1) := by decide +kernel
theorem dX7_put_65 : decode cX7_put 65 = .ok (.iconst 1, 1) := by decide +kernel
theorem dX7_put_66 : decode cX7_put 66 = .ok (.bastore, 1) := by decide +kernel
theorem dX7_put_67 : decode cX7_put 67 = .ok (.aload_n 0, 1) := by decide +kernel
theorem dX7_put_68 : decode cX7_put 68 = .ok (.dup, 1) := by decide +kernel
theorem dX7_put_69 : decode cX7_put 69 = .ok (.getfield 125, 3) := by decide +kernel
theorem dX7_put_72 : decode cX7_put 72 = .ok (.iconst 1, 1) := by decide +kernel
theorem dX7_put_73 : decode cX7_put 73 = .ok (.iadd, 1) := by decide +kernel
theorem dX7_put_74 : decode cX7_put 74 = .ok (.putfield 125, 3) := by decide +kernel
theorem dX7_put_77 : decode cX7_put 77 = .ok (.aload_n 0, 1) := by decide +kernel
theorem dX7_put_78 : decode cX7_put 78 = .ok (.getfield 17, 3) := by decide +kernel
theorem dX7_put_81 : decode cX7_put 81 = .ok (.iconst 4, 1) := by decide +kernel
theorem dX7_put_82 : decode cX7_put 82 = .ok (.iload_n 1, 1) := by decide +kernel
theorem dX7_put_83 : decode cX7_put 83 = .ok (.imul, 1) := by decide +kernel
theorem dX7_put_84 : decode cX7_put 84 = .ok (.iload_n 2, 1) := by decide +kernel
theorem dX7_put_85 : decode cX7_put 85 = .ok (.iastore, 1) := by decide +kernel
theorem dX7_put_86 : decode cX7_put 86 = .ok (.aload_n 0, 1) := by decide +kernel
theorem dX7_put_87 : decode cX7_put 87 = .ok (.getfield 17, 3) := by decide +kernel
theorem dX7_put_90 : decode cX7_put 90 = .ok (.iconst 4, 1) := by decide +kernel
theorem dX7_put_91 : decode cX7_put 91 = .ok (.iload_n 1, 1) := by decide +kernel
theorem dX7_put_92 : decode cX7_put 92 = .ok (.imul, 1) := by decide +kernel
theorem dX7_put_93 : decode cX7_put 93 = .ok (.iconst 1, 1) := by decide +kernel
theorem dX7_put_94 : decode cX7_put 94 = .ok (.iadd, 1) := by decide +kernel
theorem dX7_put_95 : decode cX7_put 95 = .ok (.aload_n 0, 1) := by decide +kernel
theorem dX7_put_96 : decode cX7_put 96 = .ok (.getfield 85, 3) := by decide +kernel
theorem dX7_put_99 : decode cX7_put 99 = .ok (.iconst 1, 1) := by decide +kernel
theorem dX7_put_100 : decode cX7_put 100 = .ok (.if_icmp .le 7, 3) := by decide +kernel
theorem dX7_put_103 : decode cX7_put 103 = .ok (.iload_n 3, 1) := by decide +kernel
theorem dX7_put_104 : decode cX7_put 104 = .ok (.goto 4, 3) := by decide +kernel
theorem dX7_put_107 : decode cX7_put 107 = .ok (.iconst 0, 1) := by decide +kernel
theorem dX7_put_108 : decode cX7_put 108 = .ok (.iastore, 1) := by decide +kernel
theorem dX7_put_109 : decode cX7_put 109 = .ok (.aload_n 0, 1) := by decide +kernel
theorem dX7_put_110 : decode cX7_put 110 = .ok (.getfield 17, 3) := by decide +kernel
theorem dX7_put_113 : decode cX7_put 113 = .ok (.iconst 4, 1) := by decide +kernel
theorem dX7_put_114 : decode cX7_put 114 = .ok (.iload_n 1, 1) := by decide +kernel
theorem dX7_put_115 : decode cX7_put 115 = .ok (.imul, 1) := by decide +kernel
theorem dX7_put_116 : decode cX7_put 116 = .ok (.iconst 2, 1) := by decide +kernel
theorem dX7_put_117 : decode cX7_put 117 = .ok (.iadd, 1) := by decide +kernel
theorem dX7_put_118 : decode cX7_put 118 = .ok (.aload_n 0, 1) := by decide +kernel
theorem dX7_put_119 : decode cX7_put 119 = .ok (.getfield 85, 3) := by decide +kernel
theorem dX7_put_122 : decode cX7_put 122 = .ok (.iconst 2, 1) := by decide +kernel
theorem dX7_put_123 : decode cX7_put 123 = .ok (.if_icmp .le 8, 3) := by decide +kernel
theorem dX7_put_126 : decode cX7_put 126 = .ok (.iload 4, 2) := by decide +kernel
theorem dX7_put_128 : decode cX7_put 128 = .ok (.goto 4, 3) := by decide +kernel
theorem dX7_put_131 : decode cX7_put 131 = .ok (.iconst 0, 1) := by decide +kernel
theorem dX7_put_132 : decode cX7_put 132 = .ok (.iastore, 1) := by decide +kernel
theorem dX7_put_133 : decode cX7_put 133 = .ok (.aload_n 0, 1) := by decide +kernel
theorem dX7_put_134 : decode cX7_put 134 = .ok (.getfield 17, 3) := by decide +kernel
theorem dX7_put_137 : decode cX7_put 137 = .ok (.iconst 4, 1) := by decide +kernel
theorem dX7_put_138 : decode cX7_put 138 = .ok (.iload_n 1, 1) := by decide +kernel
theorem dX7_put_139 : decode cX7_put 139 = .ok (.imul, 1) := by decide +kernel
theorem dX7_put_140 : decode cX7_put 140 = .ok (.iconst 3, 1) := by decide +kernel
theorem dX7_put_141 : decode cX7_put 141 = .ok (.iadd, 1) := by decide +kernel
theorem dX7_put_142 : decode cX7_put 142 = .ok (.aload_n 0, 1) := by decide +kernel
theorem dX7_put_143 : decode cX7_put 143 = .ok (.getfield 85, 3) := by decide +kernel
theorem dX7_put_146 : decode cX7_put 146 = .ok (.iconst 3, 1) := by decide +kernel
theorem dX7_put_147 : decode cX7_put 147 = .ok (.if_icmp .le 8, 3) := by decide +kernel
theorem dX7_put_150 : decode cX7_put 150 = .ok (.iload 5, 2) := by decide +kernel
theorem dX7_put_152 : decode cX7_put 152 = .ok (.goto 4, 3) := by decide +kernel
theorem dX7_put_155 : decode cX7_put 155 = .ok (.iconst 0, 1) := by decide +kernel
theorem dX7_put_156 : decode cX7_put 156 = .ok (.iastore, 1) := by decide +kernel
theorem dX7_put_157 : decode cX7_put 157 = .ok (.aload_n 0, 1) := by decide +kernel
theorem dX7_put_158 : decode cX7_put 158 = .ok (.getfield 45, 3) := by decide +kernel
theorem dX7_put_161 : decode cX7_put 161 = .ok (.istore 6, 2) := by decide +kernel
theorem dX7_put_163 : decode cX7_put 163 = .ok (.iconst (-1), 1) := by decide +kernel
theorem dX7_put_164 : decode cX7_put 164 = .ok (.istore 7, 2) := by decide +kernel
theorem dX7_put_166 : decode cX7_put 166 = .ok (.iconst 0, 1) := by decide +kernel
theorem dX7_put_167 : decode cX7_put 167 = .ok (.istore 8, 2) := by decide +kernel
theorem dX7_put_169 : decode cX7_put 169 = .ok (.iconst 0, 1) := by decide +kernel
theorem dX7_put_170 : decode cX7_put 170 = .ok (.istore 9, 2) := by decide +kernel
theorem dX7_put_172 : decode cX7_put 172 = .ok (.iload 6, 2) := by decide +kernel
theorem dX7_put_174 : decode cX7_put 174 = .ok (.iconst (-1), 1) := by decide +kernel
theorem dX7_put_175 : decode cX7_put 175 = .ok (.if_icmp .eq 56, 3) := by decide +kernel
theorem dX7_put_178 : decode cX7_put 178 = .ok (.iload 6, 2) := by decide +kernel
theorem dX7_put_180 : decode cX7_put 180 = .ok (.istore 7, 2) := by decide +kernel
theorem dX7_put_182 : decode cX7_put 182 = .ok (.aload_n 0, 1) := by decide +kernel
theorem dX7_put_183 : decode cX7_put 183 = .ok (.iload_n 1, 1) := by decide +kernel
theorem dX7_put_184 : decode cX7_put 184 = .ok (.iload 6, 2) := by decide +kernel
theorem dX7_put_186 : decode cX7_put 186 = .ok (.iload 9, 2) := by decide +kernel
theorem dX7_put_188 : decode cX7_put 188 = .ok (.invokevirtual 128, 3) := by decide +kernel
theorem dX7_put_191 : decode cX7_put 191 = .ok (.istore 8, 2) := by decide +kernel
theorem dX7_put_193 : decode cX7_put 193 = .ok (.iload 8, 2) := by decide +kernel
theorem dX7_put_195 : decode cX7_put 195 = .ok (.ifCond .eq 13, 3) := by decide +kernel
theorem dX7_put_198 : decode cX7_put 198 = .ok (.aload_n 0, 1) := by decide +kernel
theorem dX7_put_199 : decode cX7_put 199 = .ok (.getfield 36, 3) := by decide +kernel
theorem dX7_put_202 : decode cX7_put 202 = .ok (.iload 6, 2) := by decide +kernel
theorem dX7_put_204 : decode cX7_put 204 = .ok (.iaload, 1) := by decide +kernel
theorem dX7_put_205 : decode cX7_put 205 = .ok (.goto 10, 3) := by decide +kernel
theorem dX7_put_208 : decode cX7_put 208 = .ok (.aload_n 0, 1) := by decide +kernel
theorem dX7_put_209 : decode cX7_put 209 = .ok (.getfield 39, 3) := by decide +kernel
theorem dX7_put_212 : decode cX7_put 212 = .ok (.iload 6, 2) := by decide +kernel
theorem dX7_put_214 : decode cX7_put 214 = .ok (.iaload, 1) := by decide +kernel
theorem dX7_put_215 : decode cX7_put 215 = .ok (.istore 6, 2) := by decide +kernel
theorem dX7_put_217 : decode cX7_put 217 = .ok (.iload 9, 2) := by decide +kernel
theorem dX7_put_219 : decode cX7_put 219 = .ok (.iconst 1, 1) := by decide +kernel
theorem dX7_put_220 : decode cX7_put 220 = .ok (.iadd, 1) := by decide +kernel
theorem dX7_put_221 : decode cX7_put 221 = .ok (.aload_n 0, 1) := by decide +kernel
theorem dX7_put_222 : decode cX7_put 222 = .ok (.getfield 85, 3) := by decide +kernel
theorem dX7_put_225 : decode cX7_put 225 = .ok (.irem, 1) := by decide +kernel
theorem dX7_put_226 : decode cX7_put 226 = .ok (.istore 9, 2) := by decide +kernel
theorem dX7_put_228 : decode cX7_put 228 = .ok (.goto (-56), 3) := by decide +kernel
theorem dX7_put_231 : decode cX7_put 231 = .ok (.aload_n 0, 1) := by decide +kernel
theorem dX7_put_232 : decode cX7_put 232 = .ok (.iload_n 1, 1) := by decide +kernel
theorem dX7_put_233 : decode cX7_put 233 = .ok (.iload 7, 2) := by decide +kernel
theorem dX7_put_235 : decode cX7_put 235 = .ok (.invokevirtual 113, 3) := by decide +kernel
theorem dX7_put_238 : decode cX7_put 238 = .ok (.istore 10, 2) := by decide +kernel
theorem dX7_put_240 : decode cX7_put 240 = .ok (.aload_n 0, 1) := by decide +kernel
theorem dX7_put_241 : decode cX7_put 241 = .ok (.iload 10, 2) := by decide +kernel
theorem dX7_put_243 : decode cX7_put 243 = .ok (.iload 7, 2) := by decide +kernel
theorem dX7_put_245 : decode cX7_put 245 = .ok (.iload 8, 2) := by decide +kernel
theorem dX7_put_247 : decode cX7_put 247 = .ok (.invokevirtual 102, 3) := by decide +kernel
theorem dX7_put_250 : decode cX7_put 250 = .ok (.iconst (-1), 1) := by decide +kernel
theorem dX7_put_251 : decode cX7_put 251 = .ok (.istore 11, 2) := by decide +kernel
theorem dX7_put_253 : decode cX7_put 253 = .ok (.iload 10, 2) := by decide +kernel
theorem dX7_put_255 : decode cX7_put 255 = .ok (.istore 12, 2) := by decide +kernel
theorem dX7_put_257 : decode cX7_put 257 = .ok (.iload 12, 2) := by decide +kernel
theorem dX7_put_259 : decode cX7_put 259 = .ok (.iconst (-1), 1) := by decide +kernel
theorem dX7_put_260 : decode cX7_put 260 = .ok (.if_icmp .eq 80, 3) := by decide +kernel
theorem dX7_put_263 : decode cX7_put 263 = .ok (.aload_n 0, 1) := by decide +kernel
theorem dX7_put_264 : decode cX7_put 264 = .ok (.iload 12, 2) := by decide +kernel
theorem dX7_put_266 : decode cX7_put 266 = .ok (.invokevirtual 98, 3) := by decide +kernel
theorem dX7_put_269 : decode cX7_put 269 = .ok (.istore 13, 2) := by decide +kernel
theorem dX7_put_271 : decode cX7_put 271 = .ok (.aload_n 0, 1) := by decide +kernel
theorem dX7_put_272 : decode cX7_put 272 = .ok (.aload_n 0, 1) := by decide +kernel
theorem dX7_put_273 : decode cX7_put 273 = .ok (.getfield 36, 3) := by decide +kernel
theorem dX7_put_276 : decode cX7_put 276 = .ok (.iload 12, 2) := by decide +kernel
theorem dX7_put_278 : decode cX7_put 278 = .ok (.iaload, 1) := by decide +kernel
theorem dX7_put_279 : decode cX7_put 279 = .ok (.invokevirtual 98, 3) := by decide +kernel
theorem dX7_put_282 : decode cX7_put 282 = .ok (.istore 14, 2) := by decide +kernel
theorem dX7_put_284 : decode cX7_put 284 = .ok (.aload_n 0, 1) := by decide +kernel
theorem dX7_put_285 : decode cX7_put 285 = .ok (.aload_n 0, 1) := by decide +kernel
theorem dX7_put_286 : decode cX7_put 286 = .ok (.getfield 39, 3) := by decide +kernel
theorem dX7_put_289 : decode cX7_put 289 = .ok (.iload 12, 2) := by decide +kernel
theorem dX7_put_291 : decode cX7_put 291 = .ok (.iaload, 1) := by decide +kernel
theorem dX7_put_292 : decode cX7_put 292 = .ok (.invokevirtual 98, 3) := by decide +kernel
theorem dX7_put_295 : decode cX7_put 295 = .ok (.istore 15, 2) := by decide +kernel
theorem dX7_put_297 : decode cX7_put 297 = .ok (.iconst 3, 1) := by decide +kernel
theorem dX7_put_298 : decode cX7_put 298 = .ok (.iload 14, 2) := by decide +kernel
theorem dX7_put_300 : decode cX7_put 300 = .ok (.imul, 1) := by decide +kernel
theorem dX7_put_301 : decode cX7_put 301 = .ok (.iconst 2, 1) := by decide +kernel
theorem dX7_put_302 : decode cX7_put 302 = .ok (.iload 13, 2) := by decide +kernel
theorem dX7_put_304 : decode cX7_put 304 = .ok (.imul, 1) := by decide +kernel
theorem dX7_put_305 : decode cX7_put 305 = .ok (.if_icmp .gt 14, 3) := by decide +kernel
theorem dX7_put_308 : decode cX7_put 308 = .ok (.iconst 3, 1) := by decide +kernel
theorem dX7_put_309 : decode cX7_put 309 = .ok (.iload 15, 2) := by decide +kernel
theorem dX7_put_311 : decode cX7_put 311 = .ok (.imul, 1) := by decide +kernel
theorem dX7_put_312 : decode cX7_put 312 = .ok (.iconst 2, 1) := by decide +kernel
theorem dX7_put_313 : decode cX7_put 313 = .ok (.iload 13, 2) := by decide +kernel
theorem dX7_put_315 : decode cX7_put 315 = .ok (.imul, 1) := by decide +kernel
theorem dX7_put_316 : decode cX7_put 316 = .ok (.if_icmp .le 8, 3) := by decide +kernel
theorem dX7_put_319 : decode cX7_put 319 = .ok (.iload 12, 2) := by decide +kernel
theorem dX7_put_321 : decode cX7_put 321 = .ok (.goto 5, 3) := by decide +kernel
theorem dX7_put_324 : decode cX7_put 324 = .ok (.iload 11, 2) := by decide +kernel
theorem dX7_put_326 : decode cX7_put 326 = .ok (.istore 11, 2) := by decide +kernel
theorem dX7_put_328 : decode cX7_put 328 = .ok (.aload_n 0, 1) := by decide +kernel
theorem dX7_put_329 : decode cX7_put 329 = .ok (.getfield 42, 3) := by decide +kernel
theorem dX7_put_332 : decode cX7_put 332 = .ok (.iload 12, 2) := by decide +kernel
theorem dX7_put_334 : decode cX7_put 334 = .ok (.iaload, 1) := by decide +kernel
theorem dX7_put_335 : decode cX7_put 335 = .ok (.istore 12, 2) := by decide +kernel
theorem dX7_put_337 : decode cX7_put 337 = .ok (.goto (-80), 3) := by decide +kernel
theorem dX7_put_340 : decode cX7_put 340 = .ok (.iload 11, 2) := by decide +kernel
theorem dX7_put_342 : decode cX7_put 342 = .ok (.iconst (-1), 1) := by decide +kernel
theorem dX7_put_343 : decode cX7_put 343 = .ok (.if_icmp .eq 28, 3) := by decide +kernel
theorem dX7_put_346 : decode cX7_put 346 = .ok (.aload_n 0, 1) := by decide +kernel
theorem dX7_put_347 : decode cX7_put 347 = .ok (.dup, 1) := by decide +kernel
theorem dX7_put_348 : decode cX7_put 348 = .ok (.getfield 132, 3) := by decide +kernel
theorem dX7_put_351 : decode cX7_put 351 = .ok (.iconst 1, 1) := by decide +kernel
theorem dX7_put_352 : decode cX7_put 352 = .ok (.iadd, 1) := by decide +kernel
theorem dX7_put_353 : decode cX7_put 353 = .ok (.putfield 132, 3) := by decide +kernel
theorem dX7_put_356 : decode cX7_put 356 = .ok (.aload_n 0, 1) := by decide +kernel
theorem dX7_put_357 : decode cX7_put 357 = .ok (.dup, 1) := by decide +kernel
theorem dX7_put_358 : decode cX7_put 358 = .ok (.getfield 135, 3) := by decide +kernel
theorem dX7_put_361 : decode cX7_put 361 = .ok (.aload_n 0, 1) := by decide +kernel
theorem dX7_put_362 : decode cX7_put 362 = .ok (.iload 11, 2) := by decide +kernel
theorem dX7_put_364 : decode cX7_put 364 = .ok (.invokevirtual 138, 3) := by decide +kernel
theorem dX7_put_367 : decode cX7_put 367 = .ok (.iadd, 1) := by decide +kernel
theorem dX7_put_368 : decode cX7_put 368 = .ok (.putfield 135, 3) := by decide +kernel
theorem dX7_put_371 : decode cX7_put 371 = .ok (.aload_n 0, 1) := by decide +kernel
theorem dX7_put_372 : decode cX7_put 372 = .ok (.getfield 125, 3) := by decide +kernel
theorem dX7_put_375 : decode cX7_put 375 = .ok (.ireturn, 1) := by decide +kernel
theorem dX7_drop_0 : decode cX7_drop 0 = .ok (.aload_n 0, 1) := by decide +kernel
theorem dX7_drop_1 : decode cX7_drop 1 = .ok (.iload_n 1, 1) := by decide +kernel
theorem dX7_drop_2 : decode cX7_drop 2 = .ok (.invokestatic 117, 3) := by decide +kernel
theorem dX7_drop_5 : decode cX7_drop 5 = .ok (.ifCond .ne 7, 3) := by decide +kernel
theorem dX7_drop_8 : decode cX7_drop 8 = .ok (.iconst 1, 1) := by decide +kernel
theorem dX7_drop_9 : decode cX7_drop 9 = .ok (.goto 17, 3) := by decide +kernel
theorem dX7_drop_12 : decode cX7_drop 12 = .ok (.aload_n 0, 1) := by decide +kernel
theorem dX7_drop_13 : decode cX7_drop 13 = .ok (.getfield 13, 3) := by decide +kernel
theorem dX7_drop_16 : decode cX7_drop 16 = .ok (.iload_n 1, 1) := by decide +kernel
theorem dX7_drop_17 : decode cX7_drop 17 = .ok (.baload, 1) := by decide +kernel
theorem dX7_drop_18 : decode cX7_drop 18 = .ok (.ifCond .ne 7, 3) := by decide +kernel
theorem dX7_drop_21 : decode cX7_drop 21 = .ok (.iconst 2, 1) := by decide +kernel
theorem dX7_drop_22 : decode cX7_drop 22 = .ok (.goto 4, 3) := by decide +kernel
theorem dX7_drop_25 : decode cX7_drop 25 = .ok (.iconst 0, 1) := by decide +kernel
theorem dX7_drop_26 : decode cX7_drop 26 = .ok (.putfield 1, 3) := by decide +kernel
theorem dX7_drop_29 : decode cX7_drop 29 = .ok (.aload_n 0, 1) := by decide +kernel
theorem dX7_drop_30 : decode cX7_drop 30 = .ok (.getfield 1, 3) := by decide +kernel
theorem dX7_drop_33 : decode cX7_drop 33 = .ok (.ifCond .le 5, 3) := by decide +kernel
theorem dX7_drop_36 : decode cX7_drop 36 = .ok (.iconst 0, 1) := by decide +kernel
theorem dX7_drop_37 : decode cX7_drop 37 = .ok (.ireturn, 1) := by decide +kernel
theorem dX7_drop_38 : decode cX7_drop 38 = .ok (.aload_n 0, 1) := by decide +kernel
theorem dX7_drop_39 : decode cX7_drop 39 = .ok (.getfield 13, 3) := by decide +kernel
theorem dX7_drop_42 : decode cX7_drop 42 = .ok (.iload_n 1, 1) := by decide +kernel
theorem dX7_drop_43 : decode cX7_drop 43 = .ok (.iconst 0, 1) := by decide +kernel
theorem dX7_drop_44 : decode cX7_drop 44 = .ok (.bastore, 1) := by decide +kernel
theorem dX7_drop_45 : decode cX7_drop 45 = .ok (.aload_n 0, 1) := by decide +kernel
theorem dX7_drop_46 : decode cX7_drop 46 = .ok (.dup, 1) := by decide +kernel
theorem dX7_drop_47 : decode cX7_drop 47 = .ok (.getfield 125, 3) := by decide +kernel
theorem dX7_drop_50 : decode cX7_drop 50 = .ok (.iconst 1, 1) := by decide +kernel
theorem dX7_drop_51 : decode cX7_drop 51 = .ok (.isub, 1) := by decide +kernel
theorem dX7_drop_52 : decode cX7_drop 52 = .ok (.putfield 125, 3) := by decide +kernel
theorem dX7_drop_55 : decode cX7_drop 55 = .ok (.aload_n 0, 1) := by decide +kernel
theorem dX7_drop_56 : decode cX7_drop 56 = .ok (.getfield 33, 3) := by decide +kernel
theorem dX7_drop_59 : decode cX7_drop 59 = .ok (.aload_n 0, 1) := by decide +kernel
theorem dX7_drop_60 : decode cX7_drop 60 = .ok (.getfield 21, 3) := by decide +kernel
theorem dX7_drop_63 : decode cX7_drop 63 = .ok (.iload_n 1, 1) := by decide +kernel
theorem dX7_drop_64 : decode cX7_drop 64 = .ok (.iaload, 1) := by decide +kernel
theorem dX7_drop_65 : decode cX7_drop 65 = .ok (.iconst 0, 1) := by decide +kernel
theorem dX7_drop_66 : decode cX7_drop 66 = .ok (.bastore, 1) := by decide +kernel
theorem dX7_drop_67 : decode cX7_drop 67 = .ok (.aload_n 0, 1) := by decide +kernel
theorem dX7_drop_68 : decode cX7_drop 68 = .ok (.aload_n 0, 1) := by decide +kernel
theorem dX7_drop_69 : decode cX7_drop 69 = .ok (.getfield 45, 3) := by decide +kernel
theorem dX7_drop_72 : decode cX7_drop 72 = .ok (.invokevirtual 98, 3) := by decide +kernel
theorem dX7_drop_75 : decode cX7_drop 75 = .ok (.istore_n 2, 1) := by decide +kernel
theorem dX7_drop_76 : decode cX7_drop 76 = .ok (.iconst 2, 1) := by decide +kernel
theorem dX7_drop_77 : decode cX7_drop 77 = .ok (.iload_n 2, 1) := by decide +kernel
theorem dX7_drop_78 : decode cX7_drop 78 = .ok (.aload_n 0, 1) := by decide +kernel
theorem dX7_drop_79 : decode cX7_drop 79 = .ok (.getfield 125, 3) := by decide +kernel
theorem dX7_drop_82 : decode cX7_drop 82 = .ok (.isub, 1) := by decide +kernel
theorem dX7_drop_83 : decode cX7_drop 83 = .ok (.imul, 1) := by decide +kernel
theorem dX7_drop_84 : decode cX7_drop 84 = .ok (.iload_n 2, 1) := by decide +kernel
theorem dX7_drop_85 : decode cX7_drop 85 = .ok (.if_icmp .le 30, 3) := by decide +kernel
theorem dX7_drop_88 : decode cX7_drop 88 = .ok (.aload_n 0, 1) := by decide +kernel
theorem dX7_drop_89 : decode cX7_drop 89 = .ok (.dup, 1) := by decide +kernel
theorem dX7_drop_90 : decode cX7_drop 90 = .ok (.getfield 141, 3) := by decide +kernel
theorem dX7_drop_93 : decode cX7_drop 93 = .ok (.iconst 1, 1) := by decide +kernel
theorem dX7_drop_94 : decode cX7_drop 94 = .ok (.iadd, 1) := by decide +kernel
theorem dX7_drop_95 : decode cX7_drop 95 = .ok (.putfield 141, 3) := by decide +kernel
theorem dX7_drop_98 : decode cX7_drop 98 = .ok (.aload_n 0, 1) := by decide +kernel
theorem dX7_drop_99 : decode cX7_drop 99 = .ok (.dup, 1) := by decide +kernel
theorem dX7_drop_100 : decode cX7_drop 100 = .ok (.getfield 135, 3) := by decide +kernel
theorem dX7_drop_103 : decode cX7_drop 103 = .ok (.aload_n 0, 1) := by decide +kernel
theorem dX7_drop_104 : decode cX7_drop 104 = .ok (.aload_n 0, 1) := by decide +kernel
theorem dX7_drop_105 : decode cX7_drop 105 = .ok (.getfield 45, 3) := by decide +kernel
theorem dX7_drop_108 : decode cX7_drop 108 = .ok (.invokevirtual 138, 3) := by decide +kernel
theorem dX7_drop_111 : decode cX7_drop 111 = .ok (.iadd, 1) := by decide +kernel
theorem dX7_drop_112 : decode cX7_drop 112 = .ok (.putfield 135, 3) := by decide +kernel
theorem dX7_drop_115 : decode cX7_drop 115 = .ok (.aload_n 0, 1) := by decide +kernel
theorem dX7_drop_116 : decode cX7_drop 116 = .ok (.getfield 125, 3) := by decide +kernel
theorem dX7_drop_119 : decode cX7_drop 119 = .ok (.ireturn, 1) := by decide +kernel
theorem dX7_at_0 : decode cX7_at 0 = .ok (.aload_n 0, 1) := by decide +kernel
theorem dX7_at_1 : decode cX7_at 1 = .ok (.iload_n 1, 1) := by decide +kernel
theorem dX7_at_2 : decode cX7_at 2 = .ok (.invokestatic 117, 3) := by decide +kernel
theorem dX7_at_5 : decode cX7_at 5 = .ok (.ifCond .eq 15, 3) := by decide +kernel
theorem dX7_at_8 : decode cX7_at 8 = .ok (.iload_n 2, 1) := by decide +kernel
theorem dX7_at_9 : decode cX7_at 9 = .ok (.i2l, 1) := by decide +kernel
theorem dX7_at_10 : decode cX7_at 10 = .ok (.lconst 0, 1) := by decide +kernel
theorem dX7_at_11 : decode cX7_at 11 = .ok (.ldc2_w 144, 3) := by decide +kernel
theorem dX7_at_14 : decode cX7_at 14 = .ok (.invokestatic 90, 3) := by decide +kernel
theorem dX7_at_17 : decode cX7_at 17 = .ok (.ifCond .ne 7, 3) := by decide +kernel
theorem dX7_at_20 : decode cX7_at 20 = .ok (.iconst 1, 1) := by decide +kernel
theorem dX7_at_21 : decode cX7_at 21 = .ok (.goto 17, 3) := by decide +kernel
theorem dX7_at_24 : decode cX7_at 24 = .ok (.aload_n 0, 1) := by decide +kernel
theorem dX7_at_25 : decode cX7_at 25 = .ok (.getfield 13, 3) := by decide +kernel
theorem dX7_at_28 : decode cX7_at 28 = .ok (.iload_n 1, 1) := by decide +kernel
theorem dX7_at_29 : decode cX7_at 29 = .ok (.baload, 1) := by decide +kernel
theorem dX7_at_30 : decode cX7_at 30 = .ok (.ifCond .ne 7, 3) := by decide +kernel
theorem dX7_at_33 : decode cX7_at 33 = .ok (.iconst 2, 1) := by decide +kernel
theorem dX7_at_34 : decode cX7_at 34 = .ok (.goto 4, 3) := by decide +kernel
theorem dX7_at_37 : decode cX7_at 37 = .ok (.iconst 0, 1) := by decide +kernel
theorem dX7_at_38 : decode cX7_at 38 = .ok (.putfield 1, 3) := by decide +kernel
theorem dX7_at_41 : decode cX7_at 41 = .ok (.aload_n 0, 1) := by decide +kernel
theorem dX7_at_42 : decode cX7_at 42 = .ok (.getfield 1, 3) := by decide +kernel
theorem dX7_at_45 : decode cX7_at 45 = .ok (.ifCond .le 7, 3) := by decide +kernel
theorem dX7_at_48 : decode cX7_at 48 = .ok (.iconst 0, 1) := by decide +kernel
theorem dX7_at_49 : decode cX7_at 49 = .ok (.goto 13, 3) := by decide +kernel
theorem dX7_at_52 : decode cX7_at 52 = .ok (.aload_n 0, 1) := by decide +kernel
theorem dX7_at_53 : decode cX7_at 53 = .ok (.getfield 17, 3) := by decide +kernel
theorem dX7_at_56 : decode cX7_at 56 = .ok (.iconst 4, 1) := by decide +kernel
theorem dX7_at_57 : decode cX7_at 57 = .ok (.iload_n 1, 1) := by decide +kernel
theorem dX7_at_58 : decode cX7_at 58 = .ok (.imul, 1) := by decide +kernel
theorem dX7_at_59 : decode cX7_at 59 = .ok (.iload_n 2, 1) := by decide +kernel
theorem dX7_at_60 : decode cX7_at 60 = .ok (.iadd, 1) := by decide +kernel
theorem dX7_at_61 : decode cX7_at 61 = .ok (.iaload, 1) := by decide +kernel
theorem dX7_at_62 : decode cX7_at 62 = .ok (.ireturn, 1) := by decide +kernel
theorem dX7_aimAt_0 : decode cX7_aimAt 0 = .ok (.aload_n 0, 1) := by decide +kernel
theorem dX7_aimAt_1 : decode cX7_aimAt 1 = .ok (.getfield 69, 3) := by decide +kernel
theorem dX7_aimAt_4 : decode cX7_aimAt 4 = .ok (.iconst 0, 1) := by decide +kernel
theorem dX7_aimAt_5 : decode cX7_aimAt 5 = .ok (.iload_n 1, 1) := by decide +kernel
theorem dX7_aimAt_6 : decode cX7_aimAt 6 = .ok (.iastore, 1) := by decide +kernel
theorem dX7_aimAt_7 : decode cX7_aimAt 7 = .ok (.aload_n 0, 1) := by decide +kernel
theorem dX7_aimAt_8 : decode cX7_aimAt 8 = .ok (.getfield 69, 3) := by decide +kernel
theorem dX7_aimAt_11 : decode cX7_aimAt 11 = .ok (.iconst 1, 1) := by decide +kernel
theorem dX7_aimAt_12 : decode cX7_aimAt 12 = .ok (.aload_n 0, 1) := by decide +kernel
theorem dX7_aimAt_13 : decode cX7_aimAt 13 = .ok (.getfield 85, 3) := by decide +kernel
theorem dX7_aimAt_16 : decode cX7_aimAt 16 = .ok (.iconst 1, 1) := by decide +kernel
theorem dX7_aimAt_17 : decode cX7_aimAt 17 = .ok (.if_icmp .le 7, 3) := by decide +kernel
theorem dX7_aimAt_20 : decode cX7_aimAt 20 = .ok (.iload_n 2, 1) := by decide +kernel
theorem dX7_aimAt_21 : decode cX7_aimAt 21 = .ok (.goto 4, 3) := by decide +kernel
theorem dX7_aimAt_24 : decode cX7_aimAt 24 = .ok (.iconst 0, 1) := by decide +kernel
theorem dX7_aimAt_25 : decode cX7_aimAt 25 = .ok (.iastore, 1) := by decide +kernel
theorem dX7_aimAt_26 : decode cX7_aimAt 26 = .ok (.aload_n 0, 1) := by decide +kernel
theorem dX7_aimAt_27 : decode cX7_aimAt 27 = .ok (.getfield 69, 3) := by decide +kernel
theorem dX7_aimAt_30 : decode cX7_aimAt 30 = .ok (.iconst 2, 1) := by decide +kernel
theorem dX7_aimAt_31 : decode cX7_aimAt 31 = .ok (.aload_n 0, 1) := by decide +kernel
theorem dX7_aimAt_32 : decode cX7_aimAt 32 = .ok (.getfield 85, 3) := by decide +kernel
theorem dX7_aimAt_35 : decode cX7_aimAt 35 = .ok (.iconst 2, 1) := by decide +kernel
theorem dX7_aimAt_36 : decode cX7_aimAt 36 = .ok (.if_icmp .le 7, 3) := by decide +kernel
theorem dX7_aimAt_39 : decode cX7_aimAt 39 = .ok (.iload_n 3, 1) := by decide +kernel
theorem dX7_aimAt_40 : decode cX7_aimAt 40 = .ok (.goto 4, 3) := by decide +kernel
theorem dX7_aimAt_43 : decode cX7_aimAt 43 = .ok (.iconst 0, 1) := by decide +kernel
theorem dX7_aimAt_44 : decode cX7_aimAt 44 = .ok (.iastore, 1) := by decide +kernel
theorem dX7_aimAt_45 : decode cX7_aimAt 45 = .ok (.aload_n 0, 1) := by decide +kernel
theorem dX7_aimAt_46 : decode cX7_aimAt 46 = .ok (.getfield 69, 3) := by decide +kernel
theorem dX7_aimAt_49 : decode cX7_aimAt 49 = .ok (.iconst 3, 1) := by decide +kernel
theorem dX7_aimAt_50 : decode cX7_aimAt 50 = .ok (.aload_n 0, 1) := by decide +kernel
theorem dX7_aimAt_51 : decode cX7_aimAt 51 = .ok (.getfield 85, 3) := by decide +kernel
theorem dX7_aimAt_54 : decode cX7_aimAt 54 = .ok (.iconst 3, 1) := by decide +kernel
theorem dX7_aimAt_55 : decode cX7_aimAt 55 = .ok (.if_icmp .le 8, 3) := by decide +kernel
theorem dX7_aimAt_58 : decode cX7_aimAt 58 = .ok (.iload 4, 2) := by decide +kernel
theorem dX7_aimAt_60 : decode cX7_aimAt 60 = .ok (.goto 4, 3) := by decide +kernel
theorem dX7_aimAt_63 : decode cX7_aimAt 63 = .ok (.iconst 0, 1) := by decide +kernel
theorem dX7_aimAt_64 : decode cX7_aimAt 64 = .ok (.iastore, 1) := by decide +kernel
theorem dX7_aimAt_65 : decode cX7_aimAt 65 = .ok (.return_, 1) := by decide +kernel
theorem dX7_away_0 : decode cX7_away 0 = .ok (.lconst 0, 1) := by decide +kernel
theorem dX7_away_1 : decode cX7_away 1 = .ok (.lstore_n 2, 1) := by decide +kernel
theorem dX7_away_2 : decode cX7_away 2 = .ok (.iconst 0, 1) := by decide +kernel
theorem dX7_away_3 : decode cX7_away 3 = .ok (.istore 4, 2) := by decide +kernel
theorem dX7_away_5 : decode cX7_away 5 = .ok (.iload 4, 2) := by decide +kernel
theorem dX7_away_7 : decode cX7_away 7 = .ok (.iconst 4, 1) := by decide +kernel
theorem dX7_away_8 : decode cX7_away 8 = .ok (.if_icmp .ge 39, 3) := by decide +kernel
theorem dX7_away_11 : decode cX7_away 11 = .ok (.aload_n 0, 1) := by decide +kernel
theorem dX7_away_12 : decode cX7_away 12 = .ok (.getfield 69, 3) := by decide +kernel
theorem dX7_away_15 : decode cX7_away 15 = .ok (.iload 4, 2) := by decide +kernel
theorem dX7_away_17 : decode cX7_away 17 = .ok (.iaload, 1) := by decide +kernel
theorem dX7_away_18 : decode cX7_away 18 = .ok (.aload_n 0, 1) := by decide +kernel
theorem dX7_away_19 : decode cX7_away 19 = .ok (.getfield 17, 3) := by decide +kernel
theorem dX7_away_22 : decode cX7_away 22 = .ok (.iconst 4, 1) := by decide +kernel
theorem dX7_away_23 : decode cX7_away 23 = .ok (.iload_n 1, 1) := by decide +kernel
theorem dX7_away_24 : decode cX7_away 24 = .ok (.imul, 1) := by decide +kernel
theorem dX7_away_25 : decode cX7_away 25 = .ok (.iload 4, 2) := by decide +kernel
theorem dX7_away_27 : decode cX7_away 27 = .ok (.iadd, 1) := by decide +kernel
theorem dX7_away_28 : decode cX7_away 28 = .ok (.iaload, 1) := by decide +kernel
theorem dX7_away_29 : decode cX7_away 29 = .ok (.isub, 1) := by decide +kernel
theorem dX7_away_30 : decode cX7_away 30 = .ok (.i2l, 1) := by decide +kernel
theorem dX7_away_31 : decode cX7_away 31 = .ok (.lstore 5, 2) := by decide +kernel
theorem dX7_away_33 : decode cX7_away 33 = .ok (.lload_n 2, 1) := by decide +kernel
theorem dX7_away_34 : decode cX7_away 34 = .ok (.lload 5, 2) := by decide +kernel
theorem dX7_away_36 : decode cX7_away 36 = .ok (.lload 5, 2) := by decide +kernel
theorem dX7_away_38 : decode cX7_away 38 = .ok (.lmul, 1) := by decide +kernel
theorem dX7_away_39 : decode cX7_away 39 = .ok (.ladd, 1) := by decide +kernel
theorem dX7_away_40 : decode cX7_away 40 = .ok (.lstore_n 2, 1) := by decide +kernel
theorem dX7_away_41 : decode cX7_away 41 = .ok (.iinc 4 1, 3) := by decide +kernel
theorem dX7_away_44 : decode cX7_away 44 = .ok (.goto (-39), 3) := by decide +kernel
theorem dX7_away_47 : decode cX7_away 47 = .ok (.lload_n 2, 1) := by decide +kernel
theorem dX7_away_48 : decode cX7_away 48 = .ok (.lreturn, 1) := by decide +kernel
theorem dX7_come_0 : decode cX7_come 0 = .ok (.aload_n 0, 1) := by decide +kernel
theorem dX7_come_1 : decode cX7_come 1 = .ok (.iload_n 1, 1) := by decide +kernel
end
section
theorem dX7_come_2 : decode cX7_come 2 = .ok (.invokevirtual 146, 3) := by decide +kernel
theorem dX7_come_5 : decode cX7_come 5 = .ok (.lstore_n 3, 1) := by decide +kernel
theorem dX7_come_6 : decode cX7_come 6 = .ok (.aload_n 0, 1) := by decide +kernel
theorem dX7_come_7 : decode cX7_come 7 = .ok (.getfield 150, 3) := by decide +kernel
theorem dX7_come_10 : decode cX7_come 10 = .ok (.istore 5, 2) := by decide +kernel
theorem dX7_come_12 : decode cX7_come 12 = .ok (.iload 5, 2) := by decide +kernel
theorem dX7_come_14 : decode cX7_come 14 = .ok (.ifCond .le 50, 3) := by decide +kernel
theorem dX7_come_17 : decode cX7_come 17 = .ok (.aload_n 0, 1) := by decide +kernel
theorem dX7_come_18 : decode cX7_come 18 = .ok (.getfield 75, 3) := by decide +kernel
theorem dX7_come_21 : decode cX7_come 21 = .ok (.iload 5, 2) := by decide +kernel
theorem dX7_come_23 : decode cX7_come 23 = .ok (.iconst 1, 1) := by decide +kernel
theorem dX7_come_24 : decode cX7_come 24 = .ok (.isub, 1) := by decide +kernel
theorem dX7_come_25 : decode cX7_come 25 = .ok (.laload, 1) := by decide +kernel
theorem dX7_come_26 : decode cX7_come 26 = .ok (.lload_n 3, 1) := by decide +kernel
theorem dX7_come_27 : decode cX7_come 27 = .ok (.lcmp, 1) := by decide +kernel
theorem dX7_come_28 : decode cX7_come 28 = .ok (.ifCond .gt 30, 3) := by decide +kernel
theorem dX7_come_31 : decode cX7_come 31 = .ok (.aload_n 0, 1) := by decide +kernel
theorem dX7_come_32 : decode cX7_come 32 = .ok (.getfield 75, 3) := by decide +kernel
theorem dX7_come_35 : decode cX7_come 35 = .ok (.iload 5, 2) := by decide +kernel
theorem dX7_come_37 : decode cX7_come 37 = .ok (.iconst 1, 1) := by decide +kernel
theorem dX7_come_38 : decode cX7_come 38 = .ok (.isub, 1) := by decide +kernel
theorem dX7_come_39 : decode cX7_come 39 = .ok (.laload, 1) := by decide +kernel
theorem dX7_come_40 : decode cX7_come 40 = .ok (.lload_n 3, 1) := by decide +kernel
theorem dX7_come_41 : decode cX7_come 41 = .ok (.lcmp, 1) := by decide +kernel
theorem dX7_come_42 : decode cX7_come 42 = .ok (.ifCond .ne 22, 3) := by decide +kernel
theorem dX7_come_45 : decode cX7_come 45 = .ok (.aload_n 0, 1) := by decide +kernel
theorem dX7_come_46 : decode cX7_come 46 = .ok (.getfield 72, 3) := by decide +kernel
theorem dX7_come_49 : decode cX7_come 49 = .ok (.iload 5, 2) := by decide +kernel
theorem dX7_come_51 : decode cX7_come 51 = .ok (.iconst 1, 1) := by decide +kernel
theorem dX7_come_52 : decode cX7_come 52 = .ok (.isub, 1) := by decide +kernel
theorem dX7_come_53 : decode cX7_come 53 = .ok (.iaload, 1) := by decide +kernel
theorem dX7_come_54 : decode cX7_come 54 = .ok (.iload_n 1, 1) := by decide +kernel
theorem dX7_come_55 : decode cX7_come 55 = .ok (.if_icmp .le 9, 3) := by decide +kernel
theorem dX7_come_58 : decode cX7_come 58 = .ok (.iinc 5 (-1), 3) := by decide +kernel
theorem dX7_come_61 : decode cX7_come 61 = .ok (.goto (-49), 3) := by decide +kernel
theorem dX7_come_64 : decode cX7_come 64 = .ok (.iload 5, 2) := by decide +kernel
theorem dX7_come_66 : decode cX7_come 66 = .ok (.iload_n 2, 1) := by decide +kernel
theorem dX7_come_67 : decode cX7_come 67 = .ok (.if_icmp .ne 4, 3) := by decide +kernel
theorem dX7_come_70 : decode cX7_come 70 = .ok (.return_, 1) := by decide +kernel
theorem dX7_come_71 : decode cX7_come 71 = .ok (.aload_n 0, 1) := by decide +kernel
theorem dX7_come_72 : decode cX7_come 72 = .ok (.getfield 150, 3) := by decide +kernel
theorem dX7_come_75 : decode cX7_come 75 = .ok (.iload_n 2, 1) := by decide +kernel
theorem dX7_come_76 : decode cX7_come 76 = .ok (.if_icmp .ge 10, 3) := by decide +kernel
theorem dX7_come_79 : decode cX7_come 79 = .ok (.aload_n 0, 1) := by decide +kernel
theorem dX7_come_80 : decode cX7_come 80 = .ok (.getfield 150, 3) := by decide +kernel
theorem dX7_come_83 : decode cX7_come 83 = .ok (.goto 6, 3) := by decide +kernel
theorem dX7_come_86 : decode cX7_come 86 = .ok (.iload_n 2, 1) := by decide +kernel
theorem dX7_come_87 : decode cX7_come 87 = .ok (.iconst 1, 1) := by decide +kernel
theorem dX7_come_88 : decode cX7_come 88 = .ok (.isub, 1) := by decide +kernel
theorem dX7_come_89 : decode cX7_come 89 = .ok (.istore 6, 2) := by decide +kernel
theorem dX7_come_91 : decode cX7_come 91 = .ok (.iload 6, 2) := by decide +kernel
theorem dX7_come_93 : decode cX7_come 93 = .ok (.istore 7, 2) := by decide +kernel
theorem dX7_come_95 : decode cX7_come 95 = .ok (.iload 7, 2) := by decide +kernel
theorem dX7_come_97 : decode cX7_come 97 = .ok (.iload 5, 2) := by decide +kernel
theorem dX7_come_99 : decode cX7_come 99 = .ok (.if_icmp .le 41, 3) := by decide +kernel
theorem dX7_come_102 : decode cX7_come 102 = .ok (.aload_n 0, 1) := by decide +kernel
theorem dX7_come_103 : decode cX7_come 103 = .ok (.getfield 72, 3) := by decide +kernel
theorem dX7_come_106 : decode cX7_come 106 = .ok (.iload 7, 2) := by decide +kernel
theorem dX7_come_108 : decode cX7_come 108 = .ok (.aload_n 0, 1) := by decide +kernel
theorem dX7_come_109 : decode cX7_come 109 = .ok (.getfield 72, 3) := by decide +kernel
theorem dX7_come_112 : decode cX7_come 112 = .ok (.iload 7, 2) := by decide +kernel
theorem dX7_come_114 : decode cX7_come 114 = .ok (.iconst 1, 1) := by decide +kernel
theorem dX7_come_115 : decode cX7_come 115 = .ok (.isub, 1) := by decide +kernel
theorem dX7_come_116 : decode cX7_come 116 = .ok (.iaload, 1) := by decide +kernel
theorem dX7_come_117 : decode cX7_come 117 = .ok (.iastore, 1) := by decide +kernel
theorem dX7_come_118 : decode cX7_come 118 = .ok (.aload_n 0, 1) := by decide +kernel
theorem dX7_come_119 : decode cX7_come 119 = .ok (.getfield 75, 3) := by decide +kernel
theorem dX7_come_122 : decode cX7_come 122 = .ok (.iload 7, 2) := by decide +kernel
theorem dX7_come_124 : decode cX7_come 124 = .ok (.aload_n 0, 1) := by decide +kernel
theorem dX7_come_125 : decode cX7_come 125 = .ok (.getfield 75, 3) := by decide +kernel
theorem dX7_come_128 : decode cX7_come 128 = .ok (.iload 7, 2) := by decide +kernel
theorem dX7_come_130 : decode cX7_come 130 = .ok (.iconst 1, 1) := by decide +kernel
theorem dX7_come_131 : decode cX7_come 131 = .ok (.isub, 1) := by decide +kernel
theorem dX7_come_132 : decode cX7_come 132 = .ok (.laload, 1) := by decide +kernel
theorem dX7_come_133 : decode cX7_come 133 = .ok (.lastore, 1) := by decide +kernel
theorem dX7_come_134 : decode cX7_come 134 = .ok (.iinc 7 (-1), 3) := by decide +kernel
theorem dX7_come_137 : decode cX7_come 137 = .ok (.goto (-42), 3) := by decide +kernel
theorem dX7_come_140 : decode cX7_come 140 = .ok (.aload_n 0, 1) := by decide +kernel
theorem dX7_come_141 : decode cX7_come 141 = .ok (.getfield 72, 3) := by decide +kernel
theorem dX7_come_144 : decode cX7_come 144 = .ok (.iload 5, 2) := by decide +kernel
theorem dX7_come_146 : decode cX7_come 146 = .ok (.iload_n 1, 1) := by decide +kernel
theorem dX7_come_147 : decode cX7_come 147 = .ok (.iastore, 1) := by decide +kernel
theorem dX7_come_148 : decode cX7_come 148 = .ok (.aload_n 0, 1) := by decide +kernel
theorem dX7_come_149 : decode cX7_come 149 = .ok (.getfield 75, 3) := by decide +kernel
theorem dX7_come_152 : decode cX7_come 152 = .ok (.iload 5, 2) := by decide +kernel
theorem dX7_come_154 : decode cX7_come 154 = .ok (.lload_n 3, 1) := by decide +kernel
theorem dX7_come_155 : decode cX7_come 155 = .ok (.lastore, 1) := by decide +kernel
theorem dX7_come_156 : decode cX7_come 156 = .ok (.aload_n 0, 1) := by decide +kernel
theorem dX7_come_157 : decode cX7_come 157 = .ok (.iload 6, 2) := by decide +kernel
theorem dX7_come_159 : decode cX7_come 159 = .ok (.iconst 1, 1) := by decide +kernel
theorem dX7_come_160 : decode cX7_come 160 = .ok (.iadd, 1) := by decide +kernel
theorem dX7_come_161 : decode cX7_come 161 = .ok (.putfield 150, 3) := by decide +kernel
theorem dX7_come_164 : decode cX7_come 164 = .ok (.return_, 1) := by decide +kernel
theorem dX7_nearest_0 : decode cX7_nearest 0 = .ok (.aload_n 0, 1) := by decide +kernel
theorem dX7_nearest_1 : decode cX7_nearest 1 = .ok (.iload_n 1, 1) := by decide +kernel
theorem dX7_nearest_2 : decode cX7_nearest 2 = .ok (.i2l, 1) := by decide +kernel
theorem dX7_nearest_3 : decode cX7_nearest 3 = .ok (.lconst 0, 1) := by decide +kernel
theorem dX7_nearest_4 : decode cX7_nearest 4 = .ok (.ldc2_w 153, 3) := by decide +kernel
theorem dX7_nearest_7 : decode cX7_nearest 7 = .ok (.invokestatic 90, 3) := by decide +kernel
theorem dX7_nearest_10 : decode cX7_nearest 10 = .ok (.ifCond .eq 16, 3) := by decide +kernel
theorem dX7_nearest_13 : decode cX7_nearest 13 = .ok (.aload_n 0, 1) := by decide +kernel
theorem dX7_nearest_14 : decode cX7_nearest 14 = .ok (.iload_n 2, 1) := by decide +kernel
theorem dX7_nearest_15 : decode cX7_nearest 15 = .ok (.iload_n 3, 1) := by decide +kernel
theorem dX7_nearest_16 : decode cX7_nearest 16 = .ok (.iload 4, 2) := by decide +kernel
theorem dX7_nearest_18 : decode cX7_nearest 18 = .ok (.iload 5, 2) := by decide +kernel
theorem dX7_nearest_20 : decode cX7_nearest 20 = .ok (.invokevirtual 121, 3) := by decide +kernel
theorem dX7_nearest_23 : decode cX7_nearest 23 = .ok (.ifCond .ne 7, 3) := by decide +kernel
theorem dX7_nearest_26 : decode cX7_nearest 26 = .ok (.iconst 1, 1) := by decide +kernel
theorem dX7_nearest_27 : decode cX7_nearest 27 = .ok (.goto 4, 3) := by decide +kernel
theorem dX7_nearest_30 : decode cX7_nearest 30 = .ok (.iconst 0, 1) := by decide +kernel
theorem dX7_nearest_31 : decode cX7_nearest 31 = .ok (.putfield 1, 3) := by decide +kernel
theorem dX7_nearest_34 : decode cX7_nearest 34 = .ok (.aload_n 0, 1) := by decide +kernel
theorem dX7_nearest_35 : decode cX7_nearest 35 = .ok (.getfield 1, 3) := by decide +kernel
theorem dX7_nearest_38 : decode cX7_nearest 38 = .ok (.ifCond .le 5, 3) := by decide +kernel
theorem dX7_nearest_41 : decode cX7_nearest 41 = .ok (.iconst 0, 1) := by decide +kernel
theorem dX7_nearest_42 : decode cX7_nearest 42 = .ok (.ireturn, 1) := by decide +kernel
theorem dX7_nearest_43 : decode cX7_nearest 43 = .ok (.aload_n 0, 1) := by decide +kernel
theorem dX7_nearest_44 : decode cX7_nearest 44 = .ok (.iload_n 2, 1) := by decide +kernel
theorem dX7_nearest_45 : decode cX7_nearest 45 = .ok (.iload_n 3, 1) := by decide +kernel
theorem dX7_nearest_46 : decode cX7_nearest 46 = .ok (.iload 4, 2) := by decide +kernel
theorem dX7_nearest_48 : decode cX7_nearest 48 = .ok (.iload 5, 2) := by decide +kernel
theorem dX7_nearest_50 : decode cX7_nearest 50 = .ok (.invokevirtual 155, 3) := by decide +kernel
theorem dX7_nearest_53 : decode cX7_nearest 53 = .ok (.aload_n 0, 1) := by decide +kernel
theorem dX7_nearest_54 : decode cX7_nearest 54 = .ok (.iconst 0, 1) := by decide +kernel
theorem dX7_nearest_55 : decode cX7_nearest 55 = .ok (.putfield 150, 3) := by decide +kernel
theorem dX7_nearest_58 : decode cX7_nearest 58 = .ok (.aload_n 0, 1) := by decide +kernel
theorem dX7_nearest_59 : decode cX7_nearest 59 = .ok (.iconst 0, 1) := by decide +kernel
theorem dX7_nearest_60 : decode cX7_nearest 60 = .ok (.putfield 159, 3) := by decide +kernel
theorem dX7_nearest_63 : decode cX7_nearest 63 = .ok (.iconst 0, 1) := by decide +kernel
theorem dX7_nearest_64 : decode cX7_nearest 64 = .ok (.istore 6, 2) := by decide +kernel
theorem dX7_nearest_66 : decode cX7_nearest 66 = .ok (.aload_n 0, 1) := by decide +kernel
theorem dX7_nearest_67 : decode cX7_nearest 67 = .ok (.getfield 45, 3) := by decide +kernel
theorem dX7_nearest_70 : decode cX7_nearest 70 = .ok (.iconst (-1), 1) := by decide +kernel
theorem dX7_nearest_71 : decode cX7_nearest 71 = .ok (.if_icmp .eq 23, 3) := by decide +kernel
theorem dX7_nearest_74 : decode cX7_nearest 74 = .ok (.aload_n 0, 1) := by decide +kernel
theorem dX7_nearest_75 : decode cX7_nearest 75 = .ok (.getfield 51, 3) := by decide +kernel
theorem dX7_nearest_78 : decode cX7_nearest 78 = .ok (.iconst 0, 1) := by decide +kernel
theorem dX7_nearest_79 : decode cX7_nearest 79 = .ok (.aload_n 0, 1) := by decide +kernel
theorem dX7_nearest_80 : decode cX7_nearest 80 = .ok (.getfield 45, 3) := by decide +kernel
theorem dX7_nearest_83 : decode cX7_nearest 83 = .ok (.iastore, 1) := by decide +kernel
theorem dX7_nearest_84 : decode cX7_nearest 84 = .ok (.aload_n 0, 1) := by decide +kernel
theorem dX7_nearest_85 : decode cX7_nearest 85 = .ok (.getfield 79, 3) := by decide +kernel
theorem dX7_nearest_88 : decode cX7_nearest 88 = .ok (.iconst 0, 1) := by decide +kernel
theorem dX7_nearest_89 : decode cX7_nearest 89 = .ok (.iconst 0, 1) := by decide +kernel
theorem dX7_nearest_90 : decode cX7_nearest 90 = .ok (.bastore, 1) := by decide +kernel
theorem dX7_nearest_91 : decode cX7_nearest 91 = .ok (.iconst 1, 1) := by decide +kernel
theorem dX7_nearest_92 : decode cX7_nearest 92 = .ok (.istore 6, 2) := by decide +kernel
theorem dX7_nearest_94 : decode cX7_nearest 94 = .ok (.iload 6, 2) := by decide +kernel
theorem dX7_nearest_96 : decode cX7_nearest 96 = .ok (.ifCond .le 261, 3) := by decide +kernel
theorem dX7_nearest_99 : decode cX7_nearest 99 = .ok (.aload_n 0, 1) := by decide +kernel
theorem dX7_nearest_100 : decode cX7_nearest 100 = .ok (.getfield 51, 3) := by decide +kernel
theorem dX7_nearest_103 : decode cX7_nearest 103 = .ok (.iload 6, 2) := by decide +kernel
theorem dX7_nearest_105 : decode cX7_nearest 105 = .ok (.iconst 1, 1) := by decide +kernel
theorem dX7_nearest_106 : decode cX7_nearest 106 = .ok (.isub, 1) := by decide +kernel
theorem dX7_nearest_107 : decode cX7_nearest 107 = .ok (.iaload, 1) := by decide +kernel
theorem dX7_nearest_108 : decode cX7_nearest 108 = .ok (.istore 7, 2) := by decide +kernel
theorem dX7_nearest_110 : decode cX7_nearest 110 = .ok (.aload_n 0, 1) := by decide +kernel
theorem dX7_nearest_111 : decode cX7_nearest 111 = .ok (.iload 7, 2) := by decide +kernel
theorem dX7_nearest_113 : decode cX7_nearest 113 = .ok (.invokevirtual 106, 3) := by decide +kernel
theorem dX7_nearest_116 : decode cX7_nearest 116 = .ok (.aload_n 0, 1) := by decide +kernel
theorem dX7_nearest_117 : decode cX7_nearest 117 = .ok (.getfield 85, 3) := by decide +kernel
theorem dX7_nearest_120 : decode cX7_nearest 120 = .ok (.irem, 1) := by decide +kernel
theorem dX7_nearest_121 : decode cX7_nearest 121 = .ok (.istore 8, 2) := by decide +kernel
theorem dX7_nearest_123 : decode cX7_nearest 123 = .ok (.aload_n 0, 1) := by decide +kernel
theorem dX7_nearest_124 : decode cX7_nearest 124 = .ok (.getfield 69, 3) := by decide +kernel
theorem dX7_nearest_127 : decode cX7_nearest 127 = .ok (.iload 8, 2) := by decide +kernel
theorem dX7_nearest_129 : decode cX7_nearest 129 = .ok (.iaload, 1) := by decide +kernel
theorem dX7_nearest_130 : decode cX7_nearest 130 = .ok (.aload_n 0, 1) := by decide +kernel
theorem dX7_nearest_131 : decode cX7_nearest 131 = .ok (.getfield 30, 3) := by decide +kernel
theorem dX7_nearest_134 : decode cX7_nearest 134 = .ok (.iconst 4, 1) := by decide +kernel
theorem dX7_nearest_135 : decode cX7_nearest 135 = .ok (.iload 7, 2) := by decide +kernel
theorem dX7_nearest_137 : decode cX7_nearest 137 = .ok (.imul, 1) := by decide +kernel
theorem dX7_nearest_138 : decode cX7_nearest 138 = .ok (.iload 8, 2) := by decide +kernel
theorem dX7_nearest_140 : decode cX7_nearest 140 = .ok (.iadd, 1) := by decide +kernel
theorem dX7_nearest_141 : decode cX7_nearest 141 = .ok (.iaload, 1) := by decide +kernel
theorem dX7_nearest_142 : decode cX7_nearest 142 = .ok (.if_icmp .ge 7, 3) := by decide +kernel
theorem dX7_nearest_145 : decode cX7_nearest 145 = .ok (.iconst 1, 1) := by decide +kernel
theorem dX7_nearest_146 : decode cX7_nearest 146 = .ok (.goto 4, 3) := by decide +kernel
theorem dX7_nearest_149 : decode cX7_nearest 149 = .ok (.iconst 0, 1) := by decide +kernel
theorem dX7_nearest_150 : decode cX7_nearest 150 = .ok (.istore 9, 2) := by decide +kernel
theorem dX7_nearest_152 : decode cX7_nearest 152 = .ok (.aload_n 0, 1) := by decide +kernel
theorem dX7_nearest_153 : decode cX7_nearest 153 = .ok (.getfield 79, 3) := by decide +kernel
theorem dX7_nearest_156 : decode cX7_nearest 156 = .ok (.iload 6, 2) := by decide +kernel
theorem dX7_nearest_158 : decode cX7_nearest 158 = .ok (.iconst 1, 1) := by decide +kernel
theorem dX7_nearest_159 : decode cX7_nearest 159 = .ok (.isub, 1) := by decide +kernel
theorem dX7_nearest_160 : decode cX7_nearest 160 = .ok (.baload, 1) := by decide +kernel
theorem dX7_nearest_161 : decode cX7_nearest 161 = .ok (.ifCond .ne 72, 3) := by decide +kernel
theorem dX7_nearest_164 : decode cX7_nearest 164 = .ok (.aload_n 0, 1) := by decide +kernel
theorem dX7_nearest_165 : decode cX7_nearest 165 = .ok (.getfield 79, 3) := by decide +kernel
theorem dX7_nearest_168 : decode cX7_nearest 168 = .ok (.iload 6, 2) := by decide +kernel
theorem dX7_nearest_170 : decode cX7_nearest 170 = .ok (.iconst 1, 1) := by decide +kernel
theorem dX7_nearest_171 : decode cX7_nearest 171 = .ok (.isub, 1) := by decide +kernel
theorem dX7_nearest_172 : decode cX7_nearest 172 = .ok (.iconst 1, 1) := by decide +kernel
theorem dX7_nearest_173 : decode cX7_nearest 173 = .ok (.bastore, 1) := by decide +kernel
theorem dX7_nearest_174 : decode cX7_nearest 174 = .ok (.aload_n 0, 1) := by decide +kernel
theorem dX7_nearest_175 : decode cX7_nearest 175 = .ok (.dup, 1) := by decide +kernel
theorem dX7_nearest_176 : decode cX7_nearest 176 = .ok (.getfield 159, 3) := by decide +kernel
theorem dX7_nearest_179 : decode cX7_nearest 179 = .ok (.iconst 1, 1) := by decide +kernel
theorem dX7_nearest_180 : decode cX7_nearest 180 = .ok (.iadd, 1) := by decide +kernel
theorem dX7_nearest_181 : decode cX7_nearest 181 = .ok (.putfield 159, 3) := by decide +kernel
theorem dX7_nearest_184 : decode cX7_nearest 184 = .ok (.aload_n 0, 1) := by decide +kernel
theorem dX7_nearest_185 : decode cX7_nearest 185 = .ok (.getfield 33, 3) := by decide +kernel
theorem dX7_nearest_188 : decode cX7_nearest 188 = .ok (.iload 7, 2) := by decide +kernel
theorem dX7_nearest_190 : decode cX7_nearest 190 = .ok (.baload, 1) := by decide +kernel
theorem dX7_nearest_191 : decode cX7_nearest 191 = .ok (.ifCond .eq 15, 3) := by decide +kernel
theorem dX7_nearest_194 : decode cX7_nearest 194 = .ok (.aload_n 0, 1) := by decide +kernel
theorem dX7_nearest_195 : decode cX7_nearest 195 = .ok (.aload_n 0, 1) := by decide +kernel
theorem dX7_nearest_196 : decode cX7_nearest 196 = .ok (.getfield 27, 3) := by decide +kernel
theorem dX7_nearest_199 : decode cX7_nearest 199 = .ok (.iload 7, 2) := by decide +kernel
theorem dX7_nearest_201 : decode cX7_nearest 201 = .ok (.iaload, 1) := by decide +kernel
theorem dX7_nearest_202 : decode cX7_nearest 202 = .ok (.iload_n 1, 1) := by decide +kernel
theorem dX7_nearest_203 : decode cX7_nearest 203 = .ok (.invokevirtual 162, 3) := by decide +kernel
theorem dX7_nearest_206 : decode cX7_nearest 206 = .ok (.iload 9, 2) := by decide +kernel
theorem dX7_nearest_208 : decode cX7_nearest 208 = .ok (.ifCond .eq 13, 3) := by decide +kernel
theorem dX7_nearest_211 : decode cX7_nearest 211 = .ok (.aload_n 0, 1) := by decide +kernel
theorem dX7_nearest_212 : decode cX7_nearest 212 = .ok (.getfield 36, 3) := by decide +kernel
theorem dX7_nearest_215 : decode cX7_nearest 215 = .ok (.iload 7, 2) := by decide +kernel
theorem dX7_nearest_217 : decode cX7_nearest 217 = .ok (.iaload, 1) := by decide +kernel
theorem dX7_nearest_218 : decode cX7_nearest 218 = .ok (.goto 10, 3) := by decide +kernel
theorem dX7_nearest_221 : decode cX7_nearest 221 = .ok (.aload_n 0, 1) := by decide +kernel
theorem dX7_nearest_222 : decode cX7_nearest 222 = .ok (.getfield 39, 3) := by decide +kernel
theorem dX7_nearest_225 : decode cX7_nearest 225 = .ok (.iload 7, 2) := by decide +kernel
theorem dX7_nearest_227 : decode cX7_nearest 227 = .ok (.iaload, 1) := by decide +kernel
theorem dX7_nearest_228 : decode cX7_nearest 228 = .ok (.istore 10, 2) := by decide +kernel
theorem dX7_nearest_230 : decode cX7_nearest 230 = .ok (.goto 98, 3) := by decide +kernel
theorem dX7_nearest_233 : decode cX7_nearest 233 = .ok (.iinc 6 (-1), 3) := by decide +kernel
theorem dX7_nearest_236 : decode cX7_nearest 236 = .ok (.aload_n 0, 1) := by decide +kernel
theorem dX7_nearest_237 : decode cX7_nearest 237 = .ok (.getfield 69, 3) := by decide +kernel
theorem dX7_nearest_240 : decode cX7_nearest 240 = .ok (.iload 8, 2) := by decide +kernel
theorem dX7_nearest_242 : decode cX7_nearest 242 = .ok (.iaload, 1) := by decide +kernel
theorem dX7_nearest_243 : decode cX7_nearest 243 = .ok (.aload_n 0, 1) := by decide +kernel
theorem dX7_nearest_244 : decode cX7_nearest 244 = .ok (.getfield 30, 3) := by decide +kernel
theorem dX7_nearest_247 : decode cX7_nearest 247 = .ok (.iconst 4, 1) := by decide +kernel
theorem dX7_nearest_248 : decode cX7_nearest 248 = .ok (.iload 7, 2) := by decide +kernel
theorem dX7_nearest_250 : decode cX7_nearest 250 = .ok (.imul, 1) := by decide +kernel
theorem dX7_nearest_251 : decode cX7_nearest 251 = .ok (.iload 8, 2) := by decide +kernel
theorem dX7_nearest_253 : decode cX7_nearest 253 = .ok (.iadd, 1) := by decide +kernel
theorem dX7_nearest_254 : decode cX7_nearest 254 = .ok (.iaload, 1) := by decide +kernel
theorem dX7_nearest_255 : decode cX7_nearest 255 = .ok (.isub, 1) := by decide +kernel
theorem dX7_nearest_256 : decode cX7_nearest 256 = .ok (.i2l, 1) := by decide +kernel
theorem dX7_nearest_257 : decode cX7_nearest 257 = .ok (.lstore 11, 2) := by decide +kernel
theorem dX7_nearest_259 : decode cX7_nearest 259 = .ok (.iload_n 1, 1) := by decide +kernel
theorem dX7_nearest_260 : decode cX7_nearest 260 = .ok (.ifCond .le 32, 3) := by decide +kernel
theorem dX7_nearest_263 : decode cX7_nearest 263 = .ok (.aload_n 0, 1) := by decide +kernel
theorem dX7_nearest_264 : decode cX7_nearest 264 = .ok (.getfield 150, 3) := by decide +kernel
theorem dX7_nearest_267 : decode cX7_nearest 267 = .ok (.iload_n 1, 1) := by decide +kernel
theorem dX7_nearest_268 : decode cX7_nearest 268 = .ok (.if_icmp .lt 20, 3) := by decide +kernel
theorem dX7_nearest_271 : decode cX7_nearest 271 = .ok (.lload 11, 2) := by decide +kernel
theorem dX7_nearest_273 : decode cX7_nearest 273 = .ok (.lload 11, 2) := by decide +kernel
theorem dX7_nearest_275 : decode cX7_nearest 275 = .ok (.lmul, 1) := by decide +kernel
theorem dX7_nearest_276 : decode cX7_nearest 276 = .ok (.aload_n 0, 1) := by decide +kernel
theorem dX7_nearest_277 : decode cX7_nearest 277 = .ok (.getfield 75, 3) := by decide +kernel
theorem dX7_nearest_280 : decode cX7_nearest 280 = .ok (.iload_n 1, 1) := by decide +kernel
theorem dX7_nearest_281 : decode cX7_nearest 281 = .ok (.iconst 1, 1) := by decide +kernel
theorem dX7_nearest_282 : decode cX7_nearest 282 = .ok (.isub, 1) := by decide +kernel
theorem dX7_nearest_283 : decode cX7_nearest 283 = .ok (.laload, 1) := by decide +kernel
theorem dX7_nearest_284 : decode cX7_nearest 284 = .ok (.lcmp, 1) := by decide +kernel
theorem dX7_nearest_285 : decode cX7_nearest 285 = .ok (.ifCond .gt 7, 3) := by decide +kernel
theorem dX7_nearest_288 : decode cX7_nearest 288 = .ok (.iconst 1, 1) := by decide +kernel
theorem dX7_nearest_289 : decode cX7_nearest 289 = .ok (.goto 4, 3) := by decide +kernel
theorem dX7_nearest_292 : decode cX7_nearest 292 = .ok (.iconst 0, 1) := by decide +kernel
theorem dX7_nearest_293 : decode cX7_nearest 293 = .ok (.istore 13, 2) := by decide +kernel
theorem dX7_nearest_295 : decode cX7_nearest 295 = .ok (.iload 13, 2) := by decide +kernel
theorem dX7_nearest_297 : decode cX7_nearest 297 = .ok (.ifCond .ne 7, 3) := by decide +kernel
theorem dX7_nearest_300 : decode cX7_nearest 300 = .ok (.iconst (-1), 1) := by decide +kernel
theorem dX7_nearest_301 : decode cX7_nearest 301 = .ok (.goto 25, 3) := by decide +kernel
theorem dX7_nearest_304 : decode cX7_nearest 304 = .ok (.iload 9, 2) := by decide +kernel
theorem dX7_nearest_306 : decode cX7_nearest 306 = .ok (.ifCond .eq 13, 3) := by decide +kernel
theorem dX7_nearest_309 : decode cX7_nearest 309 = .ok (.aload_n 0, 1) := by decide +kernel
theorem dX7_nearest_310 : decode cX7_nearest 310 = .ok (.getfield 39, 3) := by decide +kernel
theorem dX7_nearest_313 : decode cX7_nearest 313 = .ok (.iload 7, 2) := by decide +kernel
theorem dX7_nearest_315 : decode cX7_nearest 315 = .ok (.iaload, 1) := by decide +kernel
theorem dX7_nearest_316 : decode cX7_nearest 316 = .ok (.goto 10, 3) := by decide +kernel
theorem dX7_nearest_319 : decode cX7_nearest 319 = .ok (.aload_n 0, 1) := by decide +kernel
theorem dX7_nearest_320 : decode cX7_nearest 320 = .ok (.getfield 36, 3) := by decide +kernel
theorem dX7_nearest_323 : decode cX7_nearest 323 = .ok (.iload 7, 2) := by decide +kernel
theorem dX7_nearest_325 : decode cX7_nearest 325 = .ok (.iaload, 1) := by decide +kernel
theorem dX7_nearest_326 : decode cX7_nearest 326 = .ok (.istore 10, 2) := by decide +kernel
theorem dX7_nearest_328 : decode cX7_nearest 328 = .ok (.iload 10, 2) := by decide +kernel
theorem dX7_nearest_330 : decode cX7_nearest 330 = .ok (.iconst (-1), 1) := by decide +kernel
theorem dX7_nearest_331 : decode cX7_nearest 331 = .ok (.if_icmp .eq 23, 3) := by decide +kernel
theorem dX7_nearest_334 : decode cX7_nearest 334 = .ok (.aload_n 0, 1) := by decide +kernel
theorem dX7_nearest_335 : decode cX7_nearest 335 = .ok (.getfield 51, 3) := by decide +kernel
theorem dX7_nearest_338 : decode cX7_nearest 338 = .ok (.iload 6, 2) := by decide +kernel
theorem dX7_nearest_340 : decode cX7_nearest 340 = .ok (.iload 10, 2) := by decide +kernel
theorem dX7_nearest_342 : decode cX7_nearest 342 = .ok (.iastore, 1) := by decide +kernel
theorem dX7_nearest_343 : decode cX7_nearest 343 = .ok (.aload_n 0, 1) := by decide +kernel
theorem dX7_nearest_344 : decode cX7_nearest 344 = .ok (.getfield 79, 3) := by decide +kernel
theorem dX7_nearest_347 : decode cX7_nearest 347 = .ok (.iload 6, 2) := by decide +kernel
theorem dX7_nearest_349 : decode cX7_nearest 349 = .ok (.iconst 0, 1) := by decide +kernel
theorem dX7_nearest_350 : decode cX7_nearest 350 = .ok (.bastore, 1) := by decide +kernel
theorem dX7_nearest_351 : decode cX7_nearest 351 = .ok (.iinc 6 1, 3) := by decide +kernel
theorem dX7_nearest_354 : decode cX7_nearest 354 = .ok (.goto (-260), 3) := by decide +kernel
theorem dX7_nearest_357 : decode cX7_nearest 357 = .ok (.aload_n 0, 1) := by decide +kernel
theorem dX7_nearest_358 : decode cX7_nearest 358 = .ok (.getfield 150, 3) := by decide +kernel
theorem dX7_nearest_361 : decode cX7_nearest 361 = .ok (.ireturn, 1) := by decide +kernel
theorem dX7_within_0 : decode cX7_within 0 = .ok (.aload_n 0, 1) := by decide +kernel
theorem dX7_within_1 : decode cX7_within 1 = .ok (.lload_n 1, 1) := by decide +kernel
theorem dX7_within_2 : decode cX7_within 2 = .ok (.lconst 0, 1) := by decide +kernel
theorem dX7_within_3 : decode cX7_within 3 = .ok (.lcmp, 1) := by decide +kernel
theorem dX7_within_4 : decode cX7_within 4 = .ok (.ifCond .lt 17, 3) := by decide +kernel
theorem dX7_within_7 : decode cX7_within 7 = .ok (.aload_n 0, 1) := by decide +kernel
theorem dX7_within_8 : decode cX7_within 8 = .ok (.iload_n 3, 1) := by decide +kernel
theorem dX7_within_9 : decode cX7_within 9 = .ok (.iload 4, 2) := by decide +kernel
theorem dX7_within_11 : decode cX7_within 11 = .ok (.iload 5, 2) := by decide +kernel
theorem dX7_within_13 : decode cX7_within 13 = .ok (.iload 6, 2) := by decide +kernel
theorem dX7_within_15 : decode cX7_within 15 = .ok (.invokevirtual 121, 3) := by decide +kernel
theorem dX7_within_18 : decode cX7_within 18 = .ok (.ifCond .ne 7, 3) := by decide +kernel
theorem dX7_within_21 : decode cX7_within 21 = .ok (.iconst 1, 1) := by decide +kernel
theorem dX7_within_22 : decode cX7_within 22 = .ok (.goto 4, 3) := by decide +kernel
theorem dX7_within_25 : decode cX7_within 25 = .ok (.iconst 0, 1) := by decide +kernel
theorem dX7_within_26 : decode cX7_within 26 = .ok (.putfield 1, 3) := by decide +kernel
theorem dX7_within_29 : decode cX7_within 29 = .ok (.aload_n 0, 1) := by decide +kernel
theorem dX7_within_30 : decode cX7_within 30 = .ok (.getfield 1, 3) := by decide +kernel
theorem dX7_within_33 : decode cX7_within 33 = .ok (.ifCond .le 5, 3) := by decide +kernel
theorem dX7_within_36 : decode cX7_within 36 = .ok (.iconst 0, 1) := by decide +kernel
theorem dX7_within_37 : decode cX7_within 37 = .ok (.ireturn, 1) := by decide +kernel
theorem dX7_within_38 : decode cX7_within 38 = .ok (.aload_n 0, 1) := by decide +kernel
theorem dX7_within_39 : decode cX7_within 39 = .ok (.iload_n 3, 1) := by decide +kernel
theorem dX7_within_40 : decode cX7_within 40 = .ok (.iload 4, 2) := by decide +kernel
theorem dX7_within_42 : decode cX7_within 42 = .ok (.iload 5, 2) := by decide +kernel
theorem dX7_within_44 : decode cX7_within 44 = .ok (.iload 6, 2) := by decide +kernel
theorem dX7_within_46 : decode cX7_within 46 = .ok (.invokevirtual 155, 3) := by decide +kernel
theorem dX7_within_49 : decode cX7_within 49 = .ok (.aload_n 0, 1) := by decide +kernel
theorem dX7_within_50 : decode cX7_within 50 = .ok (.iconst 0, 1) := by decide +kernel
theorem dX7_within_51 : decode cX7_within 51 = .ok (.putfield 150, 3) := by decide +kernel
theorem dX7_within_54 : decode cX7_within 54 = .ok (.iconst 0, 1) := by decide +kernel
theorem dX7_within_55 : decode cX7_within 55 = .ok (.istore 7, 2) := by decide +kernel
theorem dX7_within_57 : decode cX7_within 57 = .ok (.iload 7, 2) := by decide +kernel
theorem dX7_within_59 : decode cX7_within 59 = .ok (.bipush 100, 2) := by decide +kernel
theorem dX7_within_61 : decode cX7_within 61 = .ok (.if_icmp .ge 38, 3) := by decide +kernel
theorem dX7_within_64 : decode cX7_within 64 = .ok (.aload_n 0, 1) := by decide +kernel
theorem dX7_within_65 : decode cX7_within 65 = .ok (.getfield 13, 3) := by decide +kernel
theorem dX7_within_68 : decode cX7_within 68 = .ok (.iload 7, 2) := by decide +kernel
theorem dX7_within_70 : decode cX7_within 70 = .ok (.baload, 1) := by decide +kernel
theorem dX7_within_71 : decode cX7_within 71 = .ok (.ifCond .eq 22, 3) := by decide +kernel
theorem dX7_within_74 : decode cX7_within 74 = .ok (.aload_n 0, 1) := by decide +kernel
theorem dX7_within_75 : decode cX7_within 75 = .ok (.iload 7, 2) := by decide +kernel
theorem dX7_within_77 : decode cX7_within 77 = .ok (.invokevirtual 146, 3) := by decide +kernel
theorem dX7_within_80 : decode cX7_within 80 = .ok (.lload_n 1, 1) := by decide +kernel
theorem dX7_within_81 : decode cX7_within 81 = .ok (.lcmp, 1) := by decide +kernel
theorem dX7_within_82 : decode cX7_within 82 = .ok (.ifCond .gt 11, 3) := by decide +kernel
theorem dX7_within_85 : decode cX7_within 85 = .ok (.aload_n 0, 1) := by decide +kernel
theorem dX7_within_86 : decode cX7_within 86 = .ok (.iload 7, 2) := by decide +kernel
theorem dX7_within_88 : decode cX7_within 88 = .ok (.bipush 100, 2) := by decide +kernel
theorem dX7_within_90 : decode cX7_within 90 = .ok (.invokevirtual 162, 3) := by decide +kernel
theorem dX7_within_93 : decode cX7_within 93 = .ok (.iinc 7 1, 3) := by decide +kernel
theorem dX7_within_96 : decode cX7_within 96 = .ok (.goto (-39), 3) := by decide +kernel
theorem dX7_within_99 : decode cX7_within 99 = .ok (.aload_n 0, 1) := by decide +kernel
theorem dX7_within_100 : decode cX7_within 100 = .ok (.getfield 150, 3) := by decide +kernel
theorem dX7_within_103 : decode cX7_within 103 = .ok (.ireturn, 1) := by decide +kernel
theorem dX7_listed_0 : decode cX7_listed 0 = .ok (.aload_n 0, 1) := by decide +kernel
theorem dX7_listed_1 : decode cX7_listed 1 = .ok (.iload_n 1, 1) := by decide +kernel
theorem dX7_listed_2 : decode cX7_listed 2 = .ok (.i2l, 1) := by decide +kernel
theorem dX7_listed_3 : decode cX7_listed 3 = .ok (.lconst 0, 1) := by decide +kernel
theorem dX7_listed_4 : decode cX7_listed 4 = .ok (.aload_n 0, 1) := by decide +kernel
theorem dX7_listed_5 : decode cX7_listed 5 = .ok (.getfield 150, 3) := by decide +kernel
theorem dX7_listed_8 : decode cX7_listed 8 = .ok (.iconst 1, 1) := by decide +kernel
theorem dX7_listed_9 : decode cX7_listed 9 = .ok (.isub, 1) := by decide +kernel
theorem dX7_listed_10 : decode cX7_listed 10 = .ok (.i2l, 1) := by decide +kernel
theorem dX7_listed_11 : decode cX7_listed 11 = .ok (.invokestatic 90, 3) := by decide +kernel
theorem dX7_listed_14 : decode cX7_listed 14 = .ok (.ifCond .eq 7, 3) := by decide +kernel
theorem dX7_listed_17 : decode cX7_listed 17 = .ok (.iconst 0, 1) := by decide +kernel
theorem dX7_listed_18 : decode cX7_listed 18 = .ok (.goto 4, 3) := by decide +kernel
theorem dX7_listed_21 : decode cX7_listed 21 = .ok (.iconst 1, 1) := by decide +kernel
theorem dX7_listed_22 : decode cX7_listed 22 = .ok (.putfield 1, 3) := by decide +kernel
theorem dX7_listed_25 : decode cX7_listed 25 = .ok (.aload_n 0, 1) := by decide +kernel
theorem dX7_listed_26 : decode cX7_listed 26 = .ok (.getfield 1, 3) := by decide +kernel
theorem dX7_listed_29 : decode cX7_listed 29 = .ok (.ifCond .le 7, 3) := by decide +kernel
theorem dX7_listed_32 : decode cX7_listed 32 = .ok (.iconst 0, 1) := by decide +kernel
theorem dX7_listed_33 : decode cX7_listed 33 = .ok (.goto 9, 3) := by decide +kernel
theorem dX7_listed_36 : decode cX7_listed 36 = .ok (.aload_n 0, 1) := by decide +kernel
theorem dX7_listed_37 : decode cX7_listed 37 = .ok (.getfield 72, 3) := by decide +kernel
theorem dX7_listed_40 : decode cX7_listed 40 = .ok (.iload_n 1, 1) := by decide +kernel
theorem dX7_listed_41 : decode cX7_listed 41 = .ok (.iaload, 1) := by decide +kernel
theorem dX7_listed_42 : decode cX7_listed 42 = .ok (.ireturn, 1) := by decide +kernel
theorem dX7_distance_0 : decode cX7_distance 0 = .ok (.aload_n 0, 1) := by decide +kernel
theorem dX7_distance_1 : decode cX7_distance 1 = .ok (.iload_n 1, 1) := by decide +kernel
theorem dX7_distance_2 : decode cX7_distance 2 = .ok (.i2l, 1) := by decide +kernel
theorem dX7_distance_3 : decode cX7_distance 3 = .ok (.lconst 0, 1) := by decide +kernel
theorem dX7_distance_4 : decode cX7_distance 4 = .ok (.aload_n 0, 1) := by decide +kernel
theorem dX7_distance_5 : decode cX7_distance 5 = .ok (.getfield 150, 3) := by decide +kernel
theorem dX7_distance_8 : decode cX7_distance 8 = .ok (.iconst 1, 1) := by decide +kernel
theorem dX7_distance_9 : decode cX7_distance 9 = .ok (.isub, 1) := by decide +kernel
theorem dX7_distance_10 : decode cX7_distance 10 = .ok (.i2l, 1) := by decide +kernel
theorem dX7_distance_11 : decode cX7_distance 11 = .ok (.invokestatic 90, 3) := by decide +kernel
theorem dX7_distance_14 : decode cX7_distance 14 = .ok (.ifCond .eq 7, 3) := by decide +kernel
theorem dX7_distance_17 : decode cX7_distance 17 = .ok (.iconst 0, 1) := by decide +kernel
theorem dX7_distance_18 : decode cX7_distance 18 = .ok (.goto 4, 3) := by decide +kernel
theorem dX7_distance_21 : decode cX7_distance 21 = .ok (.iconst 1, 1) := by decide +kernel
theorem dX7_distance_22 : decode cX7_distance 22 = .ok (.putfield 1, 3) := by decide +kernel
theorem dX7_distance_25 : decode cX7_distance 25 = .ok (.aload_n 0, 1) := by decide +kernel
theorem dX7_distance_26 : decode cX7_distance 26 = .ok (.getfield 1, 3) := by decide +kernel
theorem dX7_distance_29 : decode cX7_distance 29 = .ok (.ifCond .le 7, 3) := by decide +kernel
theorem dX7_distance_32 : decode cX7_distance 32 = .ok (.lconst 0, 1) := by decide +kernel
theorem dX7_distance_33 : decode cX7_distance 33 = .ok (.goto 9, 3) := by decide +kernel
theorem dX7_distance_36 : decode cX7_distance 36 = .ok (.aload_n 0, 1) := by decide +kernel
theorem dX7_distance_37 : decode cX7_distance 37 = .ok (.getfield 75, 3) := by decide +kernel
theorem dX7_distance_40 : decode cX7_distance 40 = .ok (.iload_n 1, 1) := by decide +kernel
theorem dX7_distance_41 : decode cX7_distance 41 = .ok (.laload, 1) := by decide +kernel
theorem dX7_distance_42 : decode cX7_distance 42 = .ok (.lreturn, 1) := by decide +kernel
theorem dX7_looked_0 : decode cX7_looked 0 = .ok (.aload_n 0, 1) := by decide +kernel
theorem dX7_looked_1 : decode cX7_looked 1 = .ok (.iconst 0, 1) := by decide +kernel
theorem dX7_looked_2 : decode cX7_looked 2 = .ok (.putfield 1, 3) := by decide +kernel
theorem dX7_looked_5 : decode cX7_looked 5 = .ok (.aload_n 0, 1) := by decide +kernel
theorem dX7_looked_6 : decode cX7_looked 6 = .ok (.getfield 159, 3) := by decide +kernel
theorem dX7_looked_9 : decode cX7_looked 9 = .ok (.ireturn, 1) := by decide +kernel
theorem dX7_inBox_0 : decode cX7_inBox 0 = .ok (.aload_n 0, 1) := by decide +kernel
theorem dX7_inBox_1 : decode cX7_inBox 1 = .ok (.iload_n 1, 1) := by decide +kernel
theorem dX7_inBox_2 : decode cX7_inBox 2 = .ok (.i2l, 1) := by decide +kernel
theorem dX7_inBox_3 : decode cX7_inBox 3 = .ok (.lconst 0, 1) := by decide +kernel
theorem dX7_inBox_4 : decode cX7_inBox 4 = .ok (.aload_n 0, 1) := by decide +kernel
theorem dX7_inBox_5 : decode cX7_inBox 5 = .ok (.getfield 85, 3) := by decide +kernel
theorem dX7_inBox_8 : decode cX7_inBox 8 = .ok (.iconst 1, 1) := by decide +kernel
theorem dX7_inBox_9 : decode cX7_inBox 9 = .ok (.isub, 1) := by decide +kernel
theorem dX7_inBox_10 : decode cX7_inBox 10 = .ok (.i2l, 1) := by decide +kernel
theorem dX7_inBox_11 : decode cX7_inBox 11 = .ok (.invokestatic 90, 3) := by decide +kernel
theorem dX7_inBox_14 : decode cX7_inBox 14 = .ok (.ifCond .eq 24, 3) := by decide +kernel
theorem dX7_inBox_17 : decode cX7_inBox 17 = .ok (.iload 4, 2) := by decide +kernel
theorem dX7_inBox_19 : decode cX7_inBox 19 = .ok (.i2l, 1) := by decide +kernel
theorem dX7_inBox_20 : decode cX7_inBox 20 = .ok (.lconst 0, 1) := by decide +kernel
theorem dX7_inBox_21 : decode cX7_inBox 21 = .ok (.aload_n 0, 1) := by decide +kernel
theorem dX7_inBox_22 : decode cX7_inBox 22 = .ok (.getfield 85, 3) := by decide +kernel
theorem dX7_inBox_25 : decode cX7_inBox 25 = .ok (.iconst 1, 1) := by decide +kernel
theorem dX7_inBox_26 : decode cX7_inBox 26 = .ok (.isub, 1) := by decide +kernel
theorem dX7_inBox_27 : decode cX7_inBox 27 = .ok (.i2l, 1) := by decide +kernel
theorem dX7_inBox_28 : decode cX7_inBox 28 = .ok (.invokestatic 90, 3) := by decide +kernel
theorem dX7_inBox_31 : decode cX7_inBox 31 = .ok (.ifCond .eq 7, 3) := by decide +kernel
theorem dX7_inBox_34 : decode cX7_inBox 34 = .ok (.iconst 0, 1) := by decide +kernel
theorem dX7_inBox_35 : decode cX7_inBox 35 = .ok (.goto 4, 3) := by decide +kernel
theorem dX7_inBox_38 : decode cX7_inBox 38 = .ok (.iconst 1, 1) := by decide +kernel
theorem dX7_inBox_39 : decode cX7_inBox 39 = .ok (.putfield 1, 3) := by decide +kernel
theorem dX7_inBox_42 : decode cX7_inBox 42 = .ok (.aload_n 0, 1) := by decide +kernel
theorem dX7_inBox_43 : decode cX7_inBox 43 = .ok (.getfield 1, 3) := by decide +kernel
theorem dX7_inBox_46 : decode cX7_inBox 46 = .ok (.ifCond .le 5, 3) := by decide +kernel
theorem dX7_inBox_49 : decode cX7_inBox 49 = .ok (.iconst 0, 1) := by decide +kernel
theorem dX7_inBox_50 : decode cX7_inBox 50 = .ok (.ireturn, 1) := by decide +kernel
theorem dX7_inBox_51 : decode cX7_inBox 51 = .ok (.iconst 0, 1) := by decide +kernel
theorem dX7_inBox_52 : decode cX7_inBox 52 = .ok (.istore 7, 2) := by decide +kernel
theorem dX7_inBox_54 : decode cX7_inBox 54 = .ok (.iconst 0, 1) := by decide +kernel
theorem dX7_inBox_55 : decode cX7_inBox 55 = .ok (.istore 8, 2) := by decide +kernel
theorem dX7_inBox_57 : decode cX7_inBox 57 = .ok (.iload 8, 2) := by decide +kernel
theorem dX7_inBox_59 : decode cX7_inBox 59 = .ok (.bipush 100, 2) := by decide +kernel
theorem dX7_inBox_61 : decode cX7_inBox 61 = .ok (.if_icmp .ge 76, 3) := by decide +kernel
theorem dX7_inBox_64 : decode cX7_inBox 64 = .ok (.iload 7, 2) := by decide +kernel
theorem dX7_inBox_66 : decode cX7_inBox 66 = .ok (.aload_n 0, 1) := by decide +kernel
theorem dX7_inBox_67 : decode cX7_inBox 67 = .ok (.getfield 13, 3) := by decide +kernel
theorem dX7_inBox_70 : decode cX7_inBox 70 = .ok (.iload 8, 2) := by decide +kernel
theorem dX7_inBox_72 : decode cX7_inBox 72 = .ok (.baload, 1) := by decide +kernel
theorem dX7_inBox_73 : decode cX7_inBox 73 = .ok (.ifCond .eq 54, 3) := by decide +kernel
theorem dX7_inBox_76 : decode cX7_inBox 76 = .ok (.aload_n 0, 1) := by decide +kernel
theorem dX7_inBox_77 : decode cX7_inBox 77 = .ok (.getfield 17, 3) := by decide +kernel
theorem dX7_inBox_80 : decode cX7_inBox 80 = .ok (.iconst 4, 1) := by decide +kernel
theorem dX7_inBox_81 : decode cX7_inBox 81 = .ok (.iload 8, 2) := by decide +kernel
theorem dX7_inBox_83 : decode cX7_inBox 83 = .ok (.imul, 1) := by decide +kernel
theorem dX7_inBox_84 : decode cX7_inBox 84 = .ok (.iload_n 1, 1) := by decide +kernel
theorem dX7_inBox_85 : decode cX7_inBox 85 = .ok (.iadd, 1) := by decide +kernel
theorem dX7_inBox_86 : decode cX7_inBox 86 = .ok (.iaload, 1) := by decide +kernel
theorem dX7_inBox_87 : decode cX7_inBox 87 = .ok (.i2l, 1) := by decide +kernel
theorem dX7_inBox_88 : decode cX7_inBox 88 = .ok (.iload_n 2, 1) := by decide +kernel
theorem dX7_inBox_89 : decode cX7_inBox 89 = .ok (.i2l, 1) := by decide +kernel
theorem dX7_inBox_90 : decode cX7_inBox 90 = .ok (.iload_n 3, 1) := by decide +kernel
theorem dX7_inBox_91 : decode cX7_inBox 91 = .ok (.i2l, 1) := by decide +kernel
theorem dX7_inBox_92 : decode cX7_inBox 92 = .ok (.invokestatic 90, 3) := by decide +kernel
theorem dX7_inBox_95 : decode cX7_inBox 95 = .ok (.ifCond .eq 32, 3) := by decide +kernel
theorem dX7_inBox_98 : decode cX7_inBox 98 = .ok (.aload_n 0, 1) := by decide +kernel
theorem dX7_inBox_99 : decode cX7_inBox 99 = .ok (.getfield 17, 3) := by decide +kernel
theorem dX7_inBox_102 : decode cX7_inBox 102 = .ok (.iconst 4, 1) := by decide +kernel
theorem dX7_inBox_103 : decode cX7_inBox 103 = .ok (.iload 8, 2) := by decide +kernel
theorem dX7_inBox_105 : decode cX7_inBox 105 = .ok (.imul, 1) := by decide +kernel
theorem dX7_inBox_106 : decode cX7_inBox 106 = .ok (.iload 4, 2) := by decide +kernel
theorem dX7_inBox_108 : decode cX7_inBox 108 = .ok (.iadd, 1) := by decide +kernel
theorem dX7_inBox_109 : decode cX7_inBox 109 = .ok (.iaload, 1) := by decide +kernel
theorem dX7_inBox_110 : decode cX7_inBox 110 = .ok (.i2l, 1) := by decide +kernel
theorem dX7_inBox_111 : decode cX7_inBox 111 = .ok (.iload 5, 2) := by decide +kernel
theorem dX7_inBox_113 : decode cX7_inBox 113 = .ok (.i2l, 1) := by decide +kernel
theorem dX7_inBox_114 : decode cX7_inBox 114 = .ok (.iload 6, 2) := by decide +kernel
theorem dX7_inBox_116 : decode cX7_inBox 116 = .ok (.i2l, 1) := by decide +kernel
theorem dX7_inBox_117 : decode cX7_inBox 117 = .ok (.invokestatic 90, 3) := by decide +kernel
theorem dX7_inBox_120 : decode cX7_inBox 120 = .ok (.ifCond .eq 7, 3) := by decide +kernel
theorem dX7_inBox_123 : decode cX7_inBox 123 = .ok (.iconst 1, 1) := by decide +kernel
theorem dX7_inBox_124 : decode cX7_inBox 124 = .ok (.goto 4, 3) := by decide +kernel
theorem dX7_inBox_127 : decode cX7_inBox 127 = .ok (.iconst 0, 1) := by decide +kernel
theorem dX7_inBox_128 : decode cX7_inBox 128 = .ok (.iadd, 1) := by decide +kernel
theorem dX7_inBox_129 : decode cX7_inBox 129 = .ok (.istore 7, 2) := by decide +kernel
theorem dX7_inBox_131 : decode cX7_inBox 131 = .ok (.iinc 8 1, 3) := by decide +kernel
theorem dX7_inBox_134 : decode cX7_inBox 134 = .ok (.goto (-77), 3) := by decide +kernel
theorem dX7_inBox_137 : decode cX7_inBox 137 = .ok (.iload 7, 2) := by decide +kernel
theorem dX7_inBox_139 : decode cX7_inBox 139 = .ok (.ireturn, 1) := by decide +kernel
theorem dX7_between_0 : decode cX7_between 0 = .ok (.lconst 0, 1) := by decide +kernel
theorem dX7_between_1 : decode cX7_between 1 = .ok (.lstore_n 3, 1) := by decide +kernel
theorem dX7_between_2 : decode cX7_between 2 = .ok (.iconst 0, 1) := by decide +kernel
theorem dX7_between_3 : decode cX7_between 3 = .ok (.istore 5, 2) := by decide +kernel
theorem dX7_between_5 : decode cX7_between 5 = .ok (.iload 5, 2) := by decide +kernel
theorem dX7_between_7 : decode cX7_between 7 = .ok (.iconst 4, 1) := by decide +kernel
theorem dX7_between_8 : decode cX7_between 8 = .ok (.if_icmp .ge 43, 3) := by decide +kernel
theorem dX7_between_11 : decode cX7_between 11 = .ok (.aload_n 0, 1) := by decide +kernel
theorem dX7_between_12 : decode cX7_between 12 = .ok (.getfield 17, 3) := by decide +kernel
theorem dX7_between_15 : decode cX7_between 15 = .ok (.iconst 4, 1) := by decide +kernel
theorem dX7_between_16 : decode cX7_between 16 = .ok (.iload_n 1, 1) := by decide +kernel
theorem dX7_between_17 : decode cX7_between 17 = .ok (.imul, 1) := by decide +kernel
theorem dX7_between_18 : decode cX7_between 18 = .ok (.iload 5, 2) := by decide +kernel
theorem dX7_between_20 : decode cX7_between 20 = .ok (.iadd, 1) := by decide +kernel
theorem dX7_between_21 : decode cX7_between 21 = .ok (.iaload, 1) := by decide +kernel
theorem dX7_between_22 : decode cX7_between 22 = .ok (.aload_n 0, 1) := by decide +kernel
theorem dX7_between_23 : decode cX7_between 23 = .ok (.getfield 17, 3) := by decide +kernel
theorem dX7_between_26 : decode cX7_between 26 = .ok (.iconst 4, 1) := by decide +kernel
theorem dX7_between_27 : decode cX7_between 27 = .ok (.iload_n 2, 1) := by decide +kernel
theorem dX7_between_28 : decode cX7_between 28 = .ok (.imul, 1) := by decide +kernel
theorem dX7_between_29 : decode cX7_between 29 = .ok (.iload 5, 2) := by decide +kernel
theorem dX7_between_31 : decode cX7_between 31 = .ok (.iadd, 1) := by decide +kernel
theorem dX7_between_32 : decode cX7_between 32 = .ok (.iaload, 1) := by decide +kernel
theorem dX7_between_33 : decode cX7_between 33 = .ok (.isub, 1) := by decide +kernel
theorem dX7_between_34 : decode cX7_between 34 = .ok (.i2l, 1) := by decide +kernel
theorem dX7_between_35 : decode cX7_between 35 = .ok (.lstore 6, 2) := by decide +kernel
theorem dX7_between_37 : decode cX7_between 37 = .ok (.lload_n 3, 1) := by decide +kernel
theorem dX7_between_38 : decode cX7_between 38 = .ok (.lload 6, 2) := by decide +kernel
theorem dX7_between_40 : decode cX7_between 40 = .ok (.lload 6, 2) := by decide +kernel
theorem dX7_between_42 : decode cX7_between 42 = .ok (.lmul, 1) := by decide +kernel
theorem dX7_between_43 : decode cX7_between 43 = .ok (.ladd, 1) := by decide +kernel
theorem dX7_between_44 : decode cX7_between 44 = .ok (.lstore_n 3, 1) := by decide +kernel
theorem dX7_between_45 : decode cX7_between 45 = .ok (.iinc 5 1, 3) := by decide +kernel
theorem dX7_between_48 : decode cX7_between 48 = .ok (.goto (-43), 3) := by decide +kernel
theorem dX7_between_51 : decode cX7_between 51 = .ok (.lload_n 3, 1) := by decide +kernel
theorem dX7_between_52 : decode cX7_between 52 = .ok (.lreturn, 1) := by decide +kernel
theorem dX7_pair_0 : decode cX7_pair 0 = .ok (.aload_n 0, 1) := by decide +kernel
theorem dX7_pair_1 : decode cX7_pair 1 = .ok (.iload_n 1, 1) := by decide +kernel
theorem dX7_pair_2 : decode cX7_pair 2 = .ok (.i2l, 1) := by decide +kernel
theorem dX7_pair_3 : decode cX7_pair 3 = .ok (.lconst 0, 1) := by decide +kernel
theorem dX7_pair_4 : decode cX7_pair 4 = .ok (.ldc2_w 166, 3) := by decide +kernel
theorem dX7_pair_7 : decode cX7_pair 7 = .ok (.invokestatic 90, 3) := by decide +kernel
theorem dX7_pair_10 : decode cX7_pair 10 = .ok (.ifCond .ne 7, 3) := by decide +kernel
theorem dX7_pair_13 : decode cX7_pair 13 = .ok (.iconst 1, 1) := by decide +kernel
theorem dX7_pair_14 : decode cX7_pair 14 = .ok (.goto 16, 3) := by decide +kernel
theorem dX7_pair_17 : decode cX7_pair 17 = .ok (.aload_n 0, 1) := by decide +kernel
theorem dX7_pair_18 : decode cX7_pair 18 = .ok (.getfield 125, 3) := by decide +kernel
theorem dX7_pair_21 : decode cX7_pair 21 = .ok (.iconst 2, 1) := by decide +kernel
theorem dX7_pair_22 : decode cX7_pair 22 = .ok (.if_icmp .ge 7, 3) := by decide +kernel
theorem dX7_pair_25 : decode cX7_pair 25 = .ok (.iconst 2, 1) := by decide +kernel
theorem dX7_pair_26 : decode cX7_pair 26 = .ok (.goto 4, 3) := by decide +kernel
theorem dX7_pair_29 : decode cX7_pair 29 = .ok (.iconst 0, 1) := by decide +kernel
theorem dX7_pair_30 : decode cX7_pair 30 = .ok (.putfield 1, 3) := by decide +kernel
theorem dX7_pair_33 : decode cX7_pair 33 = .ok (.aload_n 0, 1) := by decide +kernel
theorem dX7_pair_34 : decode cX7_pair 34 = .ok (.getfield 1, 3) := by decide +kernel
theorem dX7_pair_37 : decode cX7_pair 37 = .ok (.ifCond .le 5, 3) := by decide +kernel
theorem dX7_pair_40 : decode cX7_pair 40 = .ok (.lconst 0, 1) := by decide +kernel
theorem dX7_pair_41 : decode cX7_pair 41 = .ok (.lreturn, 1) := by decide +kernel
theorem dX7_pair_42 : decode cX7_pair 42 = .ok (.iconst (-1), 1) := by decide +kernel
theorem dX7_pair_43 : decode cX7_pair 43 = .ok (.istore_n 2, 1) := by decide +kernel
theorem dX7_pair_44 : decode cX7_pair 44 = .ok (.iconst (-1), 1) := by decide +kernel
theorem dX7_pair_45 : decode cX7_pair 45 = .ok (.istore_n 3, 1) := by decide +kernel
theorem dX7_pair_46 : decode cX7_pair 46 = .ok (.iconst 0, 1) := by decide +kernel
theorem dX7_pair_47 : decode cX7_pair 47 = .ok (.istore 4, 2) := by decide +kernel
theorem dX7_pair_49 : decode cX7_pair 49 = .ok (.iload 4, 2) := by decide +kernel
theorem dX7_pair_51 : decode cX7_pair 51 = .ok (.bipush 100, 2) := by decide +kernel
theorem dX7_pair_53 : decode cX7_pair 53 = .ok (.if_icmp .ge 77, 3) := by decide +kernel
theorem dX7_pair_56 : decode cX7_pair 56 = .ok (.iload 4, 2) := by decide +kernel
theorem dX7_pair_58 : decode cX7_pair 58 = .ok (.iconst 1, 1) := by decide +kernel
theorem dX7_pair_59 : decode cX7_pair 59 = .ok (.iadd, 1) := by decide +kernel
theorem dX7_pair_60 : decode cX7_pair 60 = .ok (.istore 5, 2) := by decide +kernel
theorem dX7_pair_62 : decode cX7_pair 62 = .ok (.iload 5, 2) := by decide +kernel
theorem dX7_pair_64 : decode cX7_pair 64 = .ok (.bipush 100, 2) := by decide +kernel
theorem dX7_pair_66 : decode cX7_pair 66 = .ok (.if_icmp .ge 58, 3) := by decide +kernel
theorem dX7_pair_69 : decode cX7_pair 69 = .ok (.aload_n 0, 1) := by decide +kernel
theorem dX7_pair_70 : decode cX7_pair 70 = .ok (.getfield 13, 3) := by decide +kernel
theorem dX7_pair_73 : decode cX7_pair 73 = .ok (.iload 4, 2) := by decide +kernel
theorem dX7_pair_75 : decode cX7_pair 75 = .ok (.baload, 1) := by decide +kernel
theorem dX7_pair_76 : decode cX7_pair 76 = .ok (.ifCond .eq 42, 3) := by decide +kernel
theorem dX7_pair_79 : decode cX7_pair 79 = .ok (.aload_n 0, 1) := by decide +kernel
theorem dX7_pair_80 : decode cX7_pair 80 = .ok (.getfield 13, 3) := by decide +kernel
theorem dX7_pair_83 : decode cX7_pair 83 = .ok (.iload 5, 2) := by decide +kernel
theorem dX7_pair_85 : decode cX7_pair 85 = .ok (.baload, 1) := by decide +kernel
theorem dX7_pair_86 : decode cX7_pair 86 = .ok (.ifCond .eq 32, 3) := by decide +kernel
theorem dX7_pair_89 : decode cX7_pair 89 = .ok (.iload_n 2, 1) := by decide +kernel
theorem dX7_pair_90 : decode cX7_pair 90 = .ok (.iconst (-1), 1) := by decide +kernel
theorem dX7_pair_91 : decode cX7_pair 91 = .ok (.if_icmp .eq 21, 3) := by decide +kernel
theorem dX7_pair_94 : decode cX7_pair 94 = .ok (.aload_n 0, 1) := by decide +kernel
theorem dX7_pair_95 : decode cX7_pair 95 = .ok (.iload 4, 2) := by decide +kernel
theorem dX7_pair_97 : decode cX7_pair 97 = .ok (.iload 5, 2) := by decide +kernel
theorem dX7_pair_99 : decode cX7_pair 99 = .ok (.invokevirtual 168, 3) := by decide +kernel
theorem dX7_pair_102 : decode cX7_pair 102 = .ok (.aload_n 0, 1) := by decide +kernel
theorem dX7_pair_103 : decode cX7_pair 103 = .ok (.iload_n 2, 1) := by decide +kernel
theorem dX7_pair_104 : decode cX7_pair 104 = .ok (.iload_n 3, 1) := by decide +kernel
theorem dX7_pair_105 : decode cX7_pair 105 = .ok (.invokevirtual 168, 3) := by decide +kernel
theorem dX7_pair_108 : decode cX7_pair 108 = .ok (.lcmp, 1) := by decide +kernel
theorem dX7_pair_109 : decode cX7_pair 109 = .ok (.ifCond .ge 9, 3) := by decide +kernel
theorem dX7_pair_112 : decode cX7_pair 112 = .ok (.iload 4, 2) := by decide +kernel
theorem dX7_pair_114 : decode cX7_pair 114 = .ok (.istore_n 2, 1) := by decide +kernel
theorem dX7_pair_115 : decode cX7_pair 115 = .ok (.iload 5, 2) := by decide +kernel
theorem dX7_pair_117 : decode cX7_pair 117 = .ok (.istore_n 3, 1) := by decide +kernel
theorem dX7_pair_118 : decode cX7_pair 118 = .ok (.iinc 5 1, 3) := by decide +kernel
theorem dX7_pair_121 : decode cX7_pair 121 = .ok (.goto (-59), 3) := by decide +kernel
theorem dX7_pair_124 : decode cX7_pair 124 = .ok (.iinc 4 1, 3) := by decide +kernel
theorem dX7_pair_127 : decode cX7_pair 127 = .ok (.goto (-78), 3) := by decide +kernel
theorem dX7_pair_130 : decode cX7_pair 130 = .ok (.iload_n 1, 1) := by decide +kernel
theorem dX7_pair_131 : decode cX7_pair 131 = .ok (.ifCond .ne 8, 3) := by decide +kernel
theorem dX7_pair_134 : decode cX7_pair 134 = .ok (.iload_n 2, 1) := by decide +kernel
theorem dX7_pair_135 : decode cX7_pair 135 = .ok (.i2l, 1) := by decide +kernel
theorem dX7_pair_136 : decode cX7_pair 136 = .ok (.goto 19, 3) := by decide +kernel
theorem dX7_pair_139 : decode cX7_pair 139 = .ok (.iload_n 1, 1) := by decide +kernel
theorem dX7_pair_140 : decode cX7_pair 140 = .ok (.iconst 1, 1) := by decide +kernel
theorem dX7_pair_141 : decode cX7_pair 141 = .ok (.if_icmp .ne 8, 3) := by decide +kernel
theorem dX7_pair_144 : decode cX7_pair 144 = .ok (.iload_n 3, 1) := by decide +kernel
theorem dX7_pair_145 : decode cX7_pair 145 = .ok (.i2l, 1) := by decide +kernel
theorem dX7_pair_146 : decode cX7_pair 146 = .ok (.goto 9, 3) := by decide +kernel
theorem dX7_pair_149 : decode cX7_pair 149 = .ok (.aload_n 0, 1) := by decide +kernel
theorem dX7_pair_150 : decode cX7_pair 150 = .ok (.iload_n 2, 1) := by decide +kernel
theorem dX7_pair_151 : decode cX7_pair 151 = .ok (.iload_n 3, 1) := by decide +kernel
theorem dX7_pair_152 : decode cX7_pair 152 = .ok (.invokevirtual 168, 3) := by decide +kernel
theorem dX7_pair_155 : decode cX7_pair 155 = .ok (.lreturn, 1) := by decide +kernel
theorem dX7_parts_0 : decode cX7_parts 0 = .ok (.aload_n 0, 1) := by decide +kernel
theorem dX7_parts_1 : decode cX7_parts 1 = .ok (.lload_n 1, 1) := by decide +kernel
theorem dX7_parts_2 : decode cX7_parts 2 = .ok (.lconst 0, 1) := by decide +kernel
theorem dX7_parts_3 : decode cX7_parts 3 = .ok (.lcmp, 1) := by decide +kernel
theorem dX7_parts_4 : decode cX7_parts 4 = .ok (.ifCond .ge 7, 3) := by decide +kernel
theorem dX7_parts_7 : decode cX7_parts 7 = .ok (.iconst 1, 1) := by decide +kernel
theorem dX7_parts_8 : decode cX7_parts 8 = .ok (.goto 4, 3) := by decide +kernel
theorem dX7_parts_11 : decode cX7_parts 11 = .ok (.iconst 0, 1) := by decide +kernel
theorem dX7_parts_12 : decode cX7_parts 12 = .ok (.putfield 1, 3) := by decide +kernel
theorem dX7_parts_15 : decode cX7_parts 15 = .ok (.aload_n 0, 1) := by decide +kernel
theorem dX7_parts_16 : decode cX7_parts 16 = .ok (.getfield 1, 3) := by decide +kernel
theorem dX7_parts_19 : decode cX7_parts 19 = .ok (.ifCond .le 5, 3) := by decide +kernel
theorem dX7_parts_22 : decode cX7_parts 22 = .ok (.iconst 0, 1) := by decide +kernel
theorem dX7_parts_23 : decode cX7_parts 23 = .ok (.ireturn, 1) := by decide +kernel
theorem dX7_parts_24 : decode cX7_parts 24 = .ok (.iconst 0, 1) := by decide +kernel
theorem dX7_parts_25 : decode cX7_parts 25 = .ok (.istore_n 3, 1) := by decide +kernel
theorem dX7_parts_26 : decode cX7_parts 26 = .ok (.iload_n 3, 1) := by decide +kernel
theorem dX7_parts_27 : decode cX7_parts 27 = .ok (.bipush 100, 2) := by decide +kernel
theorem dX7_parts_29 : decode cX7_parts 29 = .ok (.if_icmp .ge 29, 3) := by decide +kernel
theorem dX7_parts_32 : decode cX7_parts 32 = .ok (.aload_n 0, 1) := by decide +kernel
theorem dX7_parts_33 : decode cX7_parts 33 = .ok (.getfield 82, 3) := by decide +kernel
theorem dX7_parts_36 : decode cX7_parts 36 = .ok (.iload_n 3, 1) := by decide +kernel
theorem dX7_parts_37 : decode cX7_parts 37 = .ok (.aload_n 0, 1) := by decide +kernel
theorem dX7_parts_38 : decode cX7_parts 38 = .ok (.getfield 13, 3) := by decide +kernel
theorem dX7_parts_41 : decode cX7_parts 41 = .ok (.iload_n 3, 1) := by decide +kernel
theorem dX7_parts_42 : decode cX7_parts 42 = .ok (.baload, 1) := by decide +kernel
theorem dX7_parts_43 : decode cX7_parts 43 = .ok (.ifCond .ne 7, 3) := by decide +kernel
theorem dX7_parts_46 : decode cX7_parts 46 = .ok (.iconst 1, 1) := by decide +kernel
theorem dX7_parts_47 : decode cX7_parts 47 = .ok (.goto 4, 3) := by decide +kernel
theorem dX7_parts_50 : decode cX7_parts 50 = .ok (.iconst 0, 1) := by decide +kernel
theorem dX7_parts_51 : decode cX7_parts 51 = .ok (.bastore, 1) := by decide +kernel
theorem dX7_parts_52 : decode cX7_parts 52 = .ok (.iinc 3 1, 3) := by decide +kernel
theorem dX7_parts_55 : decode cX7_parts 55 = .ok (.goto (-29), 3) := by decide +kernel
theorem dX7_parts_58 : decode cX7_parts 58 = .ok (.iconst 0, 1) := by decide +kernel
theorem dX7_parts_59 : decode cX7_parts 59 = .ok (.istore_n 3, 1) := by decide +kernel
theorem dX7_parts_60 : decode cX7_parts 60 = .ok (.iconst 0, 1) := by decide +kernel
theorem dX7_parts_61 : decode cX7_parts 61 = .ok (.istore 4, 2) := by decide +kernel
theorem dX7_parts_63 : decode cX7_parts 63 = .ok (.iload 4, 2) := by decide +kernel
theorem dX7_parts_65 : decode cX7_parts 65 = .ok (.bipush 100, 2) := by decide +kernel
theorem dX7_parts_67 : decode cX7_parts 67 = .ok (.if_icmp .ge 121, 3) := by decide +kernel
theorem dX7_parts_70 : decode cX7_parts 70 = .ok (.aload_n 0, 1) := by decide +kernel
theorem dX7_parts_71 : decode cX7_parts 71 = .ok (.getfield 82, 3) := by decide +kernel
theorem dX7_parts_74 : decode cX7_parts 74 = .ok (.iload 4, 2) := by decide +kernel
theorem dX7_parts_76 : decode cX7_parts 76 = .ok (.baload, 1) := by decide +kernel
theorem dX7_parts_77 : decode cX7_parts 77 = .ok (.ifCond .ne 105, 3) := by decide +kernel
theorem dX7_parts_80 : decode cX7_parts 80 = .ok (.iinc 3 1, 3) := by decide +kernel
theorem dX7_parts_83 : decode cX7_parts 83 = .ok (.iconst 1, 1) := by decide +kernel
theorem dX7_parts_84 : decode cX7_parts 84 = .ok (.istore 5, 2) := by decide +kernel
theorem dX7_parts_86 : decode cX7_parts 86 = .ok (.aload_n 0, 1) := by decide +kernel
theorem dX7_parts_87 : decode cX7_parts 87 = .ok (.getfield 54, 3) := by decide +kernel
theorem dX7_parts_90 : decode cX7_parts 90 = .ok (.iconst 0, 1) := by decide +kernel
theorem dX7_parts_91 : decode cX7_parts 91 = .ok (.iload 4, 2) := by decide +kernel
theorem dX7_parts_93 : decode cX7_parts 93 = .ok (.iastore, 1) := by decide +kernel
theorem dX7_parts_94 : decode cX7_parts 94 = .ok (.aload_n 0, 1) := by decide +kernel
theorem dX7_parts_95 : decode cX7_parts 95 = .ok (.getfield 82, 3) := by decide +kernel
theorem dX7_parts_98 : decode cX7_parts 98 = .ok (.iload 4, 2) := by decide +kernel
theorem dX7_parts_100 : decode cX7_parts 100 = .ok (.iconst 1, 1) := by decide +kernel
theorem dX7_parts_101 : decode cX7_parts 101 = .ok (.bastore, 1) := by decide +kernel
theorem dX7_parts_102 : decode cX7_parts 102 = .ok (.iconst 0, 1) := by decide +kernel
theorem dX7_parts_103 : decode cX7_parts 103 = .ok (.istore 6, 2) := by decide +kernel
theorem dX7_parts_105 : decode cX7_parts 105 = .ok (.iload 6, 2) := by decide +kernel
theorem dX7_parts_107 : decode cX7_parts 107 = .ok (.iload 5, 2) := by decide +kernel
theorem dX7_parts_109 : decode cX7_parts 109 = .ok (.if_icmp .ge 73, 3) := by decide +kernel
theorem dX7_parts_112 : decode cX7_parts 112 = .ok (.iconst 0, 1) := by decide +kernel
theorem dX7_parts_113 : decode cX7_parts 113 = .ok (.istore 7, 2) := by decide +kernel
theorem dX7_parts_115 : decode cX7_parts 115 = .ok (.iload 7, 2) := by decide +kernel
theorem dX7_parts_117 : decode cX7_parts 117 = .ok (.bipush 100, 2) := by decide +kernel
theorem dX7_parts_119 : decode cX7_parts 119 = .ok (.if_icmp .ge 57, 3) := by decide +kernel
theorem dX7_parts_122 : decode cX7_parts 122 = .ok (.aload_n 0, 1) := by decide +kernel
theorem dX7_parts_123 : decode cX7_parts 123 = .ok (.getfield 82, 3) := by decide +kernel
theorem dX7_parts_126 : decode cX7_parts 126 = .ok (.iload 7, 2) := by decide +kernel
theorem dX7_parts_128 : decode cX7_parts 128 = .ok (.baload, 1) := by decide +kernel
theorem dX7_parts_129 : decode cX7_parts 129 = .ok (.ifCond .ne 41, 3) := by decide +kernel
theorem dX7_parts_132 : decode cX7_parts 132 = .ok (.aload_n 0, 1) := by decide +kernel
theorem dX7_parts_133 : decode cX7_parts 133 = .ok (.aload_n 0, 1) := by decide +kernel
theorem dX7_parts_134 : decode cX7_parts 134 = .ok (.getfield 54, 3) := by decide +kernel
theorem dX7_parts_137 : decode cX7_parts 137 = .ok (.iload 6, 2) := by decide +kernel
theorem dX7_parts_139 : decode cX7_parts 139 = .ok (.iaload, 1) := by decide +kernel
theorem dX7_parts_140 : decode cX7_parts 140 = .ok (.iload 7, 2) := by decide +kernel
theorem dX7_parts_142 : decode cX7_parts 142 = .ok (.invokevirtual 168, 3) := by decide +kernel
theorem dX7_parts_145 : decode cX7_parts 145 = .ok (.lload_n 1, 1) := by decide +kernel
theorem dX7_parts_146 : decode cX7_parts 146 = .ok (.lcmp, 1) := by decide +kernel
theorem dX7_parts_147 : decode cX7_parts 147 = .ok (.ifCond .gt 23, 3) := by decide +kernel
theorem dX7_parts_150 : decode cX7_parts 150 = .ok (.aload_n 0, 1) := by decide +kernel
theorem dX7_parts_151 : decode cX7_parts 151 = .ok (.getfield 82, 3) := by decide +kernel
theorem dX7_parts_154 : decode cX7_parts 154 = .ok (.iload 7, 2) := by decide +kernel
theorem dX7_parts_156 : decode cX7_parts 156 = .ok (.iconst 1, 1) := by decide +kernel
theorem dX7_parts_157 : decode cX7_parts 157 = .ok (.bastore, 1) := by decide +kernel
theorem dX7_parts_158 : decode cX7_parts 158 = .ok (.aload_n 0, 1) := by decide +kernel
theorem dX7_parts_159 : decode cX7_parts 159 = .ok (.getfield 54, 3) := by decide +kernel
theorem dX7_parts_162 : decode cX7_parts 162 = .ok (.iload 5, 2) := by decide +kernel
theorem dX7_parts_164 : decode cX7_parts 164 = .ok (.iload 7, 2) := by decide +kernel
theorem dX7_parts_166 : decode cX7_parts 166 = .ok (.iastore, 1) := by decide +kernel
theorem dX7_parts_167 : decode cX7_parts 167 = .ok (.iinc 5 1, 3) := by decide +kernel
theorem dX7_parts_170 : decode cX7_parts 170 = .ok (.iinc 7 1, 3) := by decide +kernel
theorem dX7_parts_173 : decode cX7_parts 173 = .ok (.goto (-58), 3) := by decide +kernel
theorem dX7_parts_176 : decode cX7_parts 176 = .ok (.iinc 6 1, 3) := by decide +kernel
theorem dX7_parts_179 : decode cX7_parts 179 = .ok (.goto (-74), 3) := by decide +kernel
theorem dX7_parts_182 : decode cX7_parts 182 = .ok (.iinc 4 1, 3) := by decide +kernel
theorem dX7_parts_185 : decode cX7_parts 185 = .ok (.goto (-122), 3) := by decide +kernel
theorem dX7_parts_188 : decode cX7_parts 188 = .ok (.iload_n 3, 1) := by decide +kernel
theorem dX7_parts_189 : decode cX7_parts 189 = .ok (.ireturn, 1) := by decide +kernel
theorem dX7_span_0 : decode cX7_span 0 = .ok (.aload_n 0, 1) := by decide +kernel
theorem dX7_span_1 : decode cX7_span 1 = .ok (.iconst 0, 1) := by decide +kernel
theorem dX7_span_2 : decode cX7_span 2 = .ok (.putfield 1, 3) := by decide +kernel
theorem dX7_span_5 : decode cX7_span 5 = .ok (.lconst 0, 1) := by decide +kernel
theorem dX7_span_6 : decode cX7_span 6 = .ok (.lstore_n 1, 1) := by decide +kernel
theorem dX7_span_7 : decode cX7_span 7 = .ok (.iconst 0, 1) := by decide +kernel
theorem dX7_span_8 : decode cX7_span 8 = .ok (.istore_n 3, 1) := by decide +kernel
theorem dX7_span_9 : decode cX7_span 9 = .ok (.iconst 0, 1) := by decide +kernel
theorem dX7_span_10 : decode cX7_span 10 = .ok (.istore 4, 2) := by decide +kernel
theorem dX7_span_12 : decode cX7_span 12 = .ok (.iload 4, 2) := by decide +kernel
theorem dX7_span_14 : decode cX7_span 14 = .ok (.bipush 100, 2) := by decide +kernel
theorem dX7_span_16 : decode cX7_span 16 = .ok (.if_icmp .ge 63, 3) := by decide +kernel
theorem dX7_span_19 : decode cX7_span 19 = .ok (.aload_n 0, 1) := by decide +kernel
theorem dX7_span_20 : decode cX7_span 20 = .ok (.getfield 82, 3) := by decide +kernel
theorem dX7_span_23 : decode cX7_span 23 = .ok (.iload 4, 2) := by decide +kernel
theorem dX7_span_25 : decode cX7_span 25 = .ok (.aload_n 0, 1) := by decide +kernel
theorem dX7_span_26 : decode cX7_span 26 = .ok (.getfield 13, 3) := by decide +kernel
theorem dX7_span_29 : decode cX7_span 29 = .ok (.iload 4, 2) := by decide +kernel
theorem dX7_span_31 : decode cX7_span 31 = .ok (.baload, 1) := by decide +kernel
theorem dX7_span_32 : decode cX7_span 32 = .ok (.ifCond .ne 7, 3) := by decide +kernel
theorem dX7_span_35 : decode cX7_span 35 = .ok (.iconst 1, 1) := by decide +kernel
theorem dX7_span_36 : decode cX7_span 36 = .ok (.goto 4, 3) := by decide +kernel
theorem dX7_span_39 : decode cX7_span 39 = .ok (.iconst 0, 1) := by decide +kernel
theorem dX7_span_40 : decode cX7_span 40 = .ok (.bastore, 1) := by decide +kernel
theorem dX7_span_41 : decode cX7_span 41 = .ok (.aload_n 0, 1) := by decide +kernel
theorem dX7_span_42 : decode cX7_span 42 = .ok (.getfield 13, 3) := by decide +kernel
theorem dX7_span_45 : decode cX7_span 45 = .ok (.iload 4, 2) := by decide +kernel
theorem dX7_span_47 : decode cX7_span 47 = .ok (.baload, 1) := by decide +kernel
theorem dX7_span_48 : decode cX7_span 48 = .ok (.ifCond .eq 25, 3) := by decide +kernel
theorem dX7_span_51 : decode cX7_span 51 = .ok (.iload_n 3, 1) := by decide +kernel
theorem dX7_span_52 : decode cX7_span 52 = .ok (.ifCond .ne 21, 3) := by decide +kernel
theorem dX7_span_55 : decode cX7_span 55 = .ok (.aload_n 0, 1) := by decide +kernel
theorem dX7_span_56 : decode cX7_span 56 = .ok (.getfield 54, 3) := by decide +kernel
theorem dX7_span_59 : decode cX7_span 59 = .ok (.iconst 0, 1) := by decide +kernel
theorem dX7_span_60 : decode cX7_span 60 = .ok (.iload 4, 2) := by decide +kernel
theorem dX7_span_62 : decode cX7_span 62 = .ok (.iastore, 1) := by decide +kernel
theorem dX7_span_63 : decode cX7_span 63 = .ok (.aload_n 0, 1) := by decide +kernel
theorem dX7_span_64 : decode cX7_span 64 = .ok (.getfield 82, 3) := by decide +kernel
theorem dX7_span_67 : decode cX7_span 67 = .ok (.iload 4, 2) := by decide +kernel
theorem dX7_span_69 : decode cX7_span 69 = .ok (.iconst 1, 1) := by decide +kernel
theorem dX7_span_70 : decode cX7_span 70 = .ok (.bastore, 1) := by decide +kernel
theorem dX7_span_71 : decode cX7_span 71 = .ok (.iconst 1, 1) := by decide +kernel
theorem dX7_span_72 : decode cX7_span 72 = .ok (.istore_n 3, 1) := by decide +kernel
theorem dX7_span_73 : decode cX7_span 73 = .ok (.iinc 4 1, 3) := by decide +kernel
theorem dX7_span_76 : decode cX7_span 76 = .ok (.goto (-64), 3) := by decide +kernel
theorem dX7_span_79 : decode cX7_span 79 = .ok (.iload_n 3, 1) := by decide +kernel
theorem dX7_span_80 : decode cX7_span 80 = .ok (.ifCond .le 129, 3) := by decide +kernel
theorem dX7_span_83 : decode cX7_span 83 = .ok (.iload_n 3, 1) := by decide +kernel
theorem dX7_span_84 : decode cX7_span 84 = .ok (.aload_n 0, 1) := by decide +kernel
theorem dX7_span_85 : decode cX7_span 85 = .ok (.getfield 125, 3) := by decide +kernel
theorem dX7_span_88 : decode cX7_span 88 = .ok (.if_icmp .ge 121, 3) := by decide +kernel
theorem dX7_span_91 : decode cX7_span 91 = .ok (.iconst (-1), 1) := by decide +kernel
theorem dX7_span_92 : decode cX7_span 92 = .ok (.istore 4, 2) := by decide +kernel
theorem dX7_span_94 : decode cX7_span 94 = .ok (.lconst 0, 1) := by decide +kernel
theorem dX7_span_95 : decode cX7_span 95 = .ok (.lstore 5, 2) := by decide +kernel
theorem dX7_span_97 : decode cX7_span 97 = .ok (.iconst 0, 1) := by decide +kernel
theorem dX7_span_98 : decode cX7_span 98 = .ok (.istore 7, 2) := by decide +kernel
theorem dX7_span_100 : decode cX7_span 100 = .ok (.iload 7, 2) := by decide +kernel
theorem dX7_span_102 : decode cX7_span 102 = .ok (.bipush 100, 2) := by decide +kernel
theorem dX7_span_104 : decode cX7_span 104 = .ok (.if_icmp .ge 78, 3) := by decide +kernel
theorem dX7_span_107 : decode cX7_span 107 = .ok (.iconst 0, 1) := by decide +kernel
theorem dX7_span_108 : decode cX7_span 108 = .ok (.istore 8, 2) := by decide +kernel
theorem dX7_span_110 : decode cX7_span 110 = .ok (.iload 8, 2) := by decide +kernel
theorem dX7_span_112 : decode cX7_span 112 = .ok (.iload_n 3, 1) := by decide +kernel
theorem dX7_span_113 : decode cX7_span 113 = .ok (.if_icmp .ge 63, 3) := by decide +kernel
theorem dX7_span_116 : decode cX7_span 116 = .ok (.aload_n 0, 1) := by decide +kernel
theorem dX7_span_117 : decode cX7_span 117 = .ok (.getfield 82, 3) := by decide +kernel
theorem dX7_span_120 : decode cX7_span 120 = .ok (.iload 7, 2) := by decide +kernel
theorem dX7_span_122 : decode cX7_span 122 = .ok (.baload, 1) := by decide +kernel
theorem dX7_span_123 : decode cX7_span 123 = .ok (.ifCond .ne 53, 3) := by decide +kernel
theorem dX7_span_126 : decode cX7_span 126 = .ok (.iload 4, 2) := by decide +kernel
theorem dX7_span_128 : decode cX7_span 128 = .ok (.iconst (-1), 1) := by decide +kernel
theorem dX7_span_129 : decode cX7_span 129 = .ok (.if_icmp .eq 22, 3) := by decide +kernel
theorem dX7_span_132 : decode cX7_span 132 = .ok (.aload_n 0, 1) := by decide +kernel
theorem dX7_span_133 : decode cX7_span 133 = .ok (.aload_n 0, 1) := by decide +kernel
theorem dX7_span_134 : decode cX7_span 134 = .ok (.getfield 54, 3) := by decide +kernel
theorem dX7_span_137 : decode cX7_span 137 = .ok (.iload 8, 2) := by decide +kernel
theorem dX7_span_139 : decode cX7_span 139 = .ok (.iaload, 1) := by decide +kernel
theorem dX7_span_140 : decode cX7_span 140 = .ok (.iload 7, 2) := by decide +kernel
theorem dX7_span_142 : decode cX7_span 142 = .ok (.invokevirtual 168, 3) := by decide +kernel
theorem dX7_span_145 : decode cX7_span 145 = .ok (.lload 5, 2) := by decide +kernel
theorem dX7_span_147 : decode cX7_span 147 = .ok (.lcmp, 1) := by decide +kernel
theorem dX7_span_148 : decode cX7_span 148 = .ok (.ifCond .ge 22, 3) := by decide +kernel
theorem dX7_span_151 : decode cX7_span 151 = .ok (.iload 7, 2) := by decide +kernel
theorem dX7_span_153 : decode cX7_span 153 = .ok (.istore 4, 2) := by decide +kernel
theorem dX7_span_155 : decode cX7_span 155 = .ok (.aload_n 0, 1) := by decide +kernel
theorem dX7_span_156 : decode cX7_span 156 = .ok (.aload_n 0, 1) := by decide +kernel
theorem dX7_span_157 : decode cX7_span 157 = .ok (.getfield 54, 3) := by decide +kernel
theorem dX7_span_160 : decode cX7_span 160 = .ok (.iload 8, 2) := by decide +kernel
theorem dX7_span_162 : decode cX7_span 162 = .ok (.iaload, 1) := by decide +kernel
theorem dX7_span_163 : decode cX7_span 163 = .ok (.iload 7, 2) := by decide +kernel
theorem dX7_span_165 : decode cX7_span 165 = .ok (.invokevirtual 168, 3) := by decide +kernel
theorem dX7_span_168 : decode cX7_span 168 = .ok (.lstore 5, 2) := by decide +kernel
theorem dX7_span_170 : decode cX7_span 170 = .ok (.iinc 8 1, 3) := by decide +kernel
theorem dX7_span_173 : decode cX7_span 173 = .ok (.goto (-63), 3) := by decide +kernel
theorem dX7_span_176 : decode cX7_span 176 = .ok (.iinc 7 1, 3) := by decide +kernel
theorem dX7_span_179 : decode cX7_span 179 = .ok (.goto (-79), 3) := by decide +kernel
theorem dX7_span_182 : decode cX7_span 182 = .ok (.aload_n 0, 1) := by decide +kernel
theorem dX7_span_183 : decode cX7_span 183 = .ok (.getfield 82, 3) := by decide +kernel
theorem dX7_span_186 : decode cX7_span 186 = .ok (.iload 4, 2) := by decide +kernel
theorem dX7_span_188 : decode cX7_span 188 = .ok (.iconst 1, 1) := by decide +kernel
theorem dX7_span_189 : decode cX7_span 189 = .ok (.bastore, 1) := by decide +kernel
theorem dX7_span_190 : decode cX7_span 190 = .ok (.aload_n 0, 1) := by decide +kernel
theorem dX7_span_191 : decode cX7_span 191 = .ok (.getfield 54, 3) := by decide +kernel
theorem dX7_span_194 : decode cX7_span 194 = .ok (.iload_n 3, 1) := by decide +kernel
theorem dX7_span_195 : decode cX7_span 195 = .ok (.iload 4, 2) := by decide +kernel
theorem dX7_span_197 : decode cX7_span 197 = .ok (.iastore, 1) := by decide +kernel
theorem dX7_span_198 : decode cX7_span 198 = .ok (.iinc 3 1, 3) := by decide +kernel
theorem dX7_span_201 : decode cX7_span 201 = .ok (.lload_n 1, 1) := by decide +kernel
theorem dX7_span_202 : decode cX7_span 202 = .ok (.lload 5, 2) := by decide +kernel
theorem dX7_span_204 : decode cX7_span 204 = .ok (.ladd, 1) := by decide +kernel
theorem dX7_span_205 : decode cX7_span 205 = .ok (.lstore_n 1, 1) := by decide +kernel
theorem dX7_span_206 : decode cX7_span 206 = .ok (.goto (-127), 3) := by decide +kernel
theorem dX7_span_209 : decode cX7_span 209 = .ok (.lload_n 1, 1) := by decide +kernel
theorem dX7_span_210 : decode cX7_span 210 = .ok (.lreturn, 1) := by decide +kernel
theorem dX7_node_0 : decode cX7_node 0 = .ok (.aload_n 0, 1) := by decide +kernel
theorem dX7_node_1 : decode cX7_node 1 = .ok (.iload_n 1, 1) := by decide +kernel
theorem dX7_node_2 : decode cX7_node 2 = .ok (.invokestatic 117, 3) := by decide +kernel
theorem dX7_node_5 : decode cX7_node 5 = .ok (.ifCond .eq 15, 3) := by decide +kernel
theorem dX7_node_8 : decode cX7_node 8 = .ok (.iload_n 2, 1) := by decide +kernel
theorem dX7_node_9 : decode cX7_node 9 = .ok (.i2l, 1) := by decide +kernel
theorem dX7_node_10 : decode cX7_node 10 = .ok (.lconst 0, 1) := by decide +kernel
theorem dX7_node_11 : decode cX7_node 11 = .ok (.ldc2_w 172, 3) := by decide +kernel
theorem dX7_node_14 : decode cX7_node 14 = .ok (.invokestatic 90, 3) := by decide +kernel
theorem dX7_node_17 : decode cX7_node 17 = .ok (.ifCond .ne 7, 3) := by decide +kernel
theorem dX7_node_20 : decode cX7_node 20 = .ok (.iconst 1, 1) := by decide +kernel
theorem dX7_node_21 : decode cX7_node 21 = .ok (.goto 17, 3) := by decide +kernel
theorem dX7_node_24 : decode cX7_node 24 = .ok (.aload_n 0, 1) := by decide +kernel
theorem dX7_node_25 : decode cX7_node 25 = .ok (.getfield 13, 3) := by decide +kernel
theorem dX7_node_28 : decode cX7_node 28 = .ok (.iload_n 1, 1) := by decide +kernel
theorem dX7_node_29 : decode cX7_node 29 = .ok (.baload, 1) := by decide +kernel
theorem dX7_node_30 : decode cX7_node 30 = .ok (.ifCond .ne 7, 3) := by decide +kernel
theorem dX7_node_33 : decode cX7_node 33 = .ok (.iconst 2, 1) := by decide +kernel
theorem dX7_node_34 : decode cX7_node 34 = .ok (.goto 4, 3) := by decide +kernel
theorem dX7_node_37 : decode cX7_node 37 = .ok (.iconst 0, 1) := by decide +kernel
theorem dX7_node_38 : decode cX7_node 38 = .ok (.putfield 1, 3) := by decide +kernel
theorem dX7_node_41 : decode cX7_node 41 = .ok (.aload_n 0, 1) := by decide +kernel
theorem dX7_node_42 : decode cX7_node 42 = .ok (.getfield 1, 3) := by decide +kernel
theorem dX7_node_45 : decode cX7_node 45 = .ok (.ifCond .le 5, 3) := by decide +kernel
theorem dX7_node_48 : decode cX7_node 48 = .ok (.iconst 0, 1) := by decide +kernel
theorem dX7_node_49 : decode cX7_node 49 = .ok (.ireturn, 1) := by decide +kernel
theorem dX7_node_50 : decode cX7_node 50 = .ok (.aload_n 0, 1) := by decide +kernel
theorem dX7_node_51 : decode cX7_node 51 = .ok (.getfield 21, 3) := by decide +kernel
theorem dX7_node_54 : decode cX7_node 54 = .ok (.iload_n 1, 1) := by decide +kernel
theorem dX7_node_55 : decode cX7_node 55 = .ok (.iaload, 1) := by decide +kernel
theorem dX7_node_56 : decode cX7_node 56 = .ok (.istore_n 3, 1) := by decide +kernel
theorem dX7_node_57 : decode cX7_node 57 = .ok (.aload_n 0, 1) := by decide +kernel
theorem dX7_node_58 : decode cX7_node 58 = .ok (.getfield 42, 3) := by decide +kernel
theorem dX7_node_61 : decode cX7_node 61 = .ok (.iload_n 3, 1) := by decide +kernel
theorem dX7_node_62 : decode cX7_node 62 = .ok (.iaload, 1) := by decide +kernel
theorem dX7_node_63 : decode cX7_node 63 = .ok (.istore 4, 2) := by decide +kernel
theorem dX7_node_65 : decode cX7_node 65 = .ok (.iload_n 2, 1) := by decide +kernel
theorem dX7_node_66 : decode cX7_node 66 = .ok (.ifCond .ne 9, 3) := by decide +kernel
theorem dX7_node_69 : decode cX7_node 69 = .ok (.aload_n 0, 1) := by decide +kernel
theorem dX7_node_70 : decode cX7_node 70 = .ok (.iload_n 3, 1) := by decide +kernel
theorem dX7_node_71 : decode cX7_node 71 = .ok (.invokevirtual 106, 3) := by decide +kernel
theorem dX7_node_74 : decode cX7_node 74 = .ok (.ireturn, 1) := by decide +kernel
theorem dX7_node_75 : decode cX7_node 75 = .ok (.iload_n 2, 1) := by decide +kernel
theorem dX7_node_76 : decode cX7_node 76 = .ok (.iconst 1, 1) := by decide +kernel
theorem dX7_node_77 : decode cX7_node 77 = .ok (.if_icmp .ne 9, 3) := by decide +kernel
theorem dX7_node_80 : decode cX7_node 80 = .ok (.aload_n 0, 1) := by decide +kernel
theorem dX7_node_81 : decode cX7_node 81 = .ok (.iload_n 3, 1) := by decide +kernel
theorem dX7_node_82 : decode cX7_node 82 = .ok (.invokevirtual 98, 3) := by decide +kernel
theorem dX7_node_85 : decode cX7_node 85 = .ok (.ireturn, 1) := by decide +kernel
theorem dX7_node_86 : decode cX7_node 86 = .ok (.iload 4, 2) := by decide +kernel
theorem dX7_node_88 : decode cX7_node 88 = .ok (.iconst (-1), 1) := by decide +kernel
theorem dX7_node_89 : decode cX7_node 89 = .ok (.if_icmp .ne 16, 3) := by decide +kernel
theorem dX7_node_92 : decode cX7_node 92 = .ok (.iload_n 2, 1) := by decide +kernel
theorem dX7_node_93 : decode cX7_node 93 = .ok (.iconst 2, 1) := by decide +kernel
theorem dX7_node_94 : decode cX7_node 94 = .ok (.if_icmp .ne 7, 3) := by decide +kernel
theorem dX7_node_97 : decode cX7_node 97 = .ok (.iconst (-1), 1) := by decide +kernel
theorem dX7_node_98 : decode cX7_node 98 = .ok (.goto 61, 3) := by decide +kernel
theorem dX7_node_101 : decode cX7_node 101 = .ok (.iconst 0, 1) := by decide +kernel
theorem dX7_node_102 : decode cX7_node 102 = .ok (.goto 57, 3) := by decide +kernel
theorem dX7_node_105 : decode cX7_node 105 = .ok (.iload_n 2, 1) := by decide +kernel
theorem dX7_node_106 : decode cX7_node 106 = .ok (.iconst 2, 1) := by decide +kernel
theorem dX7_node_107 : decode cX7_node 107 = .ok (.if_icmp .ne 13, 3) := by decide +kernel
theorem dX7_node_110 : decode cX7_node 110 = .ok (.aload_n 0, 1) := by decide +kernel
theorem dX7_node_111 : decode cX7_node 111 = .ok (.getfield 27, 3) := by decide +kernel
theorem dX7_node_114 : decode cX7_node 114 = .ok (.iload 4, 2) := by decide +kernel
theorem dX7_node_116 : decode cX7_node 116 = .ok (.iaload, 1) := by decide +kernel
theorem dX7_node_117 : decode cX7_node 117 = .ok (.goto 42, 3) := by decide +kernel
theorem dX7_node_120 : decode cX7_node 120 = .ok (.iload_n 2, 1) := by decide +kernel
theorem dX7_node_121 : decode cX7_node 121 = .ok (.iconst 3, 1) := by decide +kernel
theorem dX7_node_122 : decode cX7_node 122 = .ok (.if_icmp .ne 21, 3) := by decide +kernel
theorem dX7_node_125 : decode cX7_node 125 = .ok (.aload_n 0, 1) := by decide +kernel
theorem dX7_node_126 : decode cX7_node 126 = .ok (.getfield 33, 3) := by decide +kernel
theorem dX7_node_129 : decode cX7_node 129 = .ok (.iload 4, 2) := by decide +kernel
theorem dX7_node_131 : decode cX7_node 131 = .ok (.baload, 1) := by decide +kernel
theorem dX7_node_132 : decode cX7_node 132 = .ok (.ifCond .eq 7, 3) := by decide +kernel
theorem dX7_node_135 : decode cX7_node 135 = .ok (.iconst 0, 1) := by decide +kernel
theorem dX7_node_136 : decode cX7_node 136 = .ok (.goto 23, 3) := by decide +kernel
theorem dX7_node_139 : decode cX7_node 139 = .ok (.iconst 1, 1) := by decide +kernel
theorem dX7_node_140 : decode cX7_node 140 = .ok (.goto 19, 3) := by decide +kernel
theorem dX7_node_143 : decode cX7_node 143 = .ok (.aload_n 0, 1) := by decide +kernel
theorem dX7_node_144 : decode cX7_node 144 = .ok (.getfield 36, 3) := by decide +kernel
theorem dX7_node_147 : decode cX7_node 147 = .ok (.iload 4, 2) := by decide +kernel
theorem dX7_node_149 : decode cX7_node 149 = .ok (.iaload, 1) := by decide +kernel
theorem dX7_node_150 : decode cX7_node 150 = .ok (.iload_n 3, 1) := by decide +kernel
theorem dX7_node_151 : decode cX7_node 151 = .ok (.if_icmp .ne 7, 3) := by decide +kernel
theorem dX7_node_154 : decode cX7_node 154 = .ok (.iconst 1, 1) := by decide +kernel
theorem dX7_node_155 : decode cX7_node 155 = .ok (.goto 4, 3) := by decide +kernel
theorem dX7_node_158 : decode cX7_node 158 = .ok (.iconst 0, 1) := by decide +kernel
theorem dX7_node_159 : decode cX7_node 159 = .ok (.ireturn, 1) := by decide +kernel
theorem dX7_walk_0 : decode cX7_walk 0 = .ok (.aload_n 0, 1) := by decide +kernel
theorem dX7_walk_1 : decode cX7_walk 1 = .ok (.aload_n 0, 1) := by decide +kernel
theorem dX7_walk_2 : decode cX7_walk 2 = .ok (.getfield 45, 3) := by decide +kernel
theorem dX7_walk_5 : decode cX7_walk 5 = .ok (.invokevirtual 98, 3) := by decide +kernel
theorem dX7_walk_8 : decode cX7_walk 8 = .ok (.istore_n 2, 1) := by decide +kernel
theorem dX7_walk_9 : decode cX7_walk 9 = .ok (.aload_n 0, 1) := by decide +kernel
theorem dX7_walk_10 : decode cX7_walk 10 = .ok (.iload_n 1, 1) := by decide +kernel
theorem dX7_walk_11 : decode cX7_walk 11 = .ok (.i2l, 1) := by decide +kernel
theorem dX7_walk_12 : decode cX7_walk 12 = .ok (.lconst 0, 1) := by decide +kernel
theorem dX7_walk_13 : decode cX7_walk 13 = .ok (.iload_n 2, 1) := by decide +kernel
theorem dX7_walk_14 : decode cX7_walk 14 = .ok (.iconst 1, 1) := by decide +kernel
theorem dX7_walk_15 : decode cX7_walk 15 = .ok (.isub, 1) := by decide +kernel
theorem dX7_walk_16 : decode cX7_walk 16 = .ok (.i2l, 1) := by decide +kernel
theorem dX7_walk_17 : decode cX7_walk 17 = .ok (.invokestatic 90, 3) := by decide +kernel
theorem dX7_walk_20 : decode cX7_walk 20 = .ok (.ifCond .eq 7, 3) := by decide +kernel
theorem dX7_walk_23 : decode cX7_walk 23 = .ok (.iconst 0, 1) := by decide +kernel
theorem dX7_walk_24 : decode cX7_walk 24 = .ok (.goto 4, 3) := by decide +kernel
theorem dX7_walk_27 : decode cX7_walk 27 = .ok (.iconst 1, 1) := by decide +kernel
theorem dX7_walk_28 : decode cX7_walk 28 = .ok (.putfield 1, 3) := by decide +kernel
theorem dX7_walk_31 : decode cX7_walk 31 = .ok (.aload_n 0, 1) := by decide +kernel
theorem dX7_walk_32 : decode cX7_walk 32 = .ok (.getfield 1, 3) := by decide +kernel
theorem dX7_walk_35 : decode cX7_walk 35 = .ok (.ifCond .le 7, 3) := by decide +kernel
theorem dX7_walk_38 : decode cX7_walk 38 = .ok (.iconst 0, 1) := by decide +kernel
theorem dX7_walk_39 : decode cX7_walk 39 = .ok (.goto 45, 3) := by decide +kernel
theorem dX7_walk_42 : decode cX7_walk 42 = .ok (.aload_n 0, 1) := by decide +kernel
theorem dX7_walk_43 : decode cX7_walk 43 = .ok (.getfield 33, 3) := by decide +kernel
theorem dX7_walk_46 : decode cX7_walk 46 = .ok (.aload_n 0, 1) := by decide +kernel
theorem dX7_walk_47 : decode cX7_walk 47 = .ok (.getfield 48, 3) := by decide +kernel
theorem dX7_walk_50 : decode cX7_walk 50 = .ok (.iload_n 1, 1) := by decide +kernel
theorem dX7_walk_51 : decode cX7_walk 51 = .ok (.iaload, 1) := by decide +kernel
theorem dX7_walk_52 : decode cX7_walk 52 = .ok (.baload, 1) := by decide +kernel
theorem dX7_walk_53 : decode cX7_walk 53 = .ok (.ifCond .eq 17, 3) := by decide +kernel
theorem dX7_walk_56 : decode cX7_walk 56 = .ok (.aload_n 0, 1) := by decide +kernel
theorem dX7_walk_57 : decode cX7_walk 57 = .ok (.getfield 27, 3) := by decide +kernel
theorem dX7_walk_60 : decode cX7_walk 60 = .ok (.aload_n 0, 1) := by decide +kernel
theorem dX7_walk_61 : decode cX7_walk 61 = .ok (.getfield 48, 3) := by decide +kernel
theorem dX7_walk_64 : decode cX7_walk 64 = .ok (.iload_n 1, 1) := by decide +kernel
theorem dX7_walk_65 : decode cX7_walk 65 = .ok (.iaload, 1) := by decide +kernel
theorem dX7_walk_66 : decode cX7_walk 66 = .ok (.iaload, 1) := by decide +kernel
theorem dX7_walk_67 : decode cX7_walk 67 = .ok (.goto 17, 3) := by decide +kernel
theorem dX7_walk_70 : decode cX7_walk 70 = .ok (.aload_n 0, 1) := by decide +kernel
theorem dX7_walk_71 : decode cX7_walk 71 = .ok (.getfield 27, 3) := by decide +kernel
theorem dX7_walk_74 : decode cX7_walk 74 = .ok (.aload_n 0, 1) := by decide +kernel
theorem dX7_walk_75 : decode cX7_walk 75 = .ok (.getfield 48, 3) := by decide +kernel
theorem dX7_walk_78 : decode cX7_walk 78 = .ok (.iload_n 1, 1) := by decide +kernel
theorem dX7_walk_79 : decode cX7_walk 79 = .ok (.iaload, 1) := by decide +kernel
theorem dX7_walk_80 : decode cX7_walk 80 = .ok (.iaload, 1) := by decide +kernel
theorem dX7_walk_81 : decode cX7_walk 81 = .ok (.bipush 100, 2) := by decide +kernel
theorem dX7_walk_83 : decode cX7_walk 83 = .ok (.isub, 1) := by decide +kernel
theorem dX7_walk_84 : decode cX7_walk 84 = .ok (.ireturn, 1) := by decide +kernel
theorem dX7_count_0 : decode cX7_count 0 = .ok (.aload_n 0, 1) := by decide +kernel
theorem dX7_count_1 : decode cX7_count 1 = .ok (.iload_n 1, 1) := by decide +kernel
theorem dX7_count_2 : decode cX7_count 2 = .ok (.i2l, 1) := by decide +kernel
theorem dX7_count_3 : decode cX7_count 3 = .ok (.lconst 0, 1) := by decide +kernel
theorem dX7_count_4 : decode cX7_count 4 = .ok (.ldc2_w 174, 3) := by decide +kernel
theorem dX7_count_7 : decode cX7_count 7 = .ok (.invokestatic 90, 3) := by decide +kernel
theorem dX7_count_10 : decode cX7_count 10 = .ok (.ifCond .eq 7, 3) := by decide +kernel
theorem dX7_count_13 : decode cX7_count 13 = .ok (.iconst 0, 1) := by decide +kernel
theorem dX7_count_14 : decode cX7_count 14 = .ok (.goto 4, 3) := by decide +kernel
theorem dX7_count_17 : decode cX7_count 17 = .ok (.iconst 1, 1) := by decide +kernel
theorem dX7_count_18 : decode cX7_count 18 = .ok (.putfield 1, 3) := by decide +kernel
theorem dX7_count_21 : decode cX7_count 21 = .ok (.aload_n 0, 1) := by decide +kernel
theorem dX7_count_22 : decode cX7_count 22 = .ok (.getfield 1, 3) := by decide +kernel
theorem dX7_count_25 : decode cX7_count 25 = .ok (.ifCond .le 5, 3) := by decide +kernel
theorem dX7_count_28 : decode cX7_count 28 = .ok (.iconst 0, 1) := by decide +kernel
theorem dX7_count_29 : decode cX7_count 29 = .ok (.ireturn, 1) := by decide +kernel
theorem dX7_count_30 : decode cX7_count 30 = .ok (.aload_n 0, 1) := by decide +kernel
theorem dX7_count_31 : decode cX7_count 31 = .ok (.aload_n 0, 1) := by decide +kernel
theorem dX7_count_32 : decode cX7_count 32 = .ok (.getfield 45, 3) := by decide +kernel
theorem dX7_count_35 : decode cX7_count 35 = .ok (.invokevirtual 98, 3) := by decide +kernel
theorem dX7_count_38 : decode cX7_count 38 = .ok (.istore_n 2, 1) := by decide +kernel
theorem dX7_count_39 : decode cX7_count 39 = .ok (.iload_n 1, 1) := by decide +kernel
theorem dX7_count_40 : decode cX7_count 40 = .ok (.iconst 4, 1) := by decide +kernel
theorem dX7_count_41 : decode cX7_count 41 = .ok (.if_icmp .ne 57, 3) := by decide +kernel
theorem dX7_count_44 : decode cX7_count 44 = .ok (.iconst 0, 1) := by decide +kernel
theorem dX7_count_45 : decode cX7_count 45 = .ok (.istore_n 3, 1) := by decide +kernel
theorem dX7_count_46 : decode cX7_count 46 = .ok (.iconst 0, 1) := by decide +kernel
theorem dX7_count_47 : decode cX7_count 47 = .ok (.istore 4, 2) := by decide +kernel
theorem dX7_count_49 : decode cX7_count 49 = .ok (.iload 4, 2) := by decide +kernel
theorem dX7_count_51 : decode cX7_count 51 = .ok (.iload_n 2, 1) := by decide +kernel
theorem dX7_count_52 : decode cX7_count 52 = .ok (.if_icmp .ge 44, 3) := by decide +kernel
theorem dX7_count_55 : decode cX7_count 55 = .ok (.aload_n 0, 1) := by decide +kernel
theorem dX7_count_56 : decode cX7_count 56 = .ok (.aload_n 0, 1) := by decide +kernel
theorem dX7_count_57 : decode cX7_count 57 = .ok (.getfield 48, 3) := by decide +kernel
theorem dX7_count_60 : decode cX7_count 60 = .ok (.iload 4, 2) := by decide +kernel
theorem dX7_count_62 : decode cX7_count 62 = .ok (.iaload, 1) := by decide +kernel
theorem dX7_count_63 : decode cX7_count 63 = .ok (.invokevirtual 106, 3) := by decide +kernel
theorem dX7_count_66 : decode cX7_count 66 = .ok (.iconst 1, 1) := by decide +kernel
theorem dX7_count_67 : decode cX7_count 67 = .ok (.iadd, 1) := by decide +kernel
theorem dX7_count_68 : decode cX7_count 68 = .ok (.iload_n 3, 1) := by decide +kernel
theorem dX7_count_69 : decode cX7_count 69 = .ok (.if_icmp .le 19, 3) := by decide +kernel
theorem dX7_count_72 : decode cX7_count 72 = .ok (.aload_n 0, 1) := by decide +kernel
theorem dX7_count_73 : decode cX7_count 73 = .ok (.aload_n 0, 1) := by decide +kernel
theorem dX7_count_74 : decode cX7_count 74 = .ok (.getfield 48, 3) := by decide +kernel
theorem dX7_count_77 : decode cX7_count 77 = .ok (.iload 4, 2) := by decide +kernel
theorem dX7_count_79 : decode cX7_count 79 = .ok (.iaload, 1) := by decide +kernel
theorem dX7_count_80 : decode cX7_count 80 = .ok (.invokevirtual 106, 3) := by decide +kernel
theorem dX7_count_83 : decode cX7_count 83 = .ok (.iconst 1, 1) := by decide +kernel
theorem dX7_count_84 : decode cX7_count 84 = .ok (.iadd, 1) := by decide +kernel
theorem dX7_count_85 : decode cX7_count 85 = .ok (.goto 4, 3) := by decide +kernel
theorem dX7_count_88 : decode cX7_count 88 = .ok (.iload_n 3, 1) := by decide +kernel
theorem dX7_count_89 : decode cX7_count 89 = .ok (.istore_n 3, 1) := by decide +kernel
theorem dX7_count_90 : decode cX7_count 90 = .ok (.iinc 4 1, 3) := by decide +kernel
theorem dX7_count_93 : decode cX7_count 93 = .ok (.goto (-44), 3) := by decide +kernel
theorem dX7_count_96 : decode cX7_count 96 = .ok (.iload_n 3, 1) := by decide +kernel
theorem dX7_count_97 : decode cX7_count 97 = .ok (.ireturn, 1) := by decide +kernel
theorem dX7_count_98 : decode cX7_count 98 = .ok (.iload_n 1, 1) := by decide +kernel
theorem dX7_count_99 : decode cX7_count 99 = .ok (.ifCond .ne 10, 3) := by decide +kernel
theorem dX7_count_102 : decode cX7_count 102 = .ok (.aload_n 0, 1) := by decide +kernel
theorem dX7_count_103 : decode cX7_count 103 = .ok (.getfield 85, 3) := by decide +kernel
theorem dX7_count_106 : decode cX7_count 106 = .ok (.goto 67, 3) := by decide +kernel
theorem dX7_count_109 : decode cX7_count 109 = .ok (.iload_n 1, 1) := by decide +kernel
theorem dX7_count_110 : decode cX7_count 110 = .ok (.iconst 1, 1) := by decide +kernel
theorem dX7_count_111 : decode cX7_count 111 = .ok (.if_icmp .ne 10, 3) := by decide +kernel
theorem dX7_count_114 : decode cX7_count 114 = .ok (.aload_n 0, 1) := by decide +kernel
theorem dX7_count_115 : decode cX7_count 115 = .ok (.getfield 125, 3) := by decide +kernel
theorem dX7_count_118 : decode cX7_count 118 = .ok (.goto 55, 3) := by decide +kernel
theorem dX7_count_121 : decode cX7_count 121 = .ok (.iload_n 1, 1) := by decide +kernel
theorem dX7_count_122 : decode cX7_count 122 = .ok (.iconst 2, 1) := by decide +kernel
theorem dX7_count_123 : decode cX7_count 123 = .ok (.if_icmp .ne 7, 3) := by decide +kernel
theorem dX7_count_126 : decode cX7_count 126 = .ok (.iload_n 2, 1) := by decide +kernel
theorem dX7_count_127 : decode cX7_count 127 = .ok (.goto 46, 3) := by decide +kernel
theorem dX7_count_130 : decode cX7_count 130 = .ok (.iload_n 1, 1) := by decide +kernel
theorem dX7_count_131 : decode cX7_count 131 = .ok (.iconst 3, 1) := by decide +kernel
theorem dX7_count_132 : decode cX7_count 132 = .ok (.if_icmp .ne 12, 3) := by decide +kernel
theorem dX7_count_135 : decode cX7_count 135 = .ok (.iload_n 2, 1) := by decide +kernel
theorem dX7_count_136 : decode cX7_count 136 = .ok (.aload_n 0, 1) := by decide +kernel
theorem dX7_count_137 : decode cX7_count 137 = .ok (.getfield 125, 3) := by decide +kernel
theorem dX7_count_140 : decode cX7_count 140 = .ok (.isub, 1) := by decide +kernel
theorem dX7_count_141 : decode cX7_count 141 = .ok (.goto 32, 3) := by decide +kernel
theorem dX7_count_144 : decode cX7_count 144 = .ok (.iload_n 1, 1) := by decide +kernel
theorem dX7_count_145 : decode cX7_count 145 = .ok (.iconst 5, 1) := by decide +kernel
theorem dX7_count_146 : decode cX7_count 146 = .ok (.if_icmp .ne 10, 3) := by decide +kernel
theorem dX7_count_149 : decode cX7_count 149 = .ok (.aload_n 0, 1) := by decide +kernel
theorem dX7_count_150 : decode cX7_count 150 = .ok (.getfield 132, 3) := by decide +kernel
theorem dX7_count_153 : decode cX7_count 153 = .ok (.goto 20, 3) := by decide +kernel
theorem dX7_count_156 : decode cX7_count 156 = .ok (.iload_n 1, 1) := by decide +kernel
theorem dX7_count_157 : decode cX7_count 157 = .ok (.bipush 6, 2) := by decide +kernel
theorem dX7_count_159 : decode cX7_count 159 = .ok (.if_icmp .ne 10, 3) := by decide +kernel
theorem dX7_count_162 : decode cX7_count 162 = .ok (.aload_n 0, 1) := by decide +kernel
theorem dX7_count_163 : decode cX7_count 163 = .ok (.getfield 141, 3) := by decide +kernel
theorem dX7_count_166 : decode cX7_count 166 = .ok (.goto 7, 3) := by decide +kernel
theorem dX7_count_169 : decode cX7_count 169 = .ok (.aload_n 0, 1) := by decide +kernel
theorem dX7_count_170 : decode cX7_count 170 = .ok (.getfield 135, 3) := by decide +kernel
theorem dX7_count_173 : decode cX7_count 173 = .ok (.ireturn, 1) := by decide +kernel
end
section
/-! the world as two functions: the kind of each address (class number, 0), or (8 int, 9 long, 10 boolean, 11 Node rows; length); and the value at each address and place -/
abbrev gK : Type := Nat → Option (Nat × Nat)
abbrev gF : Type := Nat → Nat → Value
abbrev gG : Type := va_G × (Nat → ClassId)
def gAt (Γ : gG) (k : Nat × Nat) (V : Nat → Value) (a : Nat) (H : Heap) : Prop :=
  (k.1 < 8 → ∃ r : vw_C, vwCl[k.1]? = some r ∧ t_OB a (Γ.1.1 k.1) r.2.2 (Γ.1.2 k.1) H V) ∧ (8 ≤ k.1 → H[a]? = some (arrV (Γ.2 (k.1 - 8)) k.2 V))
def gP (Γ : gG) (K : gK) (F : gF) (H : Heap) : Prop := ∀ (a : Nat) (k : Nat × Nat), K a = some k → gAt Γ k (F a) a H
abbrev gTy (Γ : gG) : List (ClassId × FieldType) := [(Γ.2 0, .int), (Γ.2 1, .long), (Γ.2 2, .boolean), (Γ.2 3, .object "NearTree$Node")]
def gN (Γ : gG) (U : State) : Prop := va_K Γ.1 vwCl (gTy Γ) U
def gU (F : gF) (a k : Nat) (v : Value) : gF := fun b j => if b = a ∧ j = k then v else F b j
theorem gU_self {F : gF} {a k : Nat} {v : Value} : gU F a k v a k = v := by simp [gU]
theorem gU_ne {F : gF} {a k b j : Nat} {v : Value} (h : ¬ (b = a ∧ j = k)) : gU F a k v b j = F b j := by simp [gU, h]
theorem gU_a {F : gF} {a k b j : Nat} {v : Value} (h : b ≠ a) : gU F a k v b j = F b j := gU_ne (fun q => h q.1)
theorem gU_k {F : gF} {a k b j : Nat} {v : Value} (h : j ≠ k) : gU F a k v b j = F b j := gU_ne (fun q => h q.2)
theorem gU_row {F : gF} {a k : Nat} {v : Value} : gU F a k v a = updV (F a) k v := by
  funext j
  by_cases h : j = k <;> simp [gU, updV, h]
theorem gU_off {F : gF} {a k b : Nat} {v : Value} (h : b ≠ a) : gU F a k v b = F b := by
  funext j
  exact gU_a h
theorem gAt.kept {Γ : gG} {k : Nat × Nat} {V : Nat → Value} {a : Nat} {H H1 : Heap} (h : gAt Γ k V a H) (hq : H1[a]? = H[a]?) : gAt Γ k V a H1 := by
  refine ⟨fun q => ?_, fun q => ?_⟩
  · obtain ⟨r, h1, h2⟩ := h.1 q
    exact ⟨r, h1, h2.kept hq⟩
  · rw [hq]
    exact h.2 q
theorem gAt.lt {Γ : gG} {k : Nat × Nat} {V : Nat → Value} {a : Nat} {H : Heap} (h : gAt Γ k V a H) : a < H.size := by
  rcases Nat.lt_or_ge k.1 8 with q | q
  · obtain ⟨r, -, cell, h2, -⟩ := h.1 q
    exact (Array.getElem?_eq_some_iff.mp h2).1
  · exact (Array.getElem?_eq_some_iff.mp (h.2 q)).1
theorem gP.kept {Γ : gG} {K : gK} {F : gF} {H H1 : Heap} (h : gP Γ K F H) (hq : ∀ (a : Nat) (k : Nat × Nat), K a = some k → H1[a]? = H[a]?) : gP Γ K F H1 := fun a k hk => (h a k hk).kept (hq a k hk)
theorem gP.set {Γ : gG} {K : gK} {F : gF} {H H1 : Heap} {a i : Nat} {v : Value} {k : Nat × Nat} (h : gP Γ K F H) (hk : K a = some k) (he : gAt Γ k (updV (F a) i v) a H1) (oq : ∀ q : Nat, q ≠ a → H1[q]? = H[q]?) : gP Γ K (gU F a i v) H1 := by
  intro b kb hb
  by_cases hba : b = a
  · subst hba
    have : kb = k := Option.some.inj (hb.symm.trans hk)
    subst this
    rw [gU_row]
    exact he
  · rw [gU_off hba]
    exact (h b kb hb).kept (oq b hba)
theorem gP.push {Γ : gG} {K : gK} {F : gF} {H H1 : Heap} {V : Nat → Value} {k : Nat × Nat} (h : gP Γ K F H) (he : gAt Γ k V H.size H1) (oq : ∀ q : Nat, q < H.size → H1[q]? = H[q]?) : gP Γ (va_up K H.size (some k)) (va_up F H.size V) H1 := by
  intro b kb hb
  by_cases hba : b = H.size
  · subst hba
    rw [va_up_self] at hb ⊢
    cases hb
    exact he
  · rw [va_up_ne _ _ hba] at hb ⊢
    exact (h b kb hb).kept (oq b (h b kb hb).lt)
theorem gP.fresh {Γ : gG} {K : gK} {F : gF} {H : Heap} (h : gP Γ K F H) {q : Nat} (hq : H.size ≤ q) : K q = none := by
  cases hk : K q with
  | none => rfl
  | some k => exact absurd (h q k hk).lt (by omega)
/-- the world of a walk: what the heap holds, what has changed since the method began, and that it is the method's own -/
def gW (Γ : gG) (A : Nat → Prop) (H0 : Heap) (K : gK) (F : gF) (H : Heap) (locs : List Loc) : Prop :=
  gP Γ K F H ∧ va_S A H0 H locs ∧ (∀ (a : Nat) (k : Nat × Nat), K a = some k → A a) ∧ ∀ q : Nat, H0.size ≤ q → A q
def gA (K : gK) (sz : Nat) : Nat → Prop := fun q => (∃ k, K q = some k) ∨ sz ≤ q
theorem gW.start {Γ : gG} {K : gK} {F : gF} {H : Heap} (h : gP Γ K F H) : gW Γ (gA K H.size) H K F H [] := ⟨h, va_S.rf, fun _ k hk => Or.inl ⟨k, hk⟩, fun _ hq => Or.inr hq⟩
/-- contracts: a method that reads, and one that writes -/
def gPre (Γ : gG) (K : gK) (F : gF) (av : List Value) : Array Value → State → Prop := va_Pc av (fun U => gP Γ K F U.heap ∧ gN Γ U)
def gR (v : Option Value) : Array Value → State → Outcome → State → Prop := fun _ st oc t => oc = .returned v ∧ t.heap = st.heap
def gPreM (Γ : gG) (K : gK) (F : gF) (sz : Nat) (av : List Value) : Array Value → State → Prop := va_Pc av (fun U => U.heap.size = sz ∧ gP Γ K F U.heap ∧ gN Γ U)
def gQ (Γ : gG) (A : Nat → Prop) (post : Option Value → gK → gF → Prop) : Array Value → State → Outcome → State → Prop := fun _ st oc t =>
  ∃ (v : Option Value) (K' : gK) (F' : gF), oc = .returned v ∧ post v K' F' ∧ gP Γ K' F' t.heap ∧ (∀ (a : Nat) (k : Nat × Nat), K' a = some k → A a) ∧ va_F A st t
abbrev gRm (n c s : Nat) : Room := { frames := n, cells := c, slots := s, locals := 40 * n }
abbrev gMR (l : Launch) (y : MethodName) (ws : List Cond) (n : Nat) (Γ : gG) (K : gK) (F : gF) (av : List Value) (v : Option Value) : Prop := Met l y ws (gRm n 0 0) (gPre Γ K F av) (gR v) 0 0 (fun _ => False)
abbrev gMM (l : Launch) (y : MethodName) (ws : List Cond) (n mc ms : Nat) (Γ : gG) (K : gK) (F : gF) (sz : Nat) (av : List Value) (post : Option Value → gK → gF → Prop) : Prop := Met l y ws (gRm n mc ms) (gPreM Γ K F sz av) (gQ Γ (gA K sz) post) mc ms (gA K sz)
theorem gPre_blind {Γ : gG} {K : gK} {F : gF} {av : List Value} : FrameBlind (gPre Γ K F av) := fun a U g mk q => by
  obtain ⟨q0, qP, qK⟩ := q
  exact ⟨q0, qP, va_K.moved (u := U) (U := U.calling g mk a) (Vm.Alike.refl U.vm) qK⟩
theorem gPreM_blind {Γ : gG} {K : gK} {F : gF} {sz : Nat} {av : List Value} : FrameBlind (gPreM Γ K F sz av) := fun a U g mk q => by
  obtain ⟨q0, q1, qP, qK⟩ := q
  exact ⟨q0, q1, qP, va_K.moved (u := U) (U := U.calling g mk a) (Vm.Alike.refl U.vm) qK⟩
theorem g_metR {l : Launch} {y : MethodName} {ws ws' : List Cond} {n : Nat} {cc : ByteArray} {maxL : Nat} {ret : Option FieldType} {Γ : gG} {K : gK} {F : gF} {av : List Value} {v : Option Value}
    (hy : plainName y.cls = true) (hw : ws = Cond.code y cc maxL ret :: ws') (ha : (lg_sl av).length ≤ maxL)
    (body : ∀ (p : Program) (e : Env) (s : State) (m : MethodId) (below : List Frame) (meth : Method) (c : Code) (ls : Array Slot), p.tables.exec = Jvm.exec → c.code = cc → meth.sig.returnType = ret → (∀ w ∈ ws, w.before av.toArray s = true) → s.vm.findClass y.cls = some m.cls → meth.locks = false → c.maxLocals = maxL → gN Γ s → gP Γ K F s.heap → lv_has ls maxL (lv_args 0 av) →
      W p l e (gRm n 0 0) s m av.toArray below meth c s.heap [] 0 0 (MQ below (gR v) av.toArray s 0 0 (fun _ => False)) (F0 m 0 ls [])) : gMR l y ws n Γ K F av v := by
  refine Met.ofW (cc := cc) (maxL := maxL) (ret := ret) hy hw ?_
  intro p e s m args below meth c s₁ B hml hv
  obtain ⟨rfl, hP, hN⟩ := hv
  have hl := lv_entry av (n := maxL) ha
  rw [lg_entry_eq]
  exact body p e s m below meth c _ B.exec B.bytes B.returns (atoms_spec (ws := ws) B.pre) (findClass_of_methodNamed B.named) B.notSynchronized hml hN hP hl
theorem g_metM {l : Launch} {y : MethodName} {ws ws' : List Cond} {n mc ms : Nat} {cc : ByteArray} {maxL : Nat} {ret : Option FieldType} {Γ : gG} {K : gK} {F : gF} {sz : Nat} {av : List Value} {post : Option Value → gK → gF → Prop}
    (hy : plainName y.cls = true) (hw : ws = Cond.code y cc maxL ret :: ws') (ha : (lg_sl av).length ≤ maxL)
    (body : ∀ (p : Program) (e : Env) (s : State) (m : MethodId) (below : List Frame) (meth : Method) (c : Code) (ls : Array Slot), s.heap.size = sz → p.tables.exec = Jvm.exec → c.code = cc → meth.sig.returnType = ret → (∀ w ∈ ws, w.before av.toArray s = true) → s.vm.findClass y.cls = some m.cls → meth.locks = false → c.maxLocals = maxL → meth.name = y.name → gN Γ s → gW Γ (gA K sz) s.heap K F s.heap [] → lv_has ls maxL (lv_args 0 av) →
      W p l e (gRm n mc ms) s m av.toArray below meth c s.heap [] 0 0 (MQ below (gQ Γ (gA K sz) post) av.toArray s mc ms (gA K sz)) (F0 m 0 ls [])) : gMM l y ws n mc ms Γ K F sz av post := by
  refine Met.ofW (cc := cc) (maxL := maxL) (ret := ret) hy hw ?_
  intro p e s m args below meth c s₁ B hml hv
  obtain ⟨rfl, rfl, hP, hN⟩ := hv
  have hl := lv_entry av (n := maxL) ha
  rw [lg_entry_eq]
  exact body p e s m below meth c _ rfl B.exec B.bytes B.returns (atoms_spec (ws := ws) B.pre) (findClass_of_methodNamed B.named) B.notSynchronized hml (name_of_methodNamed B.named B.method).1 hN (gW.start hP) hl
end
section
/-! walking in the world: fields, rows, calls -/
section GWalk
variable {p : Program} {l : Launch} {e : Env} {R : Room} {s : State} {m : MethodId} {args : Array Value} {below : List Frame} {meth : Method} {c : Code} {H : Heap} {locs : List Loc} {cells slots : Nat} {Q : State → Prop}
variable {cc : ByteArray} {pc : Nat} {ls : Array Slot} {rest : List Value} {Γ : gG} {A : Nat → Prop} {a : Nat} {K : gK} {F : gF} {H0 : Heap}
theorem g_get (hexec : p.tables.exec = Jvm.exec) (hb : c.code = cc) {own C : String} {T : u_T} {N ci index : Nat} {Ts : List Cond} (hts : ∀ w ∈ Ts, w.before args s = true) (hin : ∀ w ∈ u_ws C T N, w ∈ Ts) (hown : s.vm.findClass own = some m.cls) (hN : gN Γ s) (hP : gP Γ K F H) (hk : K a = some (ci, 0)) (hc : vwCl[ci]? = some (C, T, N)) (h8 : ci < 8) (k : Nat) (hkN : k < N) (hlink : Cond.fieldLink own index (T k).1 (T k).2.1 (T k).2.2.1 ∈ Ts) {v : Value} (hv : F a k = v) (hdg : decode cc pc = .ok (.getfield index, 3))
    (kk : W p l e R s m args below meth c H locs cells slots Q (F0 m (pc + 3) ls (v :: rest))) : W p l e R s m args below meth c H locs cells slots Q (F0 m pc ls (.ref a :: rest)) := by
  obtain ⟨r, h1, cell, q1, q2, q3, q4⟩ := (hP a _ hk).1 h8
  have hr : r = (C, T, N) := Option.some.inj (h1.symm.trans hc)
  subst hr
  obtain ⟨hS, hfc, kC, hkC, hkind⟩ := hN.1 ci _ hc
  obtain ⟨cf, kf, fi, f, hi, hsl⟩ := hS k hkN
  refine W.getf hexec hb hown (hts _ hlink) hi (u_facts hfc hkC (u_lays hts hin hkN) hi).1 q1 (by rw [q3]; exact fun h => by cases h) (v := v) ?_ rfl rfl hdg kk
  rw [hsl, q4 k hkN, hv]
theorem g_put (hexec : p.tables.exec = Jvm.exec) (hb : c.code = cc) {own C : String} {T : u_T} {N ci index : Nat} {Ts : List Cond} (hts : ∀ w ∈ Ts, w.before args s = true) (hin : ∀ w ∈ u_ws C T N, w ∈ Ts) (ty0 : Nat → FieldType) (hty : ∀ k, k < N → parseFieldDescriptor (T k).2.2.1 = some (ty0 k)) (hnm : ∀ a, a < N → ∀ b, b < N → a ≠ b → (T a).2.1 ≠ (T b).2.1) (hown : s.vm.findClass own = some m.cls) (hN : gN Γ s) (hW : gW Γ A H0 K F H locs) (hk : K a = some (ci, 0)) (hc : vwCl[ci]? = some (C, T, N)) (h8 : ci < 8) (k : Nat) (hkN : k < N) (hlink : Cond.fieldLink own index (T k).1 (T k).2.1 (T k).2.2.1 ∈ Ts) (hfin : (T k).2.2.2 = false) {v : Value} (hn : narrow (ty0 k) v = v) (hfit : fits (ty0 k) v = true) (hdg : decode cc pc = .ok (.putfield index, 3))
    (kk : ∀ (H1 : Heap) (locs1 : List Loc), gW Γ A H0 K (gU F a k v) H1 locs1 → W p l e R s m args below meth c H1 locs1 cells slots Q (F0 m (pc + 3) ls rest)) : W p l e R s m args below meth c H locs cells slots Q (F0 m pc ls (v :: .ref a :: rest)) := by
  have hap := va_apart (own := own) hts hin ty0 hty hnm hN hc
  obtain ⟨r, h1, cell, q1, q2, q3, q4⟩ := (hW.1 a _ hk).1 h8
  have hr : r = (C, T, N) := Option.some.inj (h1.symm.trans hc)
  subst hr
  obtain ⟨hS, hfc, kC, hkC, hkind⟩ := hN.1 ci _ hc
  obtain ⟨cf, kf, fi, f, hi, hsl⟩ := hS k hkN
  have hlay := hts _ (hin _ (u_in_lay hkN))
  unfold u_lay at hlay
  rw [if_neg (by rw [hfin]; decide)] at hlay
  have hst := (u_facts hfc hkC (u_lays hts hin hkN) hi).1
  have h6 := u_store hfc hkC hkind hlay hi (hty k hkN) hn hfit
  refine W.putK hexec hb (f := f) ⟨hown, hts _ hlink, ⟨_, _, _, hi⟩, hst⟩ (by rw [q2]; exact h6) q1 q3 (by rw [hsl]; exact k2_hasslot (q4 k hkN)) rfl rfl hdg fun H' e1 e2 e3 => ?_
  rw [hsl] at e1 ⊢
  refine kk H' _ ⟨hW.1.set hk ⟨fun _ => ⟨_, hc, _, e1, q2, q3, t_set q4 hap hkN v⟩, fun h9 => absurd h8 (Nat.not_lt.mpr h9)⟩ e3, hW.2.1.put e2 e3 (hW.2.2.1 a _ hk), hW.2.2⟩
theorem g_putF (hexec : p.tables.exec = Jvm.exec) (hb : c.code = cc) {own C : String} {T : u_T} {N ci index : Nat} {Ts : List Cond} (hts : ∀ w ∈ Ts, w.before args s = true) (hin : ∀ w ∈ u_ws C T N, w ∈ Ts) (ty0 : Nat → FieldType) (hty : ∀ k, k < N → parseFieldDescriptor (T k).2.2.1 = some (ty0 k)) (hnm : ∀ a, a < N → ∀ b, b < N → a ≠ b → (T a).2.1 ≠ (T b).2.1) (hown : s.vm.findClass own = some m.cls) (hN : gN Γ s) (hW : gW Γ A H0 K F H locs) (hk : K a = some (ci, 0)) (hc : vwCl[ci]? = some (C, T, N)) (h8 : ci < 8) (k : Nat) (hkN : k < N) (hlink : Cond.fieldLink own index (T k).1 (T k).2.1 (T k).2.2.1 ∈ Ts) (hfin : (T k).2.2.2 = true) (hin2 : meth.name = "<init>") (hdecl : (T k).1 = own) {v : Value} (hn : narrow (ty0 k) v = v) (hfit : fits (ty0 k) v = true) (hdg : decode cc pc = .ok (.putfield index, 3))
    (kk : ∀ (H1 : Heap) (locs1 : List Loc), gW Γ A H0 K (gU F a k v) H1 locs1 → W p l e R s m args below meth c H1 locs1 cells slots Q (F0 m (pc + 3) ls rest)) : W p l e R s m args below meth c H locs cells slots Q (F0 m pc ls (v :: .ref a :: rest)) := by
  have hap := va_apart (own := own) hts hin ty0 hty hnm hN hc
  obtain ⟨r, h1, cell, q1, q2, q3, q4⟩ := (hW.1 a _ hk).1 h8
  have hr : r = (C, T, N) := Option.some.inj (h1.symm.trans hc)
  subst hr
  obtain ⟨hS, hfc, kC, hkC, hkind⟩ := hN.1 ci _ hc
  obtain ⟨cf, kf, fi, f, hi, hsl⟩ := hS k hkN
  have hlay := hts _ (hin _ (u_in_lay hkN))
  unfold u_lay at hlay
  rw [if_pos hfin] at hlay
  have hst := (u_facts hfc hkC (u_lays hts hin hkN) hi).1
  have hcf : m.cls = cf := by
    obtain ⟨_, _, c', _, _, _, -, -, hf', -, -, -, hown2, -⟩ := Cond.laysFinal_spec hlay
    have e1 : c' = cf := by have := hi.symm.trans hf'; simp at this; exact this.1.symm
    rw [hdecl] at hown2
    rw [← e1]; exact Option.some.inj (hown.symm.trans hown2)
  have h6 := u_fits hfc hkC hkind (Or.inr hlay) hi (hty k hkN) hn hfit
  refine W.putFinK hexec hb hown (hts _ hlink) hi hst hcf hin2 (by rw [q2]; exact h6) q1 q3 (by rw [hsl]; exact k2_hasslot (q4 k hkN)) rfl rfl hdg fun H' e1 e2 e3 => ?_
  rw [hsl] at e1 ⊢
  refine kk H' _ ⟨hW.1.set hk ⟨fun _ => ⟨_, hc, _, e1, q2, q3, t_set q4 hap hkN v⟩, fun h9 => absurd h8 (Nat.not_lt.mpr h9)⟩ e3, hW.2.1.put e2 e3 (hW.2.2.1 a _ hk), hW.2.2⟩
theorem g_row {n t : Nat} (hP : gP Γ K F H) (hk : K a = some (8 + t, n)) : H[a]? = some (arrV (Γ.2 t) n (F a)) := by
  have h := (hP a _ hk).2 (Nat.le_add_right 8 t)
  rwa [show 8 + t - 8 = t by omega] at h
theorem g_inR {j n : Nat} {i : Int32} {cA : ClassId} {f : Nat → Value} (hi : i = nI j) (hj : j < n) (hn : n < 2 ^ 31) : ¬ (i < 0 ∨ (arrV cA n f).slots.size ≤ i.toNatClampNeg) := by
  rw [arrV_size, hi]
  exact nI_in hj hn
theorem g_rd {j n : Nat} {i : Int32} {cA : ClassId} {f : Nat → Value} {v : Value} (hi : i = nI j) (hj : j < n) (hn : n < 2 ^ 31) (hv : f j = v) : (arrV cA n f).slots[i.toNatClampNeg]? = some v := by
  rw [hi, nI_clamp (by omega), arrV_read _ _ hj, hv]
theorem g_alen {t n : Nat} (hexec : p.tables.exec = Jvm.exec) (hb : c.code = cc) (hN : gN Γ s) (hP : gP Γ K F H) (hk : K a = some (8 + t, n)) {ty : FieldType} (ht : (gTy Γ)[t]? = some (Γ.2 t, ty)) (hdg : decode cc pc = .ok (.arraylength, 1))
    (kk : W p l e R s m args below meth c H locs cells slots Q (F0 m (pc + 1) ls (.int (nI n) :: rest))) : W p l e R s m args below meth c H locs cells slots Q (F0 m pc ls (.ref a :: rest)) :=
  W.alen (n := nI n) hexec hb (g_row hP hk) ((hN.2 t _ ht).1 n (F a)) (by rw [arrV_size] <;> rfl) rfl rfl hdg kk
theorem g_iald {n j : Nat} (hexec : p.tables.exec = Jvm.exec) (hb : c.code = cc) (hN : gN Γ s) (hP : gP Γ K F H) (hk : K a = some (8, n)) (hn : n < 2 ^ 31) {i : Int32} (hi : i = nI j) (hj : j < n) {v : Value} (hv : F a j = v) (hdg : decode cc pc = .ok (.iaload, 1))
    (kk : W p l e R s m args below meth c H locs cells slots Q (F0 m (pc + 1) ls (v :: rest))) : W p l e R s m args below meth c H locs cells slots Q (F0 m pc ls (.int i :: .ref a :: rest)) :=
  W.iald (v := v) hexec hb (g_row (t := 0) hP hk) ((hN.2 0 _ rfl).1 n (F a)) (fun q => by cases q) (g_inR hi hj hn) (g_rd hi hj hn hv) rfl rfl hdg kk
theorem g_lald {n j : Nat} (hexec : p.tables.exec = Jvm.exec) (hb : c.code = cc) (hN : gN Γ s) (hP : gP Γ K F H) (hk : K a = some (9, n)) (hn : n < 2 ^ 31) {i : Int32} (hi : i = nI j) (hj : j < n) {v : Value} (hv : F a j = v) (hdg : decode cc pc = .ok (.laload, 1))
    (kk : W p l e R s m args below meth c H locs cells slots Q (F0 m (pc + 1) ls (v :: rest))) : W p l e R s m args below meth c H locs cells slots Q (F0 m pc ls (.int i :: .ref a :: rest)) :=
  W.lald (v := v) hexec hb (g_row (t := 1) hP hk) ((hN.2 1 _ rfl).1 n (F a)) (fun q => by cases q) (g_inR hi hj hn) (g_rd hi hj hn hv) rfl rfl hdg kk
theorem g_zald {n j : Nat} (hexec : p.tables.exec = Jvm.exec) (hb : c.code = cc) (hN : gN Γ s) (hP : gP Γ K F H) (hk : K a = some (10, n)) (hn : n < 2 ^ 31) {i : Int32} (hi : i = nI j) (hj : j < n) {v : Value} (hv : F a j = v) (hdg : decode cc pc = .ok (.baload, 1))
    (kk : W p l e R s m args below meth c H locs cells slots Q (F0 m (pc + 1) ls (v :: rest))) : W p l e R s m args below meth c H locs cells slots Q (F0 m pc ls (.int i :: .ref a :: rest)) :=
  W.zald (v := v) hexec hb (g_row (t := 2) hP hk) ((hN.2 2 _ rfl).1 n (F a)) (fun q => by cases q) (g_inR hi hj hn) (g_rd hi hj hn hv) rfl rfl hdg kk
theorem g_aald {n j : Nat} (hexec : p.tables.exec = Jvm.exec) (hb : c.code = cc) (hN : gN Γ s) (hP : gP Γ K F H) (hk : K a = some (11, n)) (hn : n < 2 ^ 31) {i : Int32} (hi : i = nI j) (hj : j < n) {v : Value} (hv : F a j = v) (hdg : decode cc pc = .ok (.aaload, 1))
    (kk : W p l e R s m args below meth c H locs cells slots Q (F0 m (pc + 1) ls (v :: rest))) : W p l e R s m args below meth c H locs cells slots Q (F0 m pc ls (.int i :: .ref a :: rest)) :=
  W.aald (v := v) (ty := .object "NearTree$Node") hexec hb (g_row (t := 3) hP hk) ((hN.2 3 _ rfl).1 n (F a)) rfl (fun q => by cases q) (g_inR hi hj hn) (g_rd hi hj hn hv) rfl rfl hdg kk
theorem g_stored {n j t : Nat} {i : Int32} {x : Value} {H1 : Heap} (hW : gW Γ A H0 K F H locs) (hk : K a = some (8 + t, n)) (hi : i = nI j) (hj : j < n) (hn : n < 2 ^ 31) (e1 : H1[a]? = some ((arrV (Γ.2 t) n (F a)).setSlot i.toNatClampNeg x)) (z : H1.size = H.size) (oq : ∀ q, q ≠ a → H1[q]? = H[q]?) : gW Γ A H0 K (gU F a j x) H1 (locs ++ [⟨a, i.toNatClampNeg⟩]) := by
  refine ⟨hW.1.set hk ⟨fun h => absurd h (by simp), fun _ => ?_⟩ oq, hW.2.1.put z oq (hW.2.2.1 a _ hk), hW.2.2⟩
  rw [e1, arrV_store, hi, nI_clamp (by omega), show 8 + t - 8 = t by omega]
theorem g_iast {n j : Nat} (hexec : p.tables.exec = Jvm.exec) (hb : c.code = cc) (hN : gN Γ s) (hW : gW Γ A H0 K F H locs) (hk : K a = some (8, n)) (hn : n < 2 ^ 31) {i x : Int32} (hi : i = nI j) (hj : j < n) (hdg : decode cc pc = .ok (.iastore, 1))
    (kk : ∀ (H1 : Heap) (locs1 : List Loc), gW Γ A H0 K (gU F a j (.int x)) H1 locs1 → W p l e R s m args below meth c H1 locs1 cells slots Q (F0 m (pc + 1) ls rest)) : W p l e R s m args below meth c H locs cells slots Q (F0 m pc ls (.int x :: .int i :: .ref a :: rest)) :=
  W.iast hexec hb (g_row (t := 0) hW.1 hk) ((hN.2 0 _ rfl).1 n (F a)) (fun q => by cases q) (g_inR hi hj hn) rfl rfl hdg fun H1 e z oq => kk H1 _ (g_stored (t := 0) hW hk hi hj hn e z oq)
theorem g_last {n j : Nat} (hexec : p.tables.exec = Jvm.exec) (hb : c.code = cc) (hN : gN Γ s) (hW : gW Γ A H0 K F H locs) (hk : K a = some (9, n)) (hn : n < 2 ^ 31) {i : Int32} {x : Int64} (hi : i = nI j) (hj : j < n) (hdg : decode cc pc = .ok (.lastore, 1))
    (kk : ∀ (H1 : Heap) (locs1 : List Loc), gW Γ A H0 K (gU F a j (.long x)) H1 locs1 → W p l e R s m args below meth c H1 locs1 cells slots Q (F0 m (pc + 1) ls rest)) : W p l e R s m args below meth c H locs cells slots Q (F0 m pc ls (.long x :: .int i :: .ref a :: rest)) :=
  W.last hexec hb (g_row (t := 1) hW.1 hk) ((hN.2 1 _ rfl).1 n (F a)) (fun q => by cases q) (g_inR hi hj hn) rfl rfl hdg fun H1 e z oq => kk H1 _ (g_stored (t := 1) hW hk hi hj hn e z oq)
theorem g_zast {n j : Nat} (hexec : p.tables.exec = Jvm.exec) (hb : c.code = cc) (hN : gN Γ s) (hW : gW Γ A H0 K F H locs) (hk : K a = some (10, n)) (hn : n < 2 ^ 31) {i x : Int32} (hx : narrow .boolean (.int x) = .int x) (hi : i = nI j) (hj : j < n) (hdg : decode cc pc = .ok (.bastore, 1))
    (kk : ∀ (H1 : Heap) (locs1 : List Loc), gW Γ A H0 K (gU F a j (.int x)) H1 locs1 → W p l e R s m args below meth c H1 locs1 cells slots Q (F0 m (pc + 1) ls rest)) : W p l e R s m args below meth c H locs cells slots Q (F0 m pc ls (.int x :: .int i :: .ref a :: rest)) :=
  W.zast hexec hb (g_row (t := 2) hW.1 hk) ((hN.2 2 _ rfl).1 n (F a)) (fun q => by cases q) (g_inR hi hj hn) rfl rfl hdg fun H1 e z oq => kk H1 _ (g_stored (t := 2) hW hk hi hj hn (by rw [← hx]; exact e) z oq)
theorem g_aast {n j b : Nat} (hexec : p.tables.exec = Jvm.exec) (hb : c.code = cc) (hN : gN Γ s) (hW : gW Γ A H0 K F H locs) (hk : K a = some (11, n)) (hn : n < 2 ^ 31) (hkb : K b = some (2, 0)) {i : Int32} (hi : i = nI j) (hj : j < n) (hdg : decode cc pc = .ok (.aastore, 1))
    (kk : ∀ (H1 : Heap) (locs1 : List Loc), gW Γ A H0 K (gU F a j (.ref b)) H1 locs1 → W p l e R s m args below meth c H1 locs1 cells slots Q (F0 m (pc + 1) ls rest)) : W p l e R s m args below meth c H locs cells slots Q (F0 m pc ls (.ref b :: .int i :: .ref a :: rest)) := by
  obtain ⟨r', hr', cellV, g1, g2, g3, -⟩ := (hW.1 b _ hkb).1 (by decide)
  have hcls := (hN.1 2 _ rfl).2
  obtain ⟨kA, comp, k1, k2, k3, -⟩ := (hN.2 3 _ rfl).2
  have hcomp : comp = Γ.1.1 2 := Option.some.inj (k3.symm.trans hcls.1)
  subst hcomp
  obtain ⟨kC, hkC, -⟩ := hcls.2
  exact W.aast hexec hb (g_row (t := 3) hW.1 hk) (fun q h => by cases h) (fun h => by cases h) k1 k2 rfl hkC ⟨by rw [hi]; exact nI_pos (by omega), by rw [arrV_size, hi, nI_clamp (by omega)]; exact hj⟩ g1 (fun q h => by rw [g3] at h; cases h) (by rw [g2]; exact hkC) (by rw [g2]; exact va_assign hcls) rfl rfl hdg fun H1 e z oq => kk H1 _ (g_stored (t := 3) hW hk hi hj hn e z oq)
theorem g_aastN {n j : Nat} (hexec : p.tables.exec = Jvm.exec) (hb : c.code = cc) (hN : gN Γ s) (hW : gW Γ A H0 K F H locs) (hk : K a = some (11, n)) (hn : n < 2 ^ 31) {i : Int32} (hi : i = nI j) (hj : j < n) (hdg : decode cc pc = .ok (.aastore, 1))
    (kk : ∀ (H1 : Heap) (locs1 : List Loc), gW Γ A H0 K (gU F a j .null) H1 locs1 → W p l e R s m args below meth c H1 locs1 cells slots Q (F0 m (pc + 1) ls rest)) : W p l e R s m args below meth c H locs cells slots Q (F0 m pc ls (.null :: .int i :: .ref a :: rest)) :=
  va_WaastN (C := "NearTree$Node") hexec hb (g_row (t := 3) hW.1 hk) ((hN.2 3 _ rfl).1 n (F a)) (fun h => by cases h) (g_inR hi hj hn) rfl rfl hdg fun H1 e z oq => kk H1 _ (g_stored (t := 3) hW hk hi hj hn e z oq)
/-- a number on the stack by another name -/
theorem g_asi {x y : Int32} (h : x = y) (k : W p l e R s m args below meth c H locs cells slots Q (F0 m pc ls (.int y :: rest))) : W p l e R s m args below meth c H locs cells slots Q (F0 m pc ls (.int x :: rest)) := by rw [h]; exact k
theorem g_asl {x y : Int64} (h : x = y) (k : W p l e R s m args below meth c H locs cells slots Q (F0 m pc ls (.long y :: rest))) : W p l e R s m args below meth c H locs cells slots Q (F0 m pc ls (.long x :: rest)) := by rw [h]; exact k
theorem g_asi2 {x y : Int32} {v : Value} (h : x = y) (k : W p l e R s m args below meth c H locs cells slots Q (F0 m pc ls (v :: .int y :: rest))) : W p l e R s m args below meth c H locs cells slots Q (F0 m pc ls (v :: .int x :: rest)) := by rw [h]; exact k
/-- references that may be null -/
theorem g_aload_n (hexec : p.tables.exec = Jvm.exec) (hb : c.code = cc) {k : Fin 4} {i : Nat} {r : Option Nat} (hdg : decode cc pc = .ok (.aload_n k, 1)) (hi : (k : Nat) = i) (hl : ls[i]? = some (.val (va_rf r))) (kk : W p l e R s m args below meth c H locs cells slots Q (F0 m (pc + 1) ls (va_rf r :: rest))) : W p l e R s m args below meth c H locs cells slots Q (F0 m pc ls rest) := by
  cases r with
  | none => exact lv_aload_nN hexec hb hdg hi hl kk
  | some x => exact lv_aload_n hexec hb hdg hi hl kk
theorem g_aload (hexec : p.tables.exec = Jvm.exec) (hb : c.code = cc) {i : Nat} {r : Option Nat} (hdg : decode cc pc = .ok (.aload i, 2)) (hl : ls[i]? = some (.val (va_rf r))) (kk : W p l e R s m args below meth c H locs cells slots Q (F0 m (pc + 2) ls (va_rf r :: rest))) : W p l e R s m args below meth c H locs cells slots Q (F0 m pc ls rest) := by
  cases r with
  | none => exact lv_aloadN hexec hb hdg hl kk
  | some x => exact lv_aload hexec hb hdg hl kk
theorem g_astore_n (hexec : p.tables.exec = Jvm.exec) (hb : c.code = cc) {k : Fin 4} {i nL : Nat} {r : Option Nat} {lv lv' : List (Nat × Value)} (hdg : decode cc pc = .ok (.astore_n k, 1)) (hi : (k : Nat) = i) (h : lv_has ls nL lv) (hn : i < nL) (hl : (i, va_rf r) :: lv.filter (fun q => !(q.1 == i) && !(q.1 + 1 == i && q.2.category == 2)) = lv')
    (kk : ∀ ls : Array Slot, lv_has ls nL lv' → W p l e R s m args below meth c H locs cells slots Q (F0 m (pc + 1) ls rest)) : W p l e R s m args below meth c H locs cells slots Q (F0 m pc ls (va_rf r :: rest)) := by
  cases r with
  | none => exact lv_astore_nN hexec hb hdg hi h hn hl kk
  | some x => exact lv_astore_n hexec hb hdg hi h hn hl kk
theorem g_astore (hexec : p.tables.exec = Jvm.exec) (hb : c.code = cc) {i nL : Nat} {r : Option Nat} {lv lv' : List (Nat × Value)} (hdg : decode cc pc = .ok (.astore i, 2)) (h : lv_has ls nL lv) (hn : i < nL) (hl : (i, va_rf r) :: lv.filter (fun q => !(q.1 == i) && !(q.1 + 1 == i && q.2.category == 2)) = lv')
    (kk : ∀ ls : Array Slot, lv_has ls nL lv' → W p l e R s m args below meth c H locs cells slots Q (F0 m (pc + 2) ls rest)) : W p l e R s m args below meth c H locs cells slots Q (F0 m pc ls (va_rf r :: rest)) := by
  cases r with
  | none => exact lv_astoreN hexec hb hdg h hn hl kk
  | some x => exact lv_astore hexec hb hdg h hn hl kk
theorem g_ifnull (hexec : p.tables.exec = Jvm.exec) (hb : c.code = cc) {r : Option Nat} {off : Int} {tgt : Nat} (hdg : decode cc pc = .ok (.ifnull off, 3)) (ht : (pc : Int) + off = (tgt : Int)) (k1 : r = none → W p l e R s m args below meth c H locs cells slots Q (F0 m tgt ls rest)) (k2 : ∀ x, r = some x → W p l e R s m args below meth c H locs cells slots Q (F0 m (pc + 3) ls rest)) : W p l e R s m args below meth c H locs cells slots Q (F0 m pc ls (va_rf r :: rest)) := by
  cases r with
  | none => exact lv_ifnullN hexec hb hdg ht (k1 rfl)
  | some x => exact lv_ifnull hexec hb hdg (k2 x rfl)
theorem g_ifnonnull (hexec : p.tables.exec = Jvm.exec) (hb : c.code = cc) {r : Option Nat} {off : Int} {tgt : Nat} (hdg : decode cc pc = .ok (.ifnonnull off, 3)) (ht : (pc : Int) + off = (tgt : Int)) (k1 : ∀ x, r = some x → W p l e R s m args below meth c H locs cells slots Q (F0 m tgt ls rest)) (k2 : r = none → W p l e R s m args below meth c H locs cells slots Q (F0 m (pc + 3) ls rest)) : W p l e R s m args below meth c H locs cells slots Q (F0 m pc ls (va_rf r :: rest)) := by
  cases r with
  | none => exact lv_ifnonnullN hexec hb hdg (k2 rfl)
  | some x => exact lv_ifnonnull hexec hb hdg ht (k1 x rfl)
/-- the ends -/
theorem g_iret {v : Int32} {cs sl : Nat} (hexec : p.tables.exec = Jvm.exec) (hb : c.code = cc) (hr : meth.sig.returnType = some .int) (hlocks : meth.locks = false) {v0 : Option Value} (hv : v0 = some (.int v)) (hdg : decode cc pc = .ok (.ireturn, 1)) : W p l e R s m args below meth c s.heap [] cs sl (MQ below (gR v0) args s cs sl (fun _ => False)) (F0 m pc ls [.int v]) :=
  W.iret hexec hb hr (fun t ht _ => ⟨by rw [hv], ht⟩) (fun q h => by cases h) hdg hlocks
theorem g_zret {v : Int32} {cs sl : Nat} (hexec : p.tables.exec = Jvm.exec) (hb : c.code = cc) (hr : meth.sig.returnType = some .boolean) (hn : narrow .boolean (.int v) = .int v) (hlocks : meth.locks = false) {v0 : Option Value} (hv : v0 = some (.int v)) (hdg : decode cc pc = .ok (.ireturn, 1)) : W p l e R s m args below meth c s.heap [] cs sl (MQ below (gR v0) args s cs sl (fun _ => False)) (F0 m pc ls [.int v]) :=
  W.zret hexec hb hr hn (fun t ht _ => ⟨by rw [hv], ht⟩) (fun q h => by cases h) hdg hlocks
theorem g_lret {v : Int64} {cs sl : Nat} (hexec : p.tables.exec = Jvm.exec) (hb : c.code = cc) (hr : meth.sig.returnType = some .long) (hlocks : meth.locks = false) {v0 : Option Value} (hv : v0 = some (.long v)) (hdg : decode cc pc = .ok (.lreturn, 1)) : W p l e R s m args below meth c s.heap [] cs sl (MQ below (gR v0) args s cs sl (fun _ => False)) (F0 m pc ls [.long v]) :=
  W.lret hexec hb hr (fun t ht _ => ⟨by rw [hv], ht⟩) (fun q h => by cases h) hdg hlocks
theorem g_aret {r : Option Nat} {rt : FieldType} {cs sl : Nat} (hexec : p.tables.exec = Jvm.exec) (hb : c.code = cc) (hr : meth.sig.returnType = some rt) (hrt : ∃ n, rt = .object n) (hlocks : meth.locks = false) {v0 : Option Value} (hv : v0 = some (va_rf r)) (hdg : decode cc pc = .ok (.areturn, 1)) : W p l e R s m args below meth c s.heap [] cs sl (MQ below (gR v0) args s cs sl (fun _ => False)) (F0 m pc ls [va_rf r]) :=
  W.aret hexec hb hr (Or.inl hrt) (va_rf_or r) (fun t ht _ => ⟨by rw [hv], ht⟩) (fun q h => by cases h) hdg hlocks
theorem g_ireM {sz : Nat} {post : Option Value → gK → gF → Prop} {v : Int32} (hexec : p.tables.exec = Jvm.exec) (hb : c.code = cc) (hr : meth.sig.returnType = some .int) (hlocks : meth.locks = false) (hW : gW Γ A s.heap K F H locs) (hp : post (some (.int v)) K F) (hdg : decode cc pc = .ok (.ireturn, 1)) : W p l e R s m args below meth c H locs cells slots (MQ below (gQ Γ A post) args s cells slots A) (F0 m pc ls [.int v]) :=
  W.iret hexec hb hr (fun t ht _ => ⟨_, K, F, rfl, hp, by rw [ht]; exact hW.1, hW.2.2.1, hW.2.1.F ht⟩) hW.2.1.2.2 hdg hlocks
theorem g_vreM {sz : Nat} {post : Option Value → gK → gF → Prop} (hexec : p.tables.exec = Jvm.exec) (hb : c.code = cc) (hr : meth.sig.returnType = none) (hlocks : meth.locks = false) (hW : gW Γ A s.heap K F H locs) (hp : post none K F) (hdg : decode cc pc = .ok (.return_, 1)) : W p l e R s m args below meth c H locs cells slots (MQ below (gQ Γ A post) args s cells slots A) (F0 m pc ls []) :=
  W.vret hexec hb hr (fun t ht _ => ⟨_, K, F, rfl, hp, by rw [ht]; exact hW.1, hW.2.2.1, hW.2.1.F ht⟩) hW.2.1.2.2 hdg hlocks
theorem g_areM {sz : Nat} {post : Option Value → gK → gF → Prop} {r : Option Nat} {rt : FieldType} (hexec : p.tables.exec = Jvm.exec) (hb : c.code = cc) (hr : meth.sig.returnType = some rt) (hrt : ∃ n, rt = .object n) (hlocks : meth.locks = false) (hW : gW Γ A s.heap K F H locs) (hp : post (some (va_rf r)) K F) (hdg : decode cc pc = .ok (.areturn, 1)) : W p l e R s m args below meth c H locs cells slots (MQ below (gQ Γ A post) args s cells slots A) (F0 m pc ls [va_rf r]) :=
  W.aret hexec hb hr (Or.inl hrt) (va_rf_or r) (fun t ht _ => ⟨_, K, F, rfl, hp, by rw [ht]; exact hW.1, hW.2.2.1, hW.2.1.F ht⟩) hW.2.1.2.2 hdg hlocks
theorem g_lreM {sz : Nat} {post : Option Value → gK → gF → Prop} {v : Int64} (hexec : p.tables.exec = Jvm.exec) (hb : c.code = cc) (hr : meth.sig.returnType = some .long) (hlocks : meth.locks = false) (hW : gW Γ A s.heap K F H locs) (hp : post (some (.long v)) K F) (hdg : decode cc pc = .ok (.lreturn, 1)) : W p l e R s m args below meth c H locs cells slots (MQ below (gQ Γ A post) args s cells slots A) (F0 m pc ls [.long v]) :=
  W.lret hexec hb hr (fun t ht _ => ⟨_, K, F, rfl, hp, by rw [ht]; exact hW.1, hW.2.2.1, hW.2.1.F ht⟩) hW.2.1.2.2 hdg hlocks
end GWalk
end
section
/-! calls in the world -/
section GCall
variable {p : Program} {l : Launch} {e : Env} {R : Room} {s : State} {m : MethodId} {args : Array Value} {below : List Frame} {meth : Method} {c : Code} {H : Heap} {locs : List Loc} {cells slots : Nat} {Q : State → Prop}
variable {cc : ByteArray} {pc : Nat} {ls : Array Slot} {rest st0 As : List Value} {Γ : gG} {A : Nat → Prop} {b : Nat} {K : gK} {F : gF} {H0 : Heap}
theorem g_callP {v : Option Value} {av : Array Value} (hr : va_Run p l e R s m args below meth c H locs cells slots 0 0 (F0 m pc ls st0) rest (gR v av) (fun _ => False)) (kk : W p l e R s m args below meth c H locs cells slots Q (F0 m (pc + 3) ls (v.toList ++ rest))) : W p l e R s m args below meth c H locs cells slots Q (F0 m pc ls st0) := by
  intro T hT X
  obtain ⟨v', st₀, t, T', L, h0, X', hL, e1, e2, ⟨hv, hh⟩, st⟩ := hr T hT X
  cases hv
  obtain ⟨t2, a1, b1⟩ := kk T' (by rw [e1, hh, h0]) (Stand.forget X' (fun q h => (hL q h).elim))
  exact ⟨t2, st t2 a1, b1⟩
theorem g_callM {post : Option Value → gK → gF → Prop} {av : Array Value} {mc ms : Nat} (hr : va_Run p l e R s m args below meth c H locs cells slots mc ms (F0 m pc ls st0) rest (gQ Γ (gA K H.size) post av) (gA K H.size)) (hW : gW Γ A H0 K F H locs)
    (kk : ∀ (v : Option Value) (K' : gK) (F' : gF) (H1 : Heap) (locs1 : List Loc), post v K' F' → gW Γ A H0 K' F' H1 locs1 → H.size ≤ H1.size → W p l e R s m args below meth c H1 locs1 (cells + mc) (slots + ms) Q (F0 m (pc + 3) ls (v.toList ++ rest))) : W p l e R s m args below meth c H locs cells slots Q (F0 m pc ls st0) := by
  intro T hT X
  obtain ⟨v', st₀, t, T', L, h0, X', hL, e1, e2, ⟨v, K', F', hv, hp, hP', hA', hz, hk⟩, st⟩ := hr T hT X
  cases hv
  have hAA : ∀ q, gA K H.size q → A q := fun q h => h.elim (fun ⟨k, hk⟩ => hW.2.2.1 q k hk) (fun h => hW.2.2.2 q (Nat.le_trans hW.2.1.1 h))
  rw [h0] at hz hk
  obtain ⟨t2, a1, b1⟩ := kk v' K' F' T'.heap (locs ++ L) hp ⟨by rw [e1]; exact hP', ⟨Nat.le_trans hW.2.1.1 (by rw [e1]; exact hz), fun q h1 h2 => by rw [e1, hk q (Nat.lt_of_lt_of_le h1 hW.2.1.1) (fun z => h2 (hAA q z))]; exact hW.2.1.2.1 q h1 h2, fun q hq => by
      rcases List.mem_append.mp hq with h | h
      · exact hW.2.1.2.2 q h
      · exact hAA _ (hL q h)⟩, fun a k hk' => hAA a (hA' a k hk'), hW.2.2.2⟩ (by rw [e1]; exact hz) T' rfl X'
  exact ⟨t2, st t2 a1, b1⟩
theorem g_recv {ci N : Nat} {C : String} {T : u_T} (hN : gN Γ s) (hP : gP Γ K F H) (hk : K b = some (ci, 0)) (h8 : ci < 8) (hc : vwCl[ci]? = some (C, T, N)) : ∃ cell : Cell, H[b]? = some cell ∧ cell.vm.isStatics = false ∧ s.vm.findClass C = some cell.cls := by
  obtain ⟨r, h1, cell, g1, g2, g3, -⟩ := (hP b _ hk).1 h8
  exact ⟨cell, g1, by rw [g3]; rfl, by rw [g2]; exact (hN.1 ci _ hc).2.1⟩
theorem g_cV {own C : String} {T : u_T} {N ci index nL maxL n na : Nat} {y : MethodName} {bytes : ByteArray} {ret : Option FieldType} {Ts ws ws' : List Cond} {v : Option Value}
    (hx : p.tables.exec = Jvm.exec) (hb : c.code = cc) (hml : c.maxLocals = nL) (hown : s.vm.findClass own = some m.cls) (hts : ∀ w ∈ Ts, w.before args s = true) (hN : gN Γ s) (hP : gP Γ K F H)
    (hM : gMR l y ws n Γ K F (.ref b :: As) v) (hG : GoodIn Ts (wsV own index C y ws)) (hw : ws = Cond.code y bytes maxL ret :: ws') (hk : K b = some (ci, 0)) (h8 : ci < 8) (hc : vwCl[ci]? = some (C, T, N)) (hn : As.length = na)
    (hd : y.cls = C ∧ y.cls ≠ "java/lang/invoke/MethodHandle" ∧ y.cls ≠ "java/lang/invoke/VarHandle" ∧ (parseMethodDescriptor y.desc).map (fun d => d.parameters.length) = some na) (hR : n + 1 ≤ R.frames ∧ 8 + (maxL + 11) + 40 * n ≤ R.locals) (hcs : cells ≤ R.cells ∧ slots ≤ R.slots)
    (hst : st0 = As.reverse ++ .ref b :: rest) (hsz : ls.size = nL) (hrm : (rest.map fun v => v.category).sum ≤ 8) (hdg : decode cc pc = .ok (.invokevirtual index, 3))
    (kk : W p l e R s m args below meth c H locs cells slots Q (F0 m (pc + 3) ls (v.toList ++ rest))) : W p l e R s m args below meth c H locs cells slots Q (F0 m pc ls st0) :=
  g_callP (va_runV ⟨hx, hb, hml, hown, hts⟩ hM (cwV na hts hG hw rfl rfl hd hR) ⟨gPre_blind, g_recv hN hP hk h8 hc, fun U hU hW => ⟨rfl, by rw [hU]; exact hP, va_K.moved hW.alike hN⟩⟩ rfl hn hsz hst (lv_room hrm) hdg hcs) kk
theorem g_cS {own : String} {index nL maxL n na : Nat} {y : MethodName} {bytes : ByteArray} {ret : Option FieldType} {Ts ws ws' : List Cond} {v : Option Value}
    (hx : p.tables.exec = Jvm.exec) (hb : c.code = cc) (hml : c.maxLocals = nL) (hown : s.vm.findClass own = some m.cls) (hts : ∀ w ∈ Ts, w.before args s = true) (hN : gN Γ s) (hP : gP Γ K F H)
    (hM : gMR l y ws n Γ K F As v) (hG : GoodIn Ts (va_wsS own index y ws)) (hw : ws = Cond.code y bytes maxL ret :: ws') (hn : As.length = na)
    (hd : y.cls ≠ "java/lang/invoke/MethodHandle" ∧ y.cls ≠ "java/lang/invoke/VarHandle" ∧ (parseMethodDescriptor y.desc).map (fun d => d.parameters.length) = some na) (hR : n + 1 ≤ R.frames ∧ 8 + (maxL + 11) + 40 * n ≤ R.locals) (hcs : cells ≤ R.cells ∧ slots ≤ R.slots)
    (hst : st0 = As.reverse ++ rest) (hsz : ls.size = nL) (hrm : (rest.map fun v => v.category).sum ≤ 8) (hdg : decode cc pc = .ok (.invokestatic index, 3))
    (kk : W p l e R s m args below meth c H locs cells slots Q (F0 m (pc + 3) ls (v.toList ++ rest))) : W p l e R s m args below meth c H locs cells slots Q (F0 m pc ls st0) :=
  g_callP (va_runS ⟨hx, hb, hml, hown, hts⟩ hM (va_cwS na hts hG hw rfl rfl hd hR) ⟨gPre_blind, fun U hU hW => ⟨rfl, by rw [hU]; exact hP, va_K.moved hW.alike hN⟩⟩ rfl hn hsz hst (lv_room hrm) hdg hcs) kk
theorem g_mV {own C : String} {T : u_T} {N ci index nL maxL n na mc ms : Nat} {y : MethodName} {bytes : ByteArray} {ret : Option FieldType} {Ts ws ws' : List Cond} {post : Option Value → gK → gF → Prop}
    (hx : p.tables.exec = Jvm.exec) (hb : c.code = cc) (hml : c.maxLocals = nL) (hown : s.vm.findClass own = some m.cls) (hts : ∀ w ∈ Ts, w.before args s = true) (hN : gN Γ s) (hW : gW Γ A H0 K F H locs)
    (hM : gMM l y ws n mc ms Γ K F H.size (.ref b :: As) post) (hG : GoodIn Ts (wsV own index C y ws)) (hw : ws = Cond.code y bytes maxL ret :: ws') (hk : K b = some (ci, 0)) (h8 : ci < 8) (hc : vwCl[ci]? = some (C, T, N)) (hn : As.length = na)
    (hd : y.cls = C ∧ y.cls ≠ "java/lang/invoke/MethodHandle" ∧ y.cls ≠ "java/lang/invoke/VarHandle" ∧ (parseMethodDescriptor y.desc).map (fun d => d.parameters.length) = some na) (hR : n + 1 ≤ R.frames ∧ 8 + (maxL + 11) + 40 * n ≤ R.locals) (hcs : cells + mc ≤ R.cells ∧ slots + ms ≤ R.slots)
    (hst : st0 = As.reverse ++ .ref b :: rest) (hsz : ls.size = nL) (hrm : (rest.map fun v => v.category).sum ≤ 8) (hdg : decode cc pc = .ok (.invokevirtual index, 3))
    (kk : ∀ (v : Option Value) (K' : gK) (F' : gF) (H1 : Heap) (locs1 : List Loc), post v K' F' → gW Γ A H0 K' F' H1 locs1 → H.size ≤ H1.size → W p l e R s m args below meth c H1 locs1 (cells + mc) (slots + ms) Q (F0 m (pc + 3) ls (v.toList ++ rest))) : W p l e R s m args below meth c H locs cells slots Q (F0 m pc ls st0) :=
  g_callM (va_runV ⟨hx, hb, hml, hown, hts⟩ hM (cwV na hts hG hw rfl rfl hd hR) ⟨gPreM_blind, g_recv hN hW.1 hk h8 hc, fun U hU hW' => ⟨rfl, by rw [hU], by rw [hU]; exact hW.1, va_K.moved hW'.alike hN⟩⟩ rfl hn hsz hst (lv_room hrm) hdg hcs) hW kk
theorem g_mS {own : String} {index nL maxL n na mc ms : Nat} {y : MethodName} {bytes : ByteArray} {ret : Option FieldType} {Ts ws ws' : List Cond} {post : Option Value → gK → gF → Prop}
    (hx : p.tables.exec = Jvm.exec) (hb : c.code = cc) (hml : c.maxLocals = nL) (hown : s.vm.findClass own = some m.cls) (hts : ∀ w ∈ Ts, w.before args s = true) (hN : gN Γ s) (hW : gW Γ A H0 K F H locs)
    (hM : gMM l y ws n mc ms Γ K F H.size As post) (hG : GoodIn Ts (va_wsS own index y ws)) (hw : ws = Cond.code y bytes maxL ret :: ws') (hn : As.length = na)
    (hd : y.cls ≠ "java/lang/invoke/MethodHandle" ∧ y.cls ≠ "java/lang/invoke/VarHandle" ∧ (parseMethodDescriptor y.desc).map (fun d => d.parameters.length) = some na) (hR : n + 1 ≤ R.frames ∧ 8 + (maxL + 11) + 40 * n ≤ R.locals) (hcs : cells + mc ≤ R.cells ∧ slots + ms ≤ R.slots)
    (hst : st0 = As.reverse ++ rest) (hsz : ls.size = nL) (hrm : (rest.map fun v => v.category).sum ≤ 8) (hdg : decode cc pc = .ok (.invokestatic index, 3))
    (kk : ∀ (v : Option Value) (K' : gK) (F' : gF) (H1 : Heap) (locs1 : List Loc), post v K' F' → gW Γ A H0 K' F' H1 locs1 → H.size ≤ H1.size → W p l e R s m args below meth c H1 locs1 (cells + mc) (slots + ms) Q (F0 m (pc + 3) ls (v.toList ++ rest))) : W p l e R s m args below meth c H locs cells slots Q (F0 m pc ls st0) :=
  g_callM (va_runS ⟨hx, hb, hml, hown, hts⟩ hM (va_cwS na hts hG hw rfl rfl hd hR) ⟨gPreM_blind, fun U hU hW' => ⟨rfl, by rw [hU], by rw [hU]; exact hW.1, va_K.moved hW'.alike hN⟩⟩ rfl hn hsz hst (lv_room hrm) hdg hcs) hW kk
theorem g_mI {own : String} {index nL maxL n na mc ms : Nat} {y : MethodName} {bytes : ByteArray} {Ts ws ws' : List Cond} {post : Option Value → gK → gF → Prop}
    (hx : p.tables.exec = Jvm.exec) (hb : c.code = cc) (hml : c.maxLocals = nL) (hown : s.vm.findClass own = some m.cls) (hts : ∀ w ∈ Ts, w.before args s = true) (hN : gN Γ s) (hW : gW Γ A H0 K F H locs)
    (hM : gMM l y ws n mc ms Γ K F H.size (.ref b :: As) post) (hG : GoodIn Ts ws) (hw : ws = Cond.code y bytes maxL none :: ws') (hini : Cond.initialized y.cls ∈ Ts) (hl : Cond.methodLink own index y ∈ Ts) (hin : Cond.instanceMethod y ∈ Ts) (hy1 : y.name = "<init>") (hn : As.length = na)
    (hd : y.cls ≠ "java/lang/invoke/MethodHandle" ∧ y.cls ≠ "java/lang/invoke/VarHandle" ∧ (parseMethodDescriptor y.desc).map (fun d => d.parameters.length) = some na) (hR : n + 1 ≤ R.frames ∧ 8 + (maxL + 11) + 40 * n ≤ R.locals) (hcs : cells + mc ≤ R.cells ∧ slots + ms ≤ R.slots)
    (hst : st0 = As.reverse ++ .ref b :: rest) (hsz : ls.size = nL) (hrm : (rest.map fun v => v.category).sum ≤ 8) (hdg : decode cc pc = .ok (.invokespecial index, 3))
    (kk : ∀ (v : Option Value) (K' : gK) (F' : gF) (H1 : Heap) (locs1 : List Loc), post v K' F' → gW Γ A H0 K' F' H1 locs1 → H.size ≤ H1.size → W p l e R s m args below meth c H1 locs1 (cells + mc) (slots + ms) Q (F0 m (pc + 3) ls (v.toList ++ rest))) : W p l e R s m args below meth c H locs cells slots Q (F0 m pc ls st0) :=
  g_callM (va_runI ⟨hx, hb, hml, hown, hts⟩ hM (cwI na hts hG hw rfl rfl (hts _ hini) (hts _ hl) (hts _ hin) hy1 hd hR) ⟨gPreM_blind, fun U hU hW' => ⟨rfl, by rw [hU], by rw [hU]; exact hW.1, va_K.moved hW'.alike hN⟩⟩ rfl hn hsz hst (lv_room hrm) hdg hcs) hW kk
end GCall
end
section
/-! pure words: numbers, points, trees -/
def bI (b : Bool) : Int32 := if b then 1 else 0
theorem bI_nar (b : Bool) : narrow .boolean (.int (bI b)) = .int (bI b) := by cases b <;> rfl
theorem bI_fit (b : Bool) : fits .boolean (.int (bI b)) = true := by cases b <;> rfl
theorem bI_0 {b : Bool} : bI b = 0 ↔ b = false := by cases b <;> decide
theorem bI_n0 {b : Bool} : ¬ bI b = 0 ↔ b = true := by cases b <;> decide
theorem bI_t : bI true = 1 := rfl
theorem bI_f : bI false = 0 := rfl
theorem bI_t' : nI 1 = bI true := by decide
theorem bI_f' : nI 0 = bI false := by decide
theorem va_rf_cat (r : Option Nat) : (va_rf r).category = 1 := by cases r <;> rfl
theorem va_rf_nar (C : String) (r : Option Nat) : narrow (.object C) (va_rf r) = va_rf r := by cases r <;> rfl
theorem va_rf_fit (C : String) (r : Option Nat) : fits (.object C) (va_rf r) = true := by cases r <;> rfl
/-- a point: its ID and its numbers -/
abbrev gPt : Type := Nat × (Nat → Int32)
def pLess (a : Nat) (x y : gPt) : Bool := decide (x.2 a < y.2 a ∨ (x.2 a = y.2 a ∧ x.1 < y.1))
def sqI (x : Int32) : Int64 := x.toInt64 * x.toInt64
def pDist (x y : Nat → Int32) : Int64 := sqI (x 0 - y 0) + sqI (x 1 - y 1) + sqI (x 2 - y 2) + sqI (x 3 - y 3)
/-- binary trees -/
abbrev TT (α : Type) : Type := Std.DTreeMap.Internal.Impl α (fun _ => Unit)
abbrev tL {α : Type} : TT α := .leaf
abbrev tN {α : Type} (l : TT α) (x : α) (r : TT α) : TT α := .inner 0 x () l r
def tSz {α : Type} : TT α → Nat
  | .leaf => 0
  | .inner _ _ _ l r => tSz l + tSz r + 1
def tPre {α : Type} : TT α → List α
  | .leaf => []
  | .inner _ x _ l r => x :: (tPre l ++ tPre r)
def tRt {α : Type} : TT α → Option α
  | .leaf => none
  | .inner _ x _ _ _ => some x
def tMap {α β : Type} (f : α → β) : TT α → TT β
  | .leaf => .leaf
  | .inner _ x _ l r => tN (tMap f l) (f x) (tMap f r)
theorem tPre_len {α : Type} (t : TT α) : (tPre t).length = tSz t := by
  induction t with
  | leaf => rfl
  | inner s x v l r ihl ihr => simp only [tPre, tSz, List.length_cons, List.length_append, ihl, ihr]
theorem tSz_map {α β : Type} (f : α → β) (t : TT α) : tSz (tMap f t) = tSz t := by
  induction t with
  | leaf => rfl
  | inner s x v l r ihl ihr => simp only [tMap, tSz, ihl, ihr]
theorem tPre_map {α β : Type} (f : α → β) (t : TT α) : tPre (tMap f t) = (tPre t).map f := by
  induction t with
  | leaf => rfl
  | inner s x v l r ihl ihr => simp only [tMap, tPre, ihl, ihr, List.map_cons, List.map_append]
theorem tMap_map {α β γ : Type} (f : α → β) (g : β → γ) (t : TT α) : tMap g (tMap f t) = tMap (fun x => g (f x)) t := by
  induction t with
  | leaf => rfl
  | inner s x v l r ihl ihr => simp only [tMap, ihl, ihr]
theorem tMap_congr {α β : Type} {f g : α → β} {t : TT α} (h : ∀ x ∈ tPre t, f x = g x) : tMap f t = tMap g t := by
  induction t with
  | leaf => rfl
  | inner s x v l r ihl ihr =>
    simp only [tPre, List.mem_cons, List.mem_append] at h
    simp only [tMap, h x (Or.inl rfl), ihl (fun y hy => h y (Or.inr (Or.inl hy))), ihr (fun y hy => h y (Or.inr (Or.inr hy)))]
/-- what a Node's own cells say: itself, its Place, its point -/
def ndD (K : gK) (F : gF) (a pl : Nat) (x : gPt) : Prop := K a = some (2, 0) ∧ K pl = some (3, 0) ∧ F a 0 = .int (nI x.1) ∧ F a 1 = .ref pl ∧ (∀ i, i < 4 → F pl i = .int (x.2 i)) ∧ x.1 < 100
section GNum
variable {p : Program} {l : Launch} {e : Env} {R : Room} {s : State} {m : MethodId} {args : Array Value} {below : List Frame} {meth : Method} {c : Code} {H : Heap} {locs : List Loc} {cells slots : Nat} {Q : State → Prop}
variable {cc : ByteArray} {pc : Nat} {ls : Array Slot} {rest : List Value}
/-- an int that is said by cases -/
theorem g_ifnum {x : Int32} {P : Prop} (h : P) (k : P → W p l e R s m args below meth c H locs cells slots Q (F0 m pc ls (.int x :: rest))) : W p l e R s m args below meth c H locs cells slots Q (F0 m pc ls (.int x :: rest)) := k h
end GNum
end
section
/-! rows that hold lists; putting in from the right; sorting; building -/
theorem inc1 (t : Nat) : nI t + Int32.ofInt 1 = nI (t + 1) := nI_1 t
theorem dec1s (t : Nat) : nI (t + 1) + Int32.ofInt (-1) = nI t := pk_m1 t
theorem dec1 {t : Nat} (h : 0 < t) : nI t + Int32.ofInt (-1) = nI (t - 1) := by
  obtain ⟨k, rfl⟩ : ∃ k, t = k + 1 := ⟨t - 1, by omega⟩
  exact pk_m1 k
theorem incn (t n : Nat) : nI t + Int32.ofInt (n : Int) = nI (t + n) := by
  rw [show Int32.ofInt (n : Int) = nI n from rfl]
  exact nI_add t n
theorem nI_eq0 {a : Nat} (h : a < 2 ^ 31) : nI a = 0 ↔ a = 0 := by
  rw [← nI_0]
  exact nI_eq h (by decide)
theorem nI_le0 {a : Nat} (h : a < 2 ^ 31) : nI a ≤ 0 ↔ a = 0 := by
  rw [← nI_0, nI_leI h (by decide)]
  omega
theorem nI_gt0 {a : Nat} (h : a < 2 ^ 31) : 0 < nI a ↔ 0 < a := by
  rw [← nI_0]
  exact nI_ltI (by decide) h
theorem mx_max {a b : Nat} (ha : a < 2 ^ 20) (hb : b < 2 ^ 20) : (if nI a < nI b then nI b else nI a) = nI (max a b) := by
  by_cases h : a < b
  · rw [if_pos ((nI_ltI (by omega) (by omega)).mpr h), Nat.max_eq_right (by omega)]
  · rw [if_neg (fun z => h ((nI_ltI (by omega) (by omega)).mp z)), Nat.max_eq_left (by omega)]
theorem mx_min {a b : Nat} (ha : a < 2 ^ 20) (hb : b < 2 ^ 20) : (if nI b < nI a then nI b else nI a) = nI (min a b) := by
  by_cases h : b < a
  · rw [if_pos ((nI_ltI (by omega) (by omega)).mpr h), Nat.min_eq_right (by omega)]
  · rw [if_neg (fun z => h ((nI_ltI (by omega) (by omega)).mp z)), Nat.min_eq_left (by omega)]
def rowL (F : gF) (a o : Nat) (L : List Value) : Prop := ∀ (j : Nat) (v : Value), L[j]? = some v → F a (o + j) = v
theorem rowL.nil {F : gF} {a o : Nat} : rowL F a o [] := fun j v h => by simp at h
theorem rowL.keep {F F' : gF} {a o : Nat} {L : List Value} (h : rowL F a o L) (hF : ∀ j, o ≤ j → j < o + L.length → F' a j = F a j) : rowL F' a o L := by
  intro j v hj
  rw [hF (o + j) (by omega) (by have := (List.getElem?_eq_some_iff.mp hj).1; omega)]
  exact h j v hj
theorem rowL.up {F : gF} {a o b i : Nat} {v : Value} {L : List Value} (h : rowL F a o L) (hn : b ≠ a ∨ i < o ∨ o + L.length ≤ i) : rowL (gU F b i v) a o L := by
  refine h.keep (fun j h1 h2 => gU_ne (fun q => ?_))
  rcases hn with q1 | q1 | q1
  · exact q1 q.1.symm
  · omega
  · omega
theorem rowL.left {F : gF} {a o : Nat} {P Q : List Value} (h : rowL F a o (P ++ Q)) : rowL F a o P := fun j v hj => h j v (by
  have := (List.getElem?_eq_some_iff.mp hj).1
  rw [List.getElem?_append_left this]; exact hj)
theorem rowL.right {F : gF} {a o : Nat} {P Q : List Value} (h : rowL F a o (P ++ Q)) : rowL F a (o + P.length) Q := fun j v hj => by
  have := h (P.length + j) v (by rw [List.getElem?_append_right (by omega), show P.length + j - P.length = j by omega]; exact hj)
  rw [Nat.add_assoc]; exact this
theorem rowL.app {F : gF} {a o : Nat} {P Q : List Value} (hP : rowL F a o P) (hQ : rowL F a (o + P.length) Q) : rowL F a o (P ++ Q) := fun j v hj => by
  rcases Nat.lt_or_ge j P.length with q | q
  · rw [List.getElem?_append_left q] at hj
    exact hP j v hj
  · rw [List.getElem?_append_right q] at hj
    have := hQ (j - P.length) v hj
    rw [show o + P.length + (j - P.length) = o + j by omega] at this
    exact this
theorem rowL.cons {F : gF} {a o : Nat} {v : Value} {L : List Value} (h0 : F a o = v) (h : rowL F a (o + 1) L) : rowL F a o (v :: L) := fun j w hj => by
  cases j with
  | zero => simp at hj; rw [← hj]; exact h0
  | succ j => rw [show o + (j + 1) = o + 1 + j by omega]; exact h j w (by simpa using hj)
theorem rowL.head {F : gF} {a o : Nat} {v : Value} {L : List Value} (h : rowL F a o (v :: L)) : F a o = v := h 0 v rfl
theorem rowL.tail {F : gF} {a o : Nat} {v : Value} {L : List Value} (h : rowL F a o (v :: L)) : rowL F a (o + 1) L := fun j w hj => by
  rw [show o + 1 + j = o + (j + 1) by omega]; exact h (j + 1) w (by simpa using hj)
theorem rowL.last {F : gF} {a o : Nat} {v : Value} {P : List Value} (h : rowL F a o (P ++ [v])) : F a (o + P.length) = v := h.right.head
/-- the hole goes one down -/
theorem rowL.shift {F : gF} {a o : Nat} {v : Value} {P Q : List Value} (hP : rowL F a o (P ++ [v])) (hQ : rowL F a (o + (P.length + 1) + 1) Q) : rowL (gU F a (o + (P.length + 1)) v) a o P ∧ rowL (gU F a (o + (P.length + 1)) v) a (o + P.length + 1) (v :: Q) := by
  refine ⟨hP.left.up (Or.inr (Or.inr (by omega))), rowL.cons (by rw [Nat.add_assoc]; exact gU_self) ?_⟩
  exact rowL.up (by rw [show o + P.length + 1 + 1 = o + (P.length + 1) + 1 by omega]; exact hQ) (Or.inr (Or.inl (by omega)))
theorem rowL.fill {F : gF} {a o : Nat} {v : Value} {P Q : List Value} (hP : rowL F a o P) (hQ : rowL F a (o + P.length + 1) Q) : rowL (gU F a (o + P.length) v) a o (P ++ v :: Q) := by
  refine rowL.app (hP.up (Or.inr (Or.inr (by omega)))) (rowL.cons gU_self (hQ.up (Or.inr (Or.inl (by omega)))))
section Ins
variable {α β : Type}
def insR (lt : α → α → Bool) (x : α) : List α → List α
  | [] => [x]
  | y :: ys => if (y :: ys).all (lt x) then x :: y :: ys else y :: insR lt x ys
theorem insR_all {lt : α → α → Bool} {x : α} {Q : List α} (h : ∀ q ∈ Q, lt x q = true) : insR lt x Q = x :: Q := by
  cases Q with
  | nil => rfl
  | cons y ys => rw [insR, if_pos (List.all_eq_true.mpr h)]
theorem insR_eq {lt : α → α → Bool} {x z : α} {P Q : List α} (h : ∀ q ∈ Q, lt x q = true) (hz : lt x z = false) : insR lt x (P ++ [z] ++ Q) = P ++ [z] ++ x :: Q := by
  induction P with
  | nil =>
    show insR lt x (z :: Q) = _
    rw [insR, if_neg (fun q => by simp [hz] at q), insR_all h]
    rfl
  | cons y P ih =>
    show insR lt x (y :: (P ++ [z] ++ Q)) = _
    rw [insR, if_neg (fun q => by
      have := List.all_eq_true.mp q z (by simp)
      rw [hz] at this; cases this), ih]
    rfl
theorem insR_len (lt : α → α → Bool) (x : α) (S : List α) : (insR lt x S).length = S.length + 1 := by
  induction S with
  | nil => rfl
  | cons y ys ih =>
    unfold insR
    split
    · rfl
    · simp [ih]
theorem insR_mem {lt : α → α → Bool} {x z : α} {S : List α} : z ∈ insR lt x S ↔ z = x ∨ z ∈ S := by
  induction S with
  | nil => simp [insR]
  | cons y ys ih =>
    unfold insR
    split
    · simp
    · simp only [List.mem_cons, ih]
      constructor
      · rintro (h | h | h) <;> simp [h]
      · rintro (h | h | h) <;> simp [h]
theorem insR_perm (lt : α → α → Bool) (x : α) (S : List α) : (insR lt x S).Perm (x :: S) := by
  induction S with
  | nil => exact List.Perm.refl _
  | cons y ys ih =>
    unfold insR
    split
    · exact List.Perm.refl _
    · exact (List.Perm.cons y ih).trans (List.Perm.swap x y ys)
theorem insR_map (f : α → β) {lt : β → β → Bool} {lt' : α → α → Bool} {x : α} {S : List α} (h : ∀ z ∈ S, lt' x z = lt (f x) (f z)) : (insR lt' x S).map f = insR lt (f x) (S.map f) := by
  induction S with
  | nil => rfl
  | cons y ys ih =>
    have e : (y :: ys).all (lt' x) = (f y :: ys.map f).all (lt (f x)) := by
      rw [Bool.eq_iff_iff, List.all_eq_true, List.all_eq_true]
      constructor
      · intro q z hz
        obtain ⟨w, hw, rfl⟩ := List.mem_map.mp (show z ∈ (y :: ys).map f from hz)
        rw [← h w hw]; exact q w hw
      · intro q z hz
        rw [h z hz]; exact q (f z) (show f z ∈ (y :: ys).map f from List.mem_map.mpr ⟨z, hz, rfl⟩)
    show (insR lt' x (y :: ys)).map f = insR lt (f x) (f y :: ys.map f)
    rw [insR, insR, ← e]
    by_cases q : (y :: ys).all (lt' x) = true
    · rw [if_pos q, if_pos q]; rfl
    · rw [if_neg q, if_neg q, List.map_cons, ih (fun z hz => h z (List.mem_cons_of_mem _ hz))]
/-- sorted by putting in one after the other -/
def isort (lt : α → α → Bool) (S : List α) : List α → List α
  | [] => S
  | x :: xs => isort lt (insR lt x S) xs
theorem isort_snoc (lt : α → α → Bool) (x : α) : ∀ (L S : List α), isort lt S (L ++ [x]) = insR lt x (isort lt S L)
  | [], _ => rfl
  | _ :: L, _ => isort_snoc lt x L _
theorem isort_perm (lt : α → α → Bool) : ∀ (L S : List α), (isort lt S L).Perm (S ++ L)
  | [], S => by rw [List.append_nil]; exact List.Perm.refl _
  | x :: xs, S => by
    refine (isort_perm lt xs (insR lt x S)).trans ?_
    refine ((insR_perm lt x S).append_right xs).trans ?_
    exact List.perm_middle.symm
theorem isort_len (lt : α → α → Bool) (L S : List α) : (isort lt S L).length = S.length + L.length := by
  rw [(isort_perm lt L S).length_eq, List.length_append]
theorem isort_mem {lt : α → α → Bool} {L S : List α} {z : α} : z ∈ isort lt S L ↔ z ∈ S ∨ z ∈ L := by
  rw [(isort_perm lt L S).mem_iff, List.mem_append]
theorem isort_map (f : α → β) {lt : β → β → Bool} {lt' : α → α → Bool} : ∀ {L S : List α}, (∀ x z, x ∈ S ∨ x ∈ L → z ∈ S ∨ z ∈ L → lt' x z = lt (f x) (f z)) → (isort lt' S L).map f = isort lt (S.map f) (L.map f)
  | [], _, _ => rfl
  | x :: xs, S, h => by
    show (isort lt' (insR lt' x S) xs).map f = isort lt (insR lt (f x) (S.map f)) (xs.map f)
    rw [← insR_map f (fun z hz => h x z (Or.inr List.mem_cons_self) (Or.inl hz))]
    refine isort_map f (fun a b ha hb => h a b ?_ ?_)
    · rcases ha with q | q
      · rcases insR_mem.mp q with q | q
        · exact Or.inr (by rw [q]; exact List.mem_cons_self)
        · exact Or.inl q
      · exact Or.inr (List.mem_cons_of_mem _ q)
    · rcases hb with q | q
      · rcases insR_mem.mp q with q | q
        · exact Or.inr (by rw [q]; exact List.mem_cons_self)
        · exact Or.inl q
      · exact Or.inr (List.mem_cons_of_mem _ q)
end Ins
end
section
/-! contracts, with the end as a hypothesis (for loops) -/
def Rets (cc : ByteArray) (ret : Option FieldType) (v : Option Value) (pc : Nat) : Prop :=
  (v = none ∧ ret = none ∧ decode cc pc = .ok (.return_, 1)) ∨ (∃ x : Int32, v = some (.int x) ∧ ret = some .int ∧ decode cc pc = .ok (.ireturn, 1)) ∨ (∃ x : Int32, v = some (.int x) ∧ ret = some .boolean ∧ narrow .boolean (.int x) = .int x ∧ decode cc pc = .ok (.ireturn, 1)) ∨
  (∃ x : Int64, v = some (.long x) ∧ ret = some .long ∧ decode cc pc = .ok (.lreturn, 1)) ∨ (∃ (r : Option Nat) (n : String), v = some (va_rf r) ∧ ret = some (.object n) ∧ decode cc pc = .ok (.areturn, 1))
theorem rt_v {cc : ByteArray} {pc : Nat} (h : decode cc pc = .ok (.return_, 1)) : Rets cc none none pc := Or.inl ⟨rfl, rfl, h⟩
theorem rt_i {cc : ByteArray} {pc : Nat} {x : Int32} (h : decode cc pc = .ok (.ireturn, 1)) : Rets cc (some .int) (some (.int x)) pc := Or.inr (Or.inl ⟨x, rfl, rfl, h⟩)
theorem rt_z {cc : ByteArray} {pc : Nat} {b : Bool} (h : decode cc pc = .ok (.ireturn, 1)) : Rets cc (some .boolean) (some (.int (bI b))) pc := Or.inr (Or.inr (Or.inl ⟨_, rfl, rfl, bI_nar b, h⟩))
theorem rt_l {cc : ByteArray} {pc : Nat} {x : Int64} (h : decode cc pc = .ok (.lreturn, 1)) : Rets cc (some .long) (some (.long x)) pc := Or.inr (Or.inr (Or.inr (Or.inl ⟨x, rfl, rfl, h⟩)))
theorem rt_a {cc : ByteArray} {pc : Nat} {r : Option Nat} {n : String} (h : decode cc pc = .ok (.areturn, 1)) : Rets cc (some (.object n)) (some (va_rf r)) pc := Or.inr (Or.inr (Or.inr (Or.inr ⟨r, n, rfl, rfl, h⟩)))
theorem g_end {p : Program} {l : Launch} {e : Env} {R : Room} {s : State} {m : MethodId} {args : Array Value} {below : List Frame} {meth : Method} {c : Code} {H : Heap} {locs : List Loc} {cells slots : Nat} {cc : ByteArray} {pc : Nat} {ls : Array Slot} {ret : Option FieldType} {v : Option Value} {Qc : Array Value → State → Outcome → State → Prop} {free : Addr → Prop}
    (hexec : p.tables.exec = Jvm.exec) (hb : c.code = cc) (hr : meth.sig.returnType = ret) (hlocks : meth.locks = false) (hq : ∀ t : State, t.heap = H → s.WarmedH t.vm → Qc args s (.returned v) t) (hf : ∀ q ∈ locs, free q.base) (h : Rets cc ret v pc) : W p l e R s m args below meth c H locs cells slots (MQ below Qc args s cells slots free) (F0 m pc ls v.toList) := by
  rcases h with ⟨rfl, rfl, hd⟩ | ⟨x, rfl, rfl, hd⟩ | ⟨x, rfl, rfl, hn, hd⟩ | ⟨x, rfl, rfl, hd⟩ | ⟨r, n, rfl, rfl, hd⟩
  · exact W.vret hexec hb hr hq hf hd hlocks
  · exact W.iret hexec hb hr hq hf hd hlocks
  · exact W.zret hexec hb hr hn hq hf hd hlocks
  · exact W.lret hexec hb hr hq hf hd hlocks
  · exact W.aret hexec hb hr (Or.inl ⟨n, rfl⟩) (va_rf_or r) hq hf hd hlocks
theorem g_mR {l : Launch} {y : MethodName} {ws ws' : List Cond} {n : Nat} {cc : ByteArray} {maxL : Nat} {ret : Option FieldType} {Γ : gG} {K : gK} {F : gF} {av : List Value} {v : Option Value}
    (hy : plainName y.cls = true) (hw : ws = Cond.code y cc maxL ret :: ws') (ha : (lg_sl av).length ≤ maxL)
    (body : ∀ (p : Program) (e : Env) (s : State) (m : MethodId) (args : Array Value) (below : List Frame) (meth : Method) (c : Code) (ls : Array Slot) (Z : State → Prop), p.tables.exec = Jvm.exec → c.code = cc → (∀ w ∈ ws, w.before args s = true) → s.vm.findClass y.cls = some m.cls → c.maxLocals = maxL → gN Γ s → gP Γ K F s.heap →
      (∀ (v' : Option Value) (pc : Nat) (ls : Array Slot), v' = v → Rets cc ret v' pc → W p l e (gRm n 0 0) s m args below meth c s.heap [] 0 0 Z (F0 m pc ls v'.toList)) → lv_has ls maxL (lv_args 0 av) →
      W p l e (gRm n 0 0) s m args below meth c s.heap [] 0 0 Z (F0 m 0 ls [])) : gMR l y ws n Γ K F av v := by
  refine g_metR hy hw ha ?_
  intro p e s m below meth c ls hx hb hr hts hown hlocks hml hN hP hl
  refine body p e s m _ below meth c ls _ hx hb hts hown hml hN hP (fun v' pc ls hv hR => ?_) hl
  exact g_end hx hb hr hlocks (fun t ht _ => ⟨by rw [hv], ht⟩) (fun q h => by cases h) hR
theorem g_mM {l : Launch} {y : MethodName} {ws ws' : List Cond} {n mc ms : Nat} {cc : ByteArray} {maxL : Nat} {ret : Option FieldType} {Γ : gG} {K : gK} {F : gF} {sz : Nat} {av : List Value} {post : Option Value → gK → gF → Prop}
    (hy : plainName y.cls = true) (hw : ws = Cond.code y cc maxL ret :: ws') (ha : (lg_sl av).length ≤ maxL)
    (body : ∀ (p : Program) (e : Env) (s : State) (m : MethodId) (args : Array Value) (below : List Frame) (meth : Method) (c : Code) (ls : Array Slot) (Z : State → Prop), s.heap.size = sz → p.tables.exec = Jvm.exec → c.code = cc → (∀ w ∈ ws, w.before args s = true) → s.vm.findClass y.cls = some m.cls → c.maxLocals = maxL → meth.name = y.name → gN Γ s → gW Γ (gA K sz) s.heap K F s.heap [] →
      (∀ (v' : Option Value) (K' : gK) (F' : gF) (H : Heap) (locs : List Loc) (pc : Nat) (ls : Array Slot), gW Γ (gA K sz) s.heap K' F' H locs → post v' K' F' → Rets cc ret v' pc → W p l e (gRm n mc ms) s m args below meth c H locs mc ms Z (F0 m pc ls v'.toList)) → lv_has ls maxL (lv_args 0 av) →
      W p l e (gRm n mc ms) s m args below meth c s.heap [] 0 0 Z (F0 m 0 ls [])) : gMM l y ws n mc ms Γ K F sz av post := by
  refine g_metM hy hw ha ?_
  intro p e s m below meth c ls hsz hx hb hr hts hown hlocks hml hnm hN hW hl
  refine body p e s m _ below meth c ls _ hsz hx hb hts hown hml hnm hN hW (fun v' K' F' H locs pc ls hW' hp hR => ?_) hl
  exact g_end hx hb hr hlocks (fun t ht _ => ⟨_, K', F', rfl, hp, by rw [ht]; exact hW'.1, hW'.2.2.1, hW'.2.1.F ht⟩) hW'.2.1.2.2 hR
theorem kne {K : gK} {a b : Nat} {k1 k2 : Nat × Nat} (h1 : K a = some k1) (h2 : K b = some k2) (h : k1 ≠ k2) : a ≠ b := fun e => h (Option.some.inj (h1.symm.trans (by rw [e]; exact h2)))
end
section
/-! trees with a hole, and the class's tree in its cells -/
section TreeP
variable {α β : Type}
abbrev cxT (α : Type) : Type := List (Bool × α × TT α)
def plug : cxT α → TT α → TT α
  | [], t => t
  | (b, a, o) :: c, t => plug c (if b then tN t a o else tN o a t)
def cTop : cxT α → Option α
  | [] => none
  | (_, a, _) :: _ => some a
def cAd : cxT α → List α
  | [] => []
  | (_, a, o) :: c => a :: (tPre o ++ cAd c)
def cPath : cxT α → List α
  | [] => []
  | (_, a, _) :: c => a :: cPath c
theorem cPath_sub : ∀ {c : cxT α} {a : α}, a ∈ cPath c → a ∈ cAd c
  | [], _, h => h
  | (_, a, o) :: c, x, h => by
    rcases List.mem_cons.mp h with h | h
    · rw [h]; exact List.mem_cons_self
    · exact List.mem_cons_of_mem _ (List.mem_append_right _ (cPath_sub h))
theorem cPath_len : ∀ (c : cxT α), (cPath c).length = c.length
  | [] => rfl
  | (_, _, _) :: c => by simp [cPath, cPath_len c]
theorem plug_perm : ∀ (c : cxT α) (t : TT α), (tPre (plug c t)).Perm (tPre t ++ cAd c)
  | [], t => by simp [plug, cAd]
  | (b, a, o) :: c, t => by
    refine (plug_perm c _).trans ?_
    cases b
    · show (a :: (tPre o ++ tPre t) ++ cAd c).Perm (tPre t ++ a :: (tPre o ++ cAd c))
      refine List.Perm.trans ?_ List.perm_middle.symm
      refine List.Perm.cons a ?_
      rw [← List.append_assoc]
      exact List.Perm.append_right _ List.perm_append_comm
    · show (a :: (tPre t ++ tPre o) ++ cAd c).Perm (tPre t ++ a :: (tPre o ++ cAd c))
      refine List.Perm.trans ?_ List.perm_middle.symm
      refine List.Perm.cons a ?_
      show ((tPre t ++ tPre o) ++ cAd c).Perm (tPre t ++ (tPre o ++ cAd c))
      rw [List.append_assoc]
theorem plug_sz (c : cxT α) (t : TT α) : tSz (plug c t) = tSz t + (cAd c).length := by
  rw [← tPre_len, (plug_perm c t).length_eq, List.length_append, tPre_len]
theorem cAd_len (c : cxT α) : c.length ≤ (cAd c).length := by
  induction c with
  | nil => exact Nat.le_refl _
  | cons q c ih =>
    obtain ⟨b, a, o⟩ := q
    simp only [cAd, List.length_cons, List.length_append]
    omega
def insG (lt : Nat → α → α → Bool) (d : Nat) (x : α) : Nat → TT α → TT α
  | _, .leaf => tN tL x tL
  | dep, .inner _ a _ l r => if lt (dep % d) x a then tN (insG lt d x (dep + 1) l) a r else tN l a (insG lt d x (dep + 1) r)
def leans (l r : TT α) : Bool := decide ((tSz l + tSz r + 1) * 2 < max (tSz l) (tSz r) * 3)
def findG (lt : Nat → α → α → Bool) (d : Nat) (x : α) : cxT α → TT α → Option (cxT α × TT α)
  | _, .leaf => none
  | c, .inner _ a _ l r =>
    if lt (c.length % d) x a then
      if leans (insG lt d x (c.length + 1) l) r then some (c, tN (insG lt d x (c.length + 1) l) a r) else findG lt d x ((true, a, r) :: c) l
    else
      if leans l (insG lt d x (c.length + 1) r) then some (c, tN l a (insG lt d x (c.length + 1) r)) else findG lt d x ((false, a, l) :: c) r
def bldG (lt : Nat → α → α → Bool) (d : Nat) : Nat → Nat → List α → TT α
  | 0, _, _ => tL
  | n + 1, dep, L => match (isort (lt (dep % d)) [] L).drop (L.length / 2) with
    | [] => tL
    | y :: ys => tN (bldG lt d n (dep + 1) ((isort (lt (dep % d)) [] L).take (L.length / 2))) y (bldG lt d n (dep + 1) ys)
theorem insG_perm (lt : Nat → α → α → Bool) (d : Nat) (x : α) : ∀ (t : TT α) (dep : Nat), (tPre (insG lt d x dep t)).Perm (x :: tPre t) := by
  intro t
  induction t with
  | leaf => intro dep; exact List.Perm.refl _
  | inner s a v l r ihl ihr =>
    intro dep
    unfold insG
    split
    · show (a :: (tPre (insG lt d x (dep + 1) l) ++ tPre r)).Perm (x :: a :: (tPre l ++ tPre r))
      exact (List.Perm.cons a ((ihl (dep + 1)).append_right (tPre r))).trans (List.Perm.swap x a _)
    · show (a :: (tPre l ++ tPre (insG lt d x (dep + 1) r))).Perm (x :: a :: (tPre l ++ tPre r))
      exact (List.Perm.cons a (((ihr (dep + 1)).append_left (tPre l)).trans List.perm_middle)).trans (List.Perm.swap x a _)
theorem insG_sz (lt : Nat → α → α → Bool) (d : Nat) (x : α) (t : TT α) (dep : Nat) : tSz (insG lt d x dep t) = tSz t + 1 := by
  rw [← tPre_len, (insG_perm lt d x t dep).length_eq, List.length_cons, tPre_len]
theorem bldG_perm (lt : Nat → α → α → Bool) (d : Nat) : ∀ (n dep : Nat) (L : List α), L.length ≤ n → (tPre (bldG lt d n dep L)).Perm L := by
  intro n
  induction n with
  | zero =>
    intro dep L h
    rw [List.length_eq_zero_iff.mp (Nat.le_zero.mp h)]
    exact List.Perm.refl _
  | succ n ih =>
    intro dep L h
    have hp := isort_perm (lt (dep % d)) L []
    rw [List.nil_append] at hp
    unfold bldG
    have hlen : (isort (lt (dep % d)) [] L).length = L.length := hp.length_eq
    split
    · next hd =>
      have : (isort (lt (dep % d)) [] L).length ≤ L.length / 2 := List.drop_eq_nil_iff.mp hd
      have h0 : L.length = 0 := by omega
      rw [List.length_eq_zero_iff.mp h0]
      exact List.Perm.refl _
    · next y ys hd =>
      have hl2 : ys.length + 1 = L.length - L.length / 2 := by
        have := congrArg List.length hd
        rw [List.length_drop, hlen, List.length_cons] at this
        omega
      show (y :: (tPre (bldG lt d n (dep + 1) _) ++ tPre (bldG lt d n (dep + 1) ys))).Perm L
      refine (List.Perm.cons y ((ih (dep + 1) _ ?_).append (ih (dep + 1) ys ?_))).trans ?_
      · rw [List.length_take, hlen]; omega
      · omega
      · refine List.perm_middle.symm.trans ?_
        rw [← hd, List.take_append_drop]
        exact hp
theorem bldG_sz (lt : Nat → α → α → Bool) (d n dep : Nat) (L : List α) (h : L.length ≤ n) : tSz (bldG lt d n dep L) = L.length := by
  rw [← tPre_len, (bldG_perm lt d n dep L h).length_eq]
theorem findG_plug (lt : Nat → α → α → Bool) (d : Nat) (x : α) : ∀ (t : TT α) (c c' : cxT α) (s : TT α), findG lt d x c t = some (c', s) → plug c' s = plug c (insG lt d x c.length t) := by
  intro t
  induction t with
  | leaf => intro c c' s h; cases h
  | inner z a v l r ihl ihr =>
    intro c c' s h
    unfold findG at h
    unfold insG
    by_cases q : lt (c.length % d) x a = true
    · rw [if_pos q] at h ⊢
      split at h
      · cases h; rfl
      · exact ihl _ _ _ h
    · rw [if_neg q] at h ⊢
      split at h
      · cases h; rfl
      · exact ihr _ _ _ h
end TreeP
/-- the class's tree: the Nodes' cells -/
def CT (F : gF) (d : Nat) : TT Nat → Option Nat → Nat → Prop
  | .leaf, _, _ => True
  | .inner _ a _ l r, up, dep => F a 3 = .int (nI dep) ∧ F a 4 = .int (nI (dep % d)) ∧ F a 5 = .int (nI (tSz l + tSz r + 1)) ∧ F a 6 = va_rf up ∧ F a 7 = va_rf (tRt l) ∧ F a 8 = va_rf (tRt r) ∧ CT F d l (some a) (dep + 1) ∧ CT F d r (some a) (dep + 1)
def PXr (F : gF) (d : Nat) : cxT Nat → Option Nat → Prop
  | [], _ => True
  | (b, a, o) :: c, r => F a 3 = .int (nI c.length) ∧ F a 4 = .int (nI (c.length % d)) ∧ F a 6 = va_rf (cTop c) ∧ F a 7 = va_rf (if b then r else tRt o) ∧ F a 8 = va_rf (if b then tRt o else r) ∧ CT F d o (some a) (c.length + 1) ∧ PXr F d c (some a)
def PXz (F : gF) : cxT Nat → Nat → Prop
  | [], _ => True
  | (_, a, o) :: c, n => F a 5 = .int (nI (n + tSz o + 1)) ∧ PXz F c (n + tSz o + 1)
theorem CT_plug {F : gF} {d : Nat} : ∀ {c : cxT Nat} {t : TT Nat}, CT F d (plug c t) none 0 ↔ CT F d t (cTop c) c.length ∧ PXr F d c (tRt t) ∧ PXz F c (tSz t)
  | [], t => by simp [plug, cTop, PXr, PXz]
  | (b, a, o) :: c, t => by
    show CT F d (plug c _) none 0 ↔ _
    rw [CT_plug (c := c)]
    cases b
    · simp only [CT, PXr, PXz, tRt, tSz, cTop, List.length_cons, if_false, Bool.false_eq_true]
      rw [show tSz o + tSz t + 1 = tSz t + tSz o + 1 by omega]
      constructor
      · rintro ⟨⟨h1, h2, h3, h4, h5, h6, h7, h8⟩, h9, h10⟩
        exact ⟨h8, ⟨h1, h2, h4, h5, h6, h7, h9⟩, h3, h10⟩
      · rintro ⟨h8, ⟨h1, h2, h4, h5, h6, h7, h9⟩, h3, h10⟩
        exact ⟨⟨h1, h2, h3, h4, h5, h6, h7, h8⟩, h9, h10⟩
    · simp only [CT, PXr, PXz, tRt, tSz, cTop, List.length_cons, if_true]
      constructor
      · rintro ⟨⟨h1, h2, h3, h4, h5, h6, h7, h8⟩, h9, h10⟩
        exact ⟨h7, ⟨h1, h2, h4, h5, h6, h8, h9⟩, h3, h10⟩
      · rintro ⟨h7, ⟨h1, h2, h4, h5, h6, h8, h9⟩, h3, h10⟩
        exact ⟨⟨h1, h2, h3, h4, h5, h6, h7, h8⟩, h9, h10⟩
theorem CT_congr {F F' : gF} {d : Nat} : ∀ {t : TT Nat} {up : Option Nat} {dep : Nat}, (∀ a ∈ tPre t, ∀ k, 3 ≤ k → F' a k = F a k) → CT F d t up dep → CT F' d t up dep := by
  intro t
  induction t with
  | leaf => intro _ _ _ _; trivial
  | inner s a v l r ihl ihr =>
    intro up dep h H
    obtain ⟨h1, h2, h3, h4, h5, h6, h7, h8⟩ := H
    have ha : ∀ k, 3 ≤ k → F' a k = F a k := h a List.mem_cons_self
    exact ⟨by rw [ha 3 (by decide), h1], by rw [ha 4 (by decide), h2], by rw [ha 5 (by decide), h3], by rw [ha 6 (by decide), h4], by rw [ha 7 (by decide), h5], by rw [ha 8 (by decide), h6], ihl (fun q hq => h q (List.mem_cons_of_mem _ (List.mem_append_left _ hq))) h7, ihr (fun q hq => h q (List.mem_cons_of_mem _ (List.mem_append_right _ hq))) h8⟩
theorem PXr_congr {F F' : gF} {d : Nat} : ∀ {c : cxT Nat} {r : Option Nat}, (∀ a ∈ cAd c, ∀ k, 3 ≤ k → k ≠ 5 ∨ a ∉ cPath c → F' a k = F a k) → (cAd c).Nodup → PXr F d c r → PXr F' d c r
  | [], _, _, _, _ => trivial
  | (b, a, o) :: c, r, h, hn, H => by
    obtain ⟨h1, h2, h4, h5, h6, h7, h8⟩ := H
    have ha : ∀ k, 3 ≤ k → k ≠ 5 → F' a k = F a k := fun k hk h5 => h a List.mem_cons_self k hk (Or.inl h5)
    have hn2 : (tPre o ++ cAd c).Nodup ∧ a ∉ tPre o ++ cAd c := ⟨(List.nodup_cons.mp hn).2, (List.nodup_cons.mp hn).1⟩
    refine ⟨by rw [ha 3 (by decide) (by decide), h1], by rw [ha 4 (by decide) (by decide), h2], by rw [ha 6 (by decide) (by decide), h4], by rw [ha 7 (by decide) (by decide), h5], by rw [ha 8 (by decide) (by decide), h6], CT_congr (fun q hq k hk => h q (List.mem_cons_of_mem _ (List.mem_append_left _ hq)) k hk (Or.inr (fun hp => ?_))) h7, PXr_congr (fun q hq k hk hor => h q (List.mem_cons_of_mem _ (List.mem_append_right _ hq)) k hk (hor.elim Or.inl (fun hnp => Or.inr (fun hp => ?_)))) ((List.nodup_append.mp hn2.1).2.1) h8⟩
    · rcases List.mem_cons.mp hp with e | hp
      · exact hn2.2 (by rw [← e]; exact List.mem_append_left _ hq)
      · exact (List.nodup_append.mp hn2.1).2.2 q hq q (cPath_sub hp) rfl
    · rcases List.mem_cons.mp hp with e | hp
      · exact hn2.2 (by rw [← e]; exact List.mem_append_right _ hq)
      · exact hnp hp
theorem PXz_congr {F F' : gF} : ∀ {c : cxT Nat} {n : Nat}, (∀ a ∈ cPath c, F' a 5 = F a 5) → PXz F c n → PXz F' c n
  | [], _, _, _ => trivial
  | (_, a, o) :: c, n, h, H => ⟨by rw [h a List.mem_cons_self]; exact H.1, PXz_congr (fun q hq => h q (List.mem_cons_of_mem _ hq)) H.2⟩
/-- the Nodes of a list: their own cells, and whether they are dead -/
def NDs (K : gK) (F : gF) (dt : Nat → gPt) (pl : Nat → Nat) (dd : Nat → Bool) (L : List Nat) : Prop := ∀ a ∈ L, ndD K F a (pl a) (dt a) ∧ F a 2 = .int (bI (dd a))
theorem ndD_congr {K : gK} {F F' : gF} {a p : Nat} {x : gPt} (h : ∀ b j, (K b = some (2, 0) ∧ j < 2) ∨ K b = some (3, 0) → F' b j = F b j) (H : ndD K F a p x) : ndD K F' a p x := by
  obtain ⟨h1, h2, h3, h4, h5, h6⟩ := H
  exact ⟨h1, h2, by rw [h a 0 (Or.inl ⟨h1, by decide⟩), h3], by rw [h a 1 (Or.inl ⟨h1, by decide⟩), h4], fun i hi => by rw [h p i (Or.inr h2)]; exact h5 i hi, h6⟩
theorem NDs_congr {K : gK} {F F' : gF} {dt : Nat → gPt} {pl : Nat → Nat} {dd : Nat → Bool} {L : List Nat} (h : ∀ b j, (K b = some (2, 0) ∧ j < 3) ∨ K b = some (3, 0) → F' b j = F b j) (H : NDs K F dt pl dd L) : NDs K F' dt pl dd L := fun a ha => by
  obtain ⟨h1, h2⟩ := H a ha
  exact ⟨ndD_congr (fun b j q => h b j (q.elim (fun q => Or.inl ⟨q.1, by omega⟩) Or.inr)) h1, by rw [h a 2 (Or.inl ⟨h1.1, by decide⟩), h2]⟩
theorem NDs_sub {K : gK} {F : gF} {dt : Nat → gPt} {pl : Nat → Nat} {dd : Nat → Bool} {L L' : List Nat} (H : NDs K F dt pl dd L) (h : ∀ a ∈ L', a ∈ L) : NDs K F dt pl dd L' := fun a ha => H a (h a ha)
/-- by an axis one Node's point is less than another's -/
def ltA (dt : Nat → gPt) (ax a b : Nat) : Bool := pLess ax (dt a) (dt b)
theorem CT_root {F : gF} {d : Nat} {t : TT Nat} {up : Option Nat} {dep : Nat} (H : CT F d t up dep) {a : Nat} (h : tRt t = some a) : F a 5 = .int (nI (tSz t)) := by
  cases t with
  | leaf => cases h
  | inner s x v l r => cases h; exact H.2.2.1
theorem tRt_mem {α : Type} {t : TT α} {a : α} (h : tRt t = some a) : a ∈ tPre t := by
  cases t with
  | leaf => cases h
  | inner s x v l r => cases h; exact List.mem_cons_self
theorem tRt_none {α : Type} {t : TT α} (h : tRt t = none) : tSz t = 0 := by
  cases t with
  | leaf => rfl
  | inner s x v l r => cases h
end
section
set_option maxHeartbeats 4000000 in
set_option maxRecDepth 100000 in
theorem c_square (l : Launch) (Γ : gG) (K : gK) (F : gF) (x : Int64) : gMR l yX3_square wsX3_square 0 Γ K F [.long x] (some (.long (x * x))) := by
  refine g_mR (cc := cX3_square) (maxL := 2) (ret := (some .long)) (by decide) rfl (Nat.le_of_ble_eq_true rfl) ?_
  intro p e s m args below meth c ls Z hx hb hts hown hml hN hP hret hl
  have hl : lv_has ls 2 [(0, .long x)] := hl
  have hown : s.vm.findClass RX3 = some m.cls := hown
  refine lv_lload_n hx hb dX3_square_0 rfl (lv_at hl 0 rfl) ?_
  refine lv_lload_n hx hb dX3_square_1 rfl (lv_at hl 0 rfl) ?_
  refine lv_lmul hx hb dX3_square_2 ?_
  exact hret (some (.long (x * x))) _ _ (rfl) (rt_l dX3_square_3)

set_option maxHeartbeats 4000000 in
set_option maxRecDepth 100000 in
theorem c_number (l : Launch) (Γ : gG) (K : gK) (F : gF) (h : Nat) (q : Nat → Int32) (ax : Nat) (hk : K h = some (3, 0)) (hq : ∀ i, i < 4 → F h i = .int (q i)) (hax : ax < 4) : gMR l yX3_number wsX3_number 0 Γ K F [.ref h, .int (nI ax)] (some (.int (q ax))) := by
  refine g_mR (cc := cX3_number) (maxL := 2) (ret := (some .int)) (by decide) rfl (Nat.le_of_ble_eq_true rfl) ?_
  intro p e s m args below meth c ls Z hx hb hts hown hml hN hP hret hl
  have hl : lv_has ls 2 [(0, .ref h), (1, .int (nI ax))] := hl
  have hown : s.vm.findClass RX3 = some m.cls := hown
  have hi3 : ∀ w ∈ wsX30, w ∈ wsX3_number := by decide +kernel
  have hfX3_7 : Cond.fieldLink RX3 7 (TX3 0).1 (TX3 0).2.1 (TX3 0).2.2.1 ∈ wsX3_number := by decide +kernel
  have hfX3_13 : Cond.fieldLink RX3 13 (TX3 1).1 (TX3 1).2.1 (TX3 1).2.2.1 ∈ wsX3_number := by decide +kernel
  have hfX3_16 : Cond.fieldLink RX3 16 (TX3 2).1 (TX3 2).2.1 (TX3 2).2.2.1 ∈ wsX3_number := by decide +kernel
  have hfX3_19 : Cond.fieldLink RX3 19 (TX3 3).1 (TX3 3).2.1 (TX3 3).2.2.1 ∈ wsX3_number := by decide +kernel
  rcases (show ax = 0 ∨ ax = 1 ∨ ax = 2 ∨ ax = 3 by omega) with rfl | rfl | rfl | rfl
  · refine lv_iload_n hx hb dX3_number_0 rfl (lv_at hl 1 rfl) ?_
    refine lv_tableIn (tgt := 28) hx hb dX3_number_1 (by decide) (by decide) (off := 27) (by decide) (by decide) ?_
    refine lv_aload_n hx hb dX3_number_28 rfl (lv_at hl 0 rfl) ?_
    refine g_get (C := RX3) (T := TX3) (N := 4) hx hb hts hi3 hown hN hP hk rfl (by decide) 0 (by decide) hfX3_7 (v := .int (q 0)) (hq 0 (by decide)) dX3_number_29 ?_
    exact hret (some (.int (q 0))) _ _ (rfl) (rt_i dX3_number_32)
  · refine lv_iload_n hx hb dX3_number_0 rfl (lv_at hl 1 rfl) ?_
    refine lv_tableIn (tgt := 33) hx hb dX3_number_1 (by decide) (by decide) (off := 32) (by decide) (by decide) ?_
    refine lv_aload_n hx hb dX3_number_33 rfl (lv_at hl 0 rfl) ?_
    refine g_get (C := RX3) (T := TX3) (N := 4) hx hb hts hi3 hown hN hP hk rfl (by decide) 1 (by decide) hfX3_13 (v := .int (q 1)) (hq 1 (by decide)) dX3_number_34 ?_
    exact hret (some (.int (q 1))) _ _ (rfl) (rt_i dX3_number_37)
  · refine lv_iload_n hx hb dX3_number_0 rfl (lv_at hl 1 rfl) ?_
    refine lv_tableIn (tgt := 38) hx hb dX3_number_1 (by decide) (by decide) (off := 37) (by decide) (by decide) ?_
    refine lv_aload_n hx hb dX3_number_38 rfl (lv_at hl 0 rfl) ?_
    refine g_get (C := RX3) (T := TX3) (N := 4) hx hb hts hi3 hown hN hP hk rfl (by decide) 2 (by decide) hfX3_16 (v := .int (q 2)) (hq 2 (by decide)) dX3_number_39 ?_
    exact hret (some (.int (q 2))) _ _ (rfl) (rt_i dX3_number_42)
  · refine lv_iload_n hx hb dX3_number_0 rfl (lv_at hl 1 rfl) ?_
    refine lv_tableOut (tgt := 43) hx hb dX3_number_1 (by decide) (by decide) ?_
    refine lv_aload_n hx hb dX3_number_43 rfl (lv_at hl 0 rfl) ?_
    refine g_get (C := RX3) (T := TX3) (N := 4) hx hb hts hi3 hown hN hP hk rfl (by decide) 3 (by decide) hfX3_19 (v := .int (q 3)) (hq 3 (by decide)) dX3_number_44 ?_
    exact hret (some (.int (q 3))) _ _ (rfl) (rt_i dX3_number_47)

set_option maxHeartbeats 4000000 in
set_option maxRecDepth 100000 in
theorem c_distanceTo (l : Launch) (Γ : gG) (K : gK) (F : gF) (h g : Nat) (q q2 : Nat → Int32) (hk : K h = some (3, 0)) (hq : ∀ i, i < 4 → F h i = .int (q i)) (hk2 : K g = some (3, 0)) (hq2 : ∀ i, i < 4 → F g i = .int (q2 i)) : gMR l yX3_distanceTo wsX3_distanceTo 1 Γ K F [.ref h, .ref g] (some (.long (pDist q q2))) := by
  refine g_mR (cc := cX3_distanceTo) (maxL := 2) (ret := (some .long)) (by decide) rfl (Nat.le_of_ble_eq_true rfl) ?_
  intro p e s m args below meth c ls Z hx hb hts hown hml hN hP hret hl
  have hl : lv_has ls 2 [(0, .ref h), (1, .ref g)] := hl
  have hown : s.vm.findClass RX3 = some m.cls := hown
  have hi3 : ∀ w ∈ wsX30, w ∈ wsX3_distanceTo := by decide +kernel
  have hfX3_7 : Cond.fieldLink RX3 7 (TX3 0).1 (TX3 0).2.1 (TX3 0).2.2.1 ∈ wsX3_distanceTo := by decide +kernel
  have hfX3_13 : Cond.fieldLink RX3 13 (TX3 1).1 (TX3 1).2.1 (TX3 1).2.2.1 ∈ wsX3_distanceTo := by decide +kernel
  have hfX3_16 : Cond.fieldLink RX3 16 (TX3 2).1 (TX3 2).2.1 (TX3 2).2.2.1 ∈ wsX3_distanceTo := by decide +kernel
  have hfX3_19 : Cond.fieldLink RX3 19 (TX3 3).1 (TX3 3).2.1 (TX3 3).2.2.1 ∈ wsX3_distanceTo := by decide +kernel
  refine lv_aload_n hx hb dX3_distanceTo_0 rfl (lv_at hl 0 rfl) ?_
  refine g_get (C := RX3) (T := TX3) (N := 4) hx hb hts hi3 hown hN hP hk rfl (by decide) 0 (by decide) hfX3_7 (v := .int (q 0)) (hq 0 (by decide)) dX3_distanceTo_1 ?_
  refine lv_aload_n hx hb dX3_distanceTo_4 rfl (lv_at hl 1 rfl) ?_
  refine g_get (C := RX3) (T := TX3) (N := 4) hx hb hts hi3 hown hN hP hk2 rfl (by decide) 0 (by decide) hfX3_7 (v := .int (q2 0)) (hq2 0 (by decide)) dX3_distanceTo_5 ?_
  refine lv_isub hx hb dX3_distanceTo_8 ?_
  refine lv_i2l (v := ((q 0) - (q2 0)).toInt64) hx hb dX3_distanceTo_9 rfl ?_
  refine g_cS (v := (some (.long (sqI (q 0 - q2 0))))) (As := [.long (((q 0) - (q2 0)).toInt64)]) (rest := []) hx hb hml hown hts hN hP (c_square l Γ K F (q 0 - q2 0).toInt64) gX3_distanceTo_X3_square rfl (na := 1) rfl (by decide +kernel) ⟨by decide, by decide⟩ ⟨Nat.zero_le _, Nat.zero_le _⟩ rfl hl.1 (Nat.le_of_ble_eq_true rfl) dX3_distanceTo_10 ?_
  show W _ _ _ _ _ _ _ _ _ _ _ _ _ _ _ (F0 m 13 ls [.long (sqI (q 0 - q2 0))])
  refine lv_aload_n hx hb dX3_distanceTo_13 rfl (lv_at hl 0 rfl) ?_
  refine g_get (C := RX3) (T := TX3) (N := 4) hx hb hts hi3 hown hN hP hk rfl (by decide) 1 (by decide) hfX3_13 (v := .int (q 1)) (hq 1 (by decide)) dX3_distanceTo_14 ?_
  refine lv_aload_n hx hb dX3_distanceTo_17 rfl (lv_at hl 1 rfl) ?_
  refine g_get (C := RX3) (T := TX3) (N := 4) hx hb hts hi3 hown hN hP hk2 rfl (by decide) 1 (by decide) hfX3_13 (v := .int (q2 1)) (hq2 1 (by decide)) dX3_distanceTo_18 ?_
  refine lv_isub hx hb dX3_distanceTo_21 ?_
  refine lv_i2l (v := ((q 1) - (q2 1)).toInt64) hx hb dX3_distanceTo_22 rfl ?_
  refine g_cS (v := (some (.long (sqI (q 1 - q2 1))))) (As := [.long (((q 1) - (q2 1)).toInt64)]) (rest := [.long (sqI (q 0 - q2 0))]) hx hb hml hown hts hN hP (c_square l Γ K F (q 1 - q2 1).toInt64) gX3_distanceTo_X3_square rfl (na := 1) rfl (by decide +kernel) ⟨by decide, by decide⟩ ⟨Nat.zero_le _, Nat.zero_le _⟩ rfl hl.1 (Nat.le_of_ble_eq_true rfl) dX3_distanceTo_23 ?_
  show W _ _ _ _ _ _ _ _ _ _ _ _ _ _ _ (F0 m 26 ls [.long (sqI (q 1 - q2 1)), .long (sqI (q 0 - q2 0))])
  refine lv_ladd hx hb dX3_distanceTo_26 ?_
  refine lv_aload_n hx hb dX3_distanceTo_27 rfl (lv_at hl 0 rfl) ?_
  refine g_get (C := RX3) (T := TX3) (N := 4) hx hb hts hi3 hown hN hP hk rfl (by decide) 2 (by decide) hfX3_16 (v := .int (q 2)) (hq 2 (by decide)) dX3_distanceTo_28 ?_
  refine lv_aload_n hx hb dX3_distanceTo_31 rfl (lv_at hl 1 rfl) ?_
  refine g_get (C := RX3) (T := TX3) (N := 4) hx hb hts hi3 hown hN hP hk2 rfl (by decide) 2 (by decide) hfX3_16 (v := .int (q2 2)) (hq2 2 (by decide)) dX3_distanceTo_32 ?_
  refine lv_isub hx hb dX3_distanceTo_35 ?_
  refine lv_i2l (v := ((q 2) - (q2 2)).toInt64) hx hb dX3_distanceTo_36 rfl ?_
  refine g_cS (v := (some (.long (sqI (q 2 - q2 2))))) (As := [.long (((q 2) - (q2 2)).toInt64)]) (rest := [.long ((sqI (q 0 - q2 0)) + (sqI (q 1 - q2 1)))]) hx hb hml hown hts hN hP (c_square l Γ K F (q 2 - q2 2).toInt64) gX3_distanceTo_X3_square rfl (na := 1) rfl (by decide +kernel) ⟨by decide, by decide⟩ ⟨Nat.zero_le _, Nat.zero_le _⟩ rfl hl.1 (Nat.le_of_ble_eq_true rfl) dX3_distanceTo_37 ?_
  show W _ _ _ _ _ _ _ _ _ _ _ _ _ _ _ (F0 m 40 ls [.long (sqI (q 2 - q2 2)), .long ((sqI (q 0 - q2 0)) + (sqI (q 1 - q2 1)))])
  refine lv_ladd hx hb dX3_distanceTo_40 ?_
  refine lv_aload_n hx hb dX3_distanceTo_41 rfl (lv_at hl 0 rfl) ?_
  refine g_get (C := RX3) (T := TX3) (N := 4) hx hb hts hi3 hown hN hP hk rfl (by decide) 3 (by decide) hfX3_19 (v := .int (q 3)) (hq 3 (by decide)) dX3_distanceTo_42 ?_
  refine lv_aload_n hx hb dX3_distanceTo_45 rfl (lv_at hl 1 rfl) ?_
  refine g_get (C := RX3) (T := TX3) (N := 4) hx hb hts hi3 hown hN hP hk2 rfl (by decide) 3 (by decide) hfX3_19 (v := .int (q2 3)) (hq2 3 (by decide)) dX3_distanceTo_46 ?_
  refine lv_isub hx hb dX3_distanceTo_49 ?_
  refine lv_i2l (v := ((q 3) - (q2 3)).toInt64) hx hb dX3_distanceTo_50 rfl ?_
  refine g_cS (v := (some (.long (sqI (q 3 - q2 3))))) (As := [.long (((q 3) - (q2 3)).toInt64)]) (rest := [.long (((sqI (q 0 - q2 0)) + (sqI (q 1 - q2 1))) + (sqI (q 2 - q2 2)))]) hx hb hml hown hts hN hP (c_square l Γ K F (q 3 - q2 3).toInt64) gX3_distanceTo_X3_square rfl (na := 1) rfl (by decide +kernel) ⟨by decide, by decide⟩ ⟨Nat.zero_le _, Nat.zero_le _⟩ rfl hl.1 (Nat.le_of_ble_eq_true rfl) dX3_distanceTo_51 ?_
  show W _ _ _ _ _ _ _ _ _ _ _ _ _ _ _ (F0 m 54 ls [.long (sqI (q 3 - q2 3)), .long (((sqI (q 0 - q2 0)) + (sqI (q 1 - q2 1))) + (sqI (q 2 - q2 2)))])
  refine lv_ladd hx hb dX3_distanceTo_54 ?_
  exact hret (some (.long ((((sqI (q 0 - q2 0)) + (sqI (q 1 - q2 1))) + (sqI (q 2 - q2 2))) + (sqI (q 3 - q2 3))))) _ _ (rfl) (rt_l dX3_distanceTo_55)

set_option maxHeartbeats 4000000 in
set_option maxRecDepth 100000 in
theorem c_isBetween (l : Launch) (Γ : gG) (K : gK) (F : gF) (h : Nat) (q : Nat → Int32) (ax : Nat) (lo hi : Int32) (hk : K h = some (3, 0)) (hq : ∀ i, i < 4 → F h i = .int (q i)) (hax : ax < 4) : gMR l yX3_isBetween wsX3_isBetween 1 Γ K F [.ref h, .int (nI ax), .int lo, .int hi] (some (.int (bI (decide (lo ≤ q ax ∧ q ax ≤ hi))))) := by
  refine g_mR (cc := cX3_isBetween) (maxL := 5) (ret := (some .boolean)) (by decide) rfl (Nat.le_of_ble_eq_true rfl) ?_
  intro p e s m args below meth c ls Z hx hb hts hown hml hN hP hret hl
  have hl : lv_has ls 5 [(0, .ref h), (1, .int (nI ax)), (2, .int lo), (3, .int hi)] := hl
  have hown : s.vm.findClass RX3 = some m.cls := hown
  refine lv_aload_n hx hb dX3_isBetween_0 rfl (lv_at hl 0 rfl) ?_
  refine lv_iload_n hx hb dX3_isBetween_1 rfl (lv_at hl 1 rfl) ?_
  refine g_cV (v := (some (.int (q ax)))) (As := [.int (nI ax)]) (b := h) (rest := []) hx hb hml hown hts hN hP (c_number l Γ K F h q ax hk hq hax) gX3_isBetween_X3_number rfl hk (by decide) rfl (na := 1) rfl (by decide +kernel) ⟨by decide, by decide⟩ ⟨Nat.zero_le _, Nat.zero_le _⟩ rfl hl.1 (Nat.le_of_ble_eq_true rfl) dX3_isBetween_2 ?_
  show W _ _ _ _ _ _ _ _ _ _ _ _ _ _ _ (F0 m 5 ls [.int (q ax)])
  refine lv_istore (lv' := [(4, .int (q ax)), (0, .ref h), (1, .int (nI ax)), (2, .int lo), (3, .int hi)]) hx hb dX3_isBetween_5 hl (by decide) rfl (fun ls hl => ?_)
  refine lv_iload hx hb dX3_isBetween_7 (lv_at hl 0 rfl) ?_
  refine lv_iload_n hx hb dX3_isBetween_9 rfl (lv_at hl 3 rfl) ?_
  refine lv_icmp_lt (tgt := 23) hx hb dX3_isBetween_10 (by decide) (fun c1 => ?_) (fun c1 => ?_)
  · refine lv_iconst (v := nI 0) hx hb dX3_isBetween_23 (by decide) ?_
    refine g_asi (show _ = bI false from bI_f') ?_
    exact hret (some (.int (bI false))) _ _ (by simp [Int32.not_le.mpr c1]) (rt_z dX3_isBetween_24)
  · refine lv_iload hx hb dX3_isBetween_13 (lv_at hl 0 rfl) ?_
    refine lv_iload_n hx hb dX3_isBetween_15 rfl (lv_at hl 4 rfl) ?_
    refine lv_icmp_gt (tgt := 23) hx hb dX3_isBetween_16 (by decide) (fun c2 => ?_) (fun c2 => ?_)
    · refine lv_iconst (v := nI 0) hx hb dX3_isBetween_23 (by decide) ?_
      refine g_asi (show _ = bI false from bI_f') ?_
      exact hret (some (.int (bI false))) _ _ (by simp [Int32.not_le.mpr c2]) (rt_z dX3_isBetween_24)
    · refine lv_iconst (v := nI 1) hx hb dX3_isBetween_19 (by decide) ?_
      refine lv_goto (tgt := 24) hx hb dX3_isBetween_20 (by decide) ?_
      refine g_asi (show _ = bI true from bI_t') ?_
      exact hret (some (.int (bI true))) _ _ (by simp [Int32.not_lt.mp c1, Int32.not_lt.mp c2]) (rt_z dX3_isBetween_24)

set_option maxHeartbeats 4000000 in
set_option maxRecDepth 100000 in
theorem c_isLess (l : Launch) (Γ : gG) (K : gK) (F : gF) (a b pa pb : Nat) (x y : gPt) (ax : Nat) (ha : ndD K F a pa x) (hb2 : ndD K F b pb y) (hax : ax < 4) : gMR l yX2_isLess wsX2_isLess 1 Γ K F [.ref a, .ref b, .int (nI ax)] (some (.int (bI (pLess ax x y)))) := by
  refine g_mR (cc := cX2_isLess) (maxL := 5) (ret := (some .boolean)) (by decide) rfl (Nat.le_of_ble_eq_true rfl) ?_
  intro p e s m args below meth c ls Z hx hb hts hown hml hN hP hret hl
  have hl : lv_has ls 5 [(0, .ref a), (1, .ref b), (2, .int (nI ax))] := hl
  have hown : s.vm.findClass RX2 = some m.cls := hown
  have hi2 : ∀ w ∈ wsX20, w ∈ wsX2_isLess := by decide +kernel
  have hfX2_7 : Cond.fieldLink RX2 7 (TX2 0).1 (TX2 0).2.1 (TX2 0).2.2.1 ∈ wsX2_isLess := by decide +kernel
  have hfX2_13 : Cond.fieldLink RX2 13 (TX2 1).1 (TX2 1).2.1 (TX2 1).2.2.1 ∈ wsX2_isLess := by decide +kernel
  refine lv_aload_n hx hb dX2_isLess_0 rfl (lv_at hl 0 rfl) ?_
  refine g_get (C := RX2) (T := TX2) (N := 9) hx hb hts hi2 hown hN hP ha.1 rfl (by decide) 1 (by decide) hfX2_13 (v := .ref pa) ha.2.2.2.1 dX2_isLess_1 ?_
  refine lv_iload_n hx hb dX2_isLess_4 rfl (lv_at hl 2 rfl) ?_
  refine g_cV (v := (some (.int (x.2 ax)))) (As := [.int (nI ax)]) (b := pa) (rest := []) hx hb hml hown hts hN hP (c_number l Γ K F pa x.2 ax ha.2.1 ha.2.2.2.2.1 hax) gX2_isLess_X3_number rfl ha.2.1 (by decide) rfl (na := 1) rfl (by decide +kernel) ⟨by decide, by decide⟩ ⟨Nat.zero_le _, Nat.zero_le _⟩ rfl hl.1 (Nat.le_of_ble_eq_true rfl) dX2_isLess_5 ?_
  show W _ _ _ _ _ _ _ _ _ _ _ _ _ _ _ (F0 m 8 ls [.int (x.2 ax)])
  refine lv_istore_n (lv' := [(3, .int (x.2 ax)), (0, .ref a), (1, .ref b), (2, .int (nI ax))]) hx hb dX2_isLess_8 rfl hl (by decide) rfl (fun ls hl => ?_)
  refine lv_aload_n hx hb dX2_isLess_9 rfl (lv_at hl 2 rfl) ?_
  refine g_get (C := RX2) (T := TX2) (N := 9) hx hb hts hi2 hown hN hP hb2.1 rfl (by decide) 1 (by decide) hfX2_13 (v := .ref pb) hb2.2.2.2.1 dX2_isLess_10 ?_
  refine lv_iload_n hx hb dX2_isLess_13 rfl (lv_at hl 3 rfl) ?_
  refine g_cV (v := (some (.int (y.2 ax)))) (As := [.int (nI ax)]) (b := pb) (rest := []) hx hb hml hown hts hN hP (c_number l Γ K F pb y.2 ax hb2.2.1 hb2.2.2.2.2.1 hax) gX2_isLess_X3_number rfl hb2.2.1 (by decide) rfl (na := 1) rfl (by decide +kernel) ⟨by decide, by decide⟩ ⟨Nat.zero_le _, Nat.zero_le _⟩ rfl hl.1 (Nat.le_of_ble_eq_true rfl) dX2_isLess_14 ?_
  show W _ _ _ _ _ _ _ _ _ _ _ _ _ _ _ (F0 m 17 ls [.int (y.2 ax)])
  refine lv_istore (lv' := [(4, .int (y.2 ax)), (3, .int (x.2 ax)), (0, .ref a), (1, .ref b), (2, .int (nI ax))]) hx hb dX2_isLess_17 hl (by decide) rfl (fun ls hl => ?_)
  refine lv_iload_n hx hb dX2_isLess_19 rfl (lv_at hl 1 rfl) ?_
  refine lv_iload hx hb dX2_isLess_20 (lv_at hl 0 rfl) ?_
  refine lv_icmp_lt (tgt := 42) hx hb dX2_isLess_22 (by decide) (fun c1 => ?_) (fun c1 => ?_)
  · refine lv_iconst (v := nI 1) hx hb dX2_isLess_42 (by decide) ?_
    refine lv_goto (tgt := 47) hx hb dX2_isLess_43 (by decide) ?_
    refine g_asi (show _ = bI true from bI_t') ?_
    exact hret (some (.int (bI true))) _ _ (by simp [pLess, c1]) (rt_z dX2_isLess_47)
  · refine lv_iload_n hx hb dX2_isLess_25 rfl (lv_at hl 1 rfl) ?_
    refine lv_iload hx hb dX2_isLess_26 (lv_at hl 0 rfl) ?_
    refine lv_icmp_ne (tgt := 46) hx hb dX2_isLess_28 (by decide) (fun c2 => ?_) (fun c2 => ?_)
    · refine lv_iconst (v := nI 0) hx hb dX2_isLess_46 (by decide) ?_
      refine g_asi (show _ = bI false from bI_f') ?_
      exact hret (some (.int (bI false))) _ _ (by simp [pLess, c1, c2]) (rt_z dX2_isLess_47)
    · have g1 := ha.2.2.2.2.2
      have g2 := hb2.2.2.2.2.2
      refine lv_aload_n hx hb dX2_isLess_31 rfl (lv_at hl 2 rfl) ?_
      refine g_get (C := RX2) (T := TX2) (N := 9) hx hb hts hi2 hown hN hP ha.1 rfl (by decide) 0 (by decide) hfX2_7 (v := .int (nI x.1)) ha.2.2.1 dX2_isLess_32 ?_
      refine lv_aload_n hx hb dX2_isLess_35 rfl (lv_at hl 3 rfl) ?_
      refine g_get (C := RX2) (T := TX2) (N := 9) hx hb hts hi2 hown hN hP hb2.1 rfl (by decide) 0 (by decide) hfX2_7 (v := .int (nI y.1)) hb2.2.2.1 dX2_isLess_36 ?_
      refine lv_icmp_ge (tgt := 46) hx hb dX2_isLess_39 (by decide) (fun c3 => ?_) (fun c3 => ?_)
      · have c3 : y.1 ≤ x.1 := (nI_leI (by omega) (by omega)).mp c3
        refine lv_iconst (v := nI 0) hx hb dX2_isLess_46 (by decide) ?_
        refine g_asi (show _ = bI false from bI_f') ?_
        exact hret (some (.int (bI false))) _ _ (by simp [pLess, c1, c2, Nat.not_lt.mpr c3]) (rt_z dX2_isLess_47)
      · have c3 : x.1 < y.1 := Nat.not_le.mp (fun z => c3 ((nI_leI (by omega) (by omega)).mpr z))
        refine lv_iconst (v := nI 1) hx hb dX2_isLess_42 (by decide) ?_
        refine lv_goto (tgt := 47) hx hb dX2_isLess_43 (by decide) ?_
        refine g_asi (show _ = bI true from bI_t') ?_
        exact hret (some (.int (bI true))) _ _ (by simp [pLess, c2, c3]) (rt_z dX2_isLess_47)

set_option maxHeartbeats 4000000 in
set_option maxRecDepth 100000 in
theorem c_sideOf (l : Launch) (Γ : gG) (K : gK) (F : gF) (a b pa pb : Nat) (x y : gPt) (ax : Nat) (lf rg : Option Nat) (ha : ndD K F a pa x) (hb2 : ndD K F b pb y) (hax : ax < 4) (hx4 : F a 4 = .int (nI ax)) (hlf : F a 7 = va_rf lf) (hrg : F a 8 = va_rf rg) : gMR l yX2_sideOf wsX2_sideOf 2 Γ K F [.ref a, .ref b] (some (va_rf (if pLess ax y x then lf else rg))) := by
  refine g_mR (cc := cX2_sideOf) (maxL := 2) (ret := (some (.object "NearTree$Node"))) (by decide) rfl (Nat.le_of_ble_eq_true rfl) ?_
  intro p e s m args below meth c ls Z hx hb hts hown hml hN hP hret hl
  have hl : lv_has ls 2 [(0, .ref a), (1, .ref b)] := hl
  have hown : s.vm.findClass RX2 = some m.cls := hown
  have hi2 : ∀ w ∈ wsX20, w ∈ wsX2_sideOf := by decide +kernel
  have hfX2_26 : Cond.fieldLink RX2 26 (TX2 4).1 (TX2 4).2.1 (TX2 4).2.2.1 ∈ wsX2_sideOf := by decide +kernel
  have hfX2_33 : Cond.fieldLink RX2 33 (TX2 7).1 (TX2 7).2.1 (TX2 7).2.2.1 ∈ wsX2_sideOf := by decide +kernel
  have hfX2_37 : Cond.fieldLink RX2 37 (TX2 8).1 (TX2 8).2.1 (TX2 8).2.2.1 ∈ wsX2_sideOf := by decide +kernel
  refine lv_aload_n hx hb dX2_sideOf_0 rfl (lv_at hl 1 rfl) ?_
  refine lv_aload_n hx hb dX2_sideOf_1 rfl (lv_at hl 0 rfl) ?_
  refine lv_aload_n hx hb dX2_sideOf_2 rfl (lv_at hl 0 rfl) ?_
  refine g_get (C := RX2) (T := TX2) (N := 9) hx hb hts hi2 hown hN hP ha.1 rfl (by decide) 4 (by decide) hfX2_26 (v := .int (nI ax)) hx4 dX2_sideOf_3 ?_
  refine g_cV (v := (some (.int (bI (pLess ax y x))))) (As := [.ref a, .int (nI ax)]) (b := b) (rest := []) hx hb hml hown hts hN hP (c_isLess l Γ K F b a pb pa y x ax hb2 ha hax) gX2_sideOf_X2_isLess rfl hb2.1 (by decide) rfl (na := 2) rfl (by decide +kernel) ⟨by decide, by decide⟩ ⟨Nat.zero_le _, Nat.zero_le _⟩ rfl hl.1 (Nat.le_of_ble_eq_true rfl) dX2_sideOf_6 ?_
  show W _ _ _ _ _ _ _ _ _ _ _ _ _ _ _ (F0 m 9 ls [.int (bI (pLess ax y x))])
  refine lv_if_eq (tgt := 19) hx hb dX2_sideOf_9 (by decide) (fun c1 => ?_) (fun c1 => ?_)
  · have c1 : (pLess ax y x) = false := bI_0.mp c1
    refine lv_aload_n hx hb dX2_sideOf_19 rfl (lv_at hl 0 rfl) ?_
    refine g_get (C := RX2) (T := TX2) (N := 9) hx hb hts hi2 hown hN hP ha.1 rfl (by decide) 8 (by decide) hfX2_37 (v := va_rf rg) hrg dX2_sideOf_20 ?_
    exact hret (some (va_rf rg)) _ _ (by rw [c1]; rfl) (rt_a dX2_sideOf_23)
  · have c1 : (pLess ax y x) = true := bI_n0.mp c1
    refine lv_aload_n hx hb dX2_sideOf_12 rfl (lv_at hl 0 rfl) ?_
    refine g_get (C := RX2) (T := TX2) (N := 9) hx hb hts hi2 hown hN hP ha.1 rfl (by decide) 7 (by decide) hfX2_33 (v := va_rf lf) hlf dX2_sideOf_13 ?_
    refine lv_goto (tgt := 23) hx hb dX2_sideOf_16 (by decide) ?_
    exact hret (some (va_rf lf)) _ _ (by rw [c1]; rfl) (rt_a dX2_sideOf_23)

set_option maxHeartbeats 4000000 in
set_option maxRecDepth 100000 in
theorem c_sizeOf (l : Launch) (Γ : gG) (K : gK) (F : gF) (r : Option Nat) (n : Nat) (h0 : r = none → n = 0) (h1 : ∀ a, r = some a → K a = some (2, 0) ∧ F a 5 = .int (nI n)) : gMR l yX2_sizeOf wsX2_sizeOf 0 Γ K F [va_rf r] (some (.int (nI n))) := by
  refine g_mR (cc := cX2_sizeOf) (maxL := 1) (ret := (some .int)) (by decide) rfl (by cases r <;> exact Nat.le_of_ble_eq_true rfl) ?_
  intro p e s m args below meth c ls Z hx hb hts hown hml hN hP hret hl
  have hl : lv_has ls 1 [(0, va_rf r)] := by cases r <;> exact hl
  have hown : s.vm.findClass RX2 = some m.cls := hown
  have hi2 : ∀ w ∈ wsX20, w ∈ wsX2_sizeOf := by decide +kernel
  have hfX2_17 : Cond.fieldLink RX2 17 (TX2 5).1 (TX2 5).2.1 (TX2 5).2.2.1 ∈ wsX2_sizeOf := by decide +kernel
  refine g_aload_n (r := r) hx hb dX2_sizeOf_0 rfl (lv_at hl 0 rfl) ?_
  refine g_ifnonnull (r := r) (tgt := 8) hx hb dX2_sizeOf_1 (by decide) (fun xc1 c1 => ?_) (fun c1 => ?_)
  · subst c1
    have hl : lv_has ls 1 [(0, .ref xc1)] := hl
    refine lv_aload_n hx hb dX2_sizeOf_8 rfl (lv_at hl 0 rfl) ?_
    refine g_get (C := RX2) (T := TX2) (N := 9) hx hb hts hi2 hown hN hP (h1 xc1 rfl).1 rfl (by decide) 5 (by decide) hfX2_17 (v := .int (nI n)) (h1 xc1 rfl).2 dX2_sizeOf_9 ?_
    exact hret (some (.int (nI n))) _ _ (rfl) (rt_i dX2_sizeOf_12)
  · refine lv_iconst (v := nI 0) hx hb dX2_sizeOf_4 (by decide) ?_
    refine lv_goto (tgt := 12) hx hb dX2_sizeOf_5 (by decide) ?_
    exact hret (some (.int (nI 0))) _ _ (by rw [h0 c1]) (rt_i dX2_sizeOf_12)

set_option maxHeartbeats 4000000 in
set_option maxRecDepth 100000 in
theorem c_leans (l : Launch) (Γ : gG) (K : gK) (F : gF) (a : Nat) (lf rg : Option Nat) (n1 n2 n : Nat) (hk : K a = some (2, 0)) (hlf : F a 7 = va_rf lf) (hrg : F a 8 = va_rf rg) (hn5 : F a 5 = .int (nI n)) (h10 : lf = none → n1 = 0) (h11 : ∀ a, lf = some a → K a = some (2, 0) ∧ F a 5 = .int (nI n1)) (h20 : rg = none → n2 = 0) (h21 : ∀ a, rg = some a → K a = some (2, 0) ∧ F a 5 = .int (nI n2)) (hn1 : n1 < 2 ^ 20) (hn2 : n2 < 2 ^ 20) (hn : n < 2 ^ 20) : gMR l yX2_leans wsX2_leans 1 Γ K F [.ref a] (some (.int (bI (decide (n * 2 < max n1 n2 * 3))))) := by
  refine g_mR (cc := cX2_leans) (maxL := 1) (ret := (some .boolean)) (by decide) rfl (Nat.le_of_ble_eq_true rfl) ?_
  intro p e s m args below meth c ls Z hx hb hts hown hml hN hP hret hl
  have hl : lv_has ls 1 [(0, .ref a)] := hl
  have hown : s.vm.findClass RX2 = some m.cls := hown
  have hi2 : ∀ w ∈ wsX20, w ∈ wsX2_leans := by decide +kernel
  have hfX2_17 : Cond.fieldLink RX2 17 (TX2 5).1 (TX2 5).2.1 (TX2 5).2.2.1 ∈ wsX2_leans := by decide +kernel
  have hfX2_33 : Cond.fieldLink RX2 33 (TX2 7).1 (TX2 7).2.1 (TX2 7).2.2.1 ∈ wsX2_leans := by decide +kernel
  have hfX2_37 : Cond.fieldLink RX2 37 (TX2 8).1 (TX2 8).2.1 (TX2 8).2.2.1 ∈ wsX2_leans := by decide +kernel
  refine lv_aload_n hx hb dX2_leans_0 rfl (lv_at hl 0 rfl) ?_
  refine g_get (C := RX2) (T := TX2) (N := 9) hx hb hts hi2 hown hN hP hk rfl (by decide) 7 (by decide) hfX2_33 (v := va_rf lf) hlf dX2_leans_1 ?_
  refine g_cS (v := (some (.int (nI n1)))) (As := [va_rf lf]) (rest := []) hx hb hml hown hts hN hP (c_sizeOf l Γ K F lf n1 h10 h11) gX2_leans_X2_sizeOf rfl (na := 1) rfl (by decide +kernel) ⟨by decide, by decide⟩ ⟨Nat.zero_le _, Nat.zero_le _⟩ rfl hl.1 (Nat.le_of_ble_eq_true rfl) dX2_leans_4 ?_
  show W _ _ _ _ _ _ _ _ _ _ _ _ _ _ _ (F0 m 7 ls [.int (nI n1)])
  refine lv_aload_n hx hb dX2_leans_7 rfl (lv_at hl 0 rfl) ?_
  refine g_get (C := RX2) (T := TX2) (N := 9) hx hb hts hi2 hown hN hP hk rfl (by decide) 8 (by decide) hfX2_37 (v := va_rf rg) hrg dX2_leans_8 ?_
  refine g_cS (v := (some (.int (nI n2)))) (As := [va_rf rg]) (rest := [.int (nI n1)]) hx hb hml hown hts hN hP (c_sizeOf l Γ K F rg n2 h20 h21) gX2_leans_X2_sizeOf rfl (na := 1) rfl (by decide +kernel) ⟨by decide, by decide⟩ ⟨Nat.zero_le _, Nat.zero_le _⟩ rfl hl.1 (Nat.le_of_ble_eq_true rfl) dX2_leans_11 ?_
  show W _ _ _ _ _ _ _ _ _ _ _ _ _ _ _ (F0 m 14 ls [.int (nI n2), .int (nI n1)])
  refine va_mmax hx hb (hml.trans hl.1.symm) hown (hts _ (show Cond.methodLink RX2 44 Lib.Math.max.name ∈ _ by decide +kernel)) (hts _ (by decide +kernel)) (hts _ (by decide +kernel)) (hts _ (by decide +kernel)) (by decide) (Nat.le_of_ble_eq_true rfl) (Nat.zero_le _) (Nat.zero_le _) dX2_leans_14 ?_
  refine g_asi (show _ = nI (max n1 n2) from mx_max hn1 hn2) ?_
  refine lv_iconst (v := nI 3) hx hb dX2_leans_17 (by decide) ?_
  refine lv_imul hx hb dX2_leans_18 ?_
  refine g_asi (show _ = nI ((max n1 n2) * 3) from (pk_mul _ _).trans (by rfl)) ?_
  refine lv_aload_n hx hb dX2_leans_19 rfl (lv_at hl 0 rfl) ?_
  refine g_get (C := RX2) (T := TX2) (N := 9) hx hb hts hi2 hown hN hP hk rfl (by decide) 5 (by decide) hfX2_17 (v := .int (nI n)) hn5 dX2_leans_20 ?_
  refine lv_iconst (v := nI 2) hx hb dX2_leans_23 (by decide) ?_
  refine lv_imul hx hb dX2_leans_24 ?_
  refine g_asi (show _ = nI (n * 2) from (pk_mul _ _).trans (by rfl)) ?_
  refine lv_icmp_le (tgt := 32) hx hb dX2_leans_25 (by decide) (fun c1 => ?_) (fun c1 => ?_)
  · have c1 : ((max n1 n2) * 3) ≤ (n * 2) := (nI_leI (by omega) (by omega)).mp c1
    refine lv_iconst (v := nI 0) hx hb dX2_leans_32 (by decide) ?_
    refine g_asi (show _ = bI false from bI_f') ?_
    exact hret (some (.int (bI false))) _ _ (by rw [decide_eq_false (by omega)]) (rt_z dX2_leans_33)
  · have c1 : (n * 2) < ((max n1 n2) * 3) := Nat.not_le.mp (fun z => c1 ((nI_leI (by omega) (by omega)).mpr z))
    refine lv_iconst (v := nI 1) hx hb dX2_leans_28 (by decide) ?_
    refine lv_goto (tgt := 33) hx hb dX2_leans_29 (by decide) ?_
    refine g_asi (show _ = bI true from bI_t') ?_
    exact hret (some (.int (bI true))) _ _ (by rw [decide_eq_true (by omega)]) (rt_z dX2_leans_33)
end
section
def lAhead (x y : Nat × Int64) : Bool := decide (x.2 < y.2 ∨ (x.2 = y.2 ∧ x.1 < y.1))
def vId (x : Nat × Int64) : Value := .int (nI x.1)
def vDi (x : Nat × Int64) : Value := .long x.2
/-- THE LIST's cells: S, with a limit -/
def lsR (K : gK) (F : gF) (h ai ad : Nat) (S : List (Nat × Int64)) (lim : Nat) : Prop :=
  K h = some (1, 0) ∧ K ai = some (8, 100) ∧ K ad = some (9, 100) ∧ F h 0 = .ref ai ∧ F h 1 = .ref ad ∧ F h 2 = .int (nI S.length) ∧ F h 3 = .int (nI lim) ∧ rowL F ai 0 (S.map vId) ∧ rowL F ad 0 (S.map vDi) ∧ S.length ≤ lim ∧ lim ≤ 100 ∧ ∀ x ∈ S, x.1 < 100
def offL (lim : Nat) (x : Nat × Int64) (S : List (Nat × Int64)) : List (Nat × Int64) := (insR lAhead x S).take lim

set_option maxHeartbeats 4000000 in
set_option maxRecDepth 100000 in
theorem c_has (l : Launch) (Γ : gG) (K : gK) (F : gF) (h : Nat) (n : Nat) (i : Int32) (hk : K h = some (1, 0)) (h2 : F h 2 = .int (nI n)) : gMR l yX1_has wsX1_has 0 Γ K F [.ref h, .int i] (some (.int (bI (decide (¬ i < 0 ∧ i < nI n))))) := by
  refine g_mR (cc := cX1_has) (maxL := 2) (ret := (some .boolean)) (by decide) rfl (Nat.le_of_ble_eq_true rfl) ?_
  intro p e s m args below meth c ls Z hx hb hts hown hml hN hP hret hl
  have hl : lv_has ls 2 [(0, .ref h), (1, .int i)] := hl
  have hown : s.vm.findClass RX1 = some m.cls := hown
  have hi1 : ∀ w ∈ wsX10, w ∈ wsX1_has := by decide +kernel
  have hfX1_19 : Cond.fieldLink RX1 19 (TX1 2).1 (TX1 2).2.1 (TX1 2).2.2.1 ∈ wsX1_has := by decide +kernel
  refine lv_iload_n hx hb dX1_has_0 rfl (lv_at hl 1 rfl) ?_
  refine lv_if_lt (tgt := 16) hx hb dX1_has_1 (by decide) (fun c1 => ?_) (fun c1 => ?_)
  · refine lv_iconst (v := nI 0) hx hb dX1_has_16 (by decide) ?_
    refine g_asi (show _ = bI false from bI_f') ?_
    exact hret (some (.int (bI false))) _ _ (by rw [decide_eq_false (fun z => z.1 c1)]) (rt_z dX1_has_17)
  · refine lv_iload_n hx hb dX1_has_4 rfl (lv_at hl 1 rfl) ?_
    refine lv_aload_n hx hb dX1_has_5 rfl (lv_at hl 0 rfl) ?_
    refine g_get (C := RX1) (T := TX1) (N := 4) hx hb hts hi1 hown hN hP hk rfl (by decide) 2 (by decide) hfX1_19 (v := .int (nI n)) h2 dX1_has_6 ?_
    refine lv_icmp_ge (tgt := 16) hx hb dX1_has_9 (by decide) (fun c2 => ?_) (fun c2 => ?_)
    · refine lv_iconst (v := nI 0) hx hb dX1_has_16 (by decide) ?_
      refine g_asi (show _ = bI false from bI_f') ?_
      exact hret (some (.int (bI false))) _ _ (by rw [decide_eq_false (fun z => Int32.not_lt.mpr c2 z.2)]) (rt_z dX1_has_17)
    · refine lv_iconst (v := nI 1) hx hb dX1_has_12 (by decide) ?_
      refine lv_goto (tgt := 17) hx hb dX1_has_13 (by decide) ?_
      refine g_asi (show _ = bI true from bI_t') ?_
      exact hret (some (.int (bI true))) _ _ (by rw [decide_eq_true ⟨c1, Int32.not_le.mp c2⟩]) (rt_z dX1_has_17)

set_option maxHeartbeats 4000000 in
set_option maxRecDepth 100000 in
theorem c_isFull (l : Launch) (Γ : gG) (K : gK) (F : gF) (h n lim : Nat) (hk : K h = some (1, 0)) (h2 : F h 2 = .int (nI n)) (h3 : F h 3 = .int (nI lim)) (hn : n ≤ 100) (hlim : lim ≤ 100) : gMR l yX1_isFull wsX1_isFull 0 Γ K F [.ref h] (some (.int (bI (decide (lim ≤ n))))) := by
  refine g_mR (cc := cX1_isFull) (maxL := 1) (ret := (some .boolean)) (by decide) rfl (Nat.le_of_ble_eq_true rfl) ?_
  intro p e s m args below meth c ls Z hx hb hts hown hml hN hP hret hl
  have hl : lv_has ls 1 [(0, .ref h)] := hl
  have hown : s.vm.findClass RX1 = some m.cls := hown
  have hi1 : ∀ w ∈ wsX10, w ∈ wsX1_isFull := by decide +kernel
  have hfX1_19 : Cond.fieldLink RX1 19 (TX1 2).1 (TX1 2).2.1 (TX1 2).2.2.1 ∈ wsX1_isFull := by decide +kernel
  have hfX1_32 : Cond.fieldLink RX1 32 (TX1 3).1 (TX1 3).2.1 (TX1 3).2.2.1 ∈ wsX1_isFull := by decide +kernel
  refine lv_aload_n hx hb dX1_isFull_0 rfl (lv_at hl 0 rfl) ?_
  refine g_get (C := RX1) (T := TX1) (N := 4) hx hb hts hi1 hown hN hP hk rfl (by decide) 2 (by decide) hfX1_19 (v := .int (nI n)) h2 dX1_isFull_1 ?_
  refine lv_aload_n hx hb dX1_isFull_4 rfl (lv_at hl 0 rfl) ?_
  refine g_get (C := RX1) (T := TX1) (N := 4) hx hb hts hi1 hown hN hP hk rfl (by decide) 3 (by decide) hfX1_32 (v := .int (nI lim)) h3 dX1_isFull_5 ?_
  refine lv_icmp_lt (tgt := 15) hx hb dX1_isFull_8 (by decide) (fun c1 => ?_) (fun c1 => ?_)
  · have c1 : n < lim := (nI_ltI (by omega) (by omega)).mp c1
    refine lv_iconst (v := nI 0) hx hb dX1_isFull_15 (by decide) ?_
    refine g_asi (show _ = bI false from bI_f') ?_
    exact hret (some (.int (bI false))) _ _ (by rw [decide_eq_false (by omega)]) (rt_z dX1_isFull_16)
  · have c1 : lim ≤ n := Nat.not_lt.mp (fun z => c1 ((nI_ltI (by omega) (by omega)).mpr z))
    refine lv_iconst (v := nI 1) hx hb dX1_isFull_11 (by decide) ?_
    refine lv_goto (tgt := 16) hx hb dX1_isFull_12 (by decide) ?_
    refine g_asi (show _ = bI true from bI_t') ?_
    exact hret (some (.int (bI true))) _ _ (by rw [decide_eq_true (by omega)]) (rt_z dX1_isFull_16)

set_option maxHeartbeats 4000000 in
set_option maxRecDepth 100000 in
theorem c_isAheadL (l : Launch) (Γ : gG) (K : gK) (F : gF) (h ai ad : Nat) (x y : Nat × Int64) (i : Nat) (hk : K h = some (1, 0)) (hai : K ai = some (8, 100)) (had : K ad = some (9, 100)) (h0 : F h 0 = .ref ai) (h1 : F h 1 = .ref ad) (hyi : F ai i = .int (nI y.1)) (hyd : F ad i = .long y.2) (hi : i < 100) (hx1 : x.1 < 100) (hy1 : y.1 < 100) : gMR l yX1_isAhead wsX1_isAhead 0 Γ K F [.ref h, .int (nI x.1), .long x.2, .int (nI i)] (some (.int (bI (lAhead x y)))) := by
  refine g_mR (cc := cX1_isAhead) (maxL := 5) (ret := (some .boolean)) (by decide) rfl (Nat.le_of_ble_eq_true rfl) ?_
  intro p e s m args below meth c ls Z hx hb hts hown hml hN hP hret hl
  have hl : lv_has ls 5 [(0, .ref h), (1, .int (nI x.1)), (2, .long x.2), (4, .int (nI i))] := hl
  have hown : s.vm.findClass RX1 = some m.cls := hown
  have hi1 : ∀ w ∈ wsX10, w ∈ wsX1_isAhead := by decide +kernel
  have hfX1_9 : Cond.fieldLink RX1 9 (TX1 0).1 (TX1 0).2.1 (TX1 0).2.2.1 ∈ wsX1_isAhead := by decide +kernel
  have hfX1_15 : Cond.fieldLink RX1 15 (TX1 1).1 (TX1 1).2.1 (TX1 1).2.2.1 ∈ wsX1_isAhead := by decide +kernel
  refine lv_lload_n hx hb dX1_isAhead_0 rfl (lv_at hl 2 rfl) ?_
  refine lv_aload_n hx hb dX1_isAhead_1 rfl (lv_at hl 0 rfl) ?_
  refine g_get (C := RX1) (T := TX1) (N := 4) hx hb hts hi1 hown hN hP hk rfl (by decide) 1 (by decide) hfX1_15 (v := .ref ad) h1 dX1_isAhead_2 ?_
  refine lv_iload hx hb dX1_isAhead_5 (lv_at hl 3 rfl) ?_
  refine g_lald (j := i) hx hb hN hP had (by decide) (show _ = nI i from rfl) hi (v := .long y.2) hyd dX1_isAhead_7 ?_
  refine W.lcmp hx hb dX1_isAhead_8 ?_
  refine lv_if_lt (tgt := 35) hx hb dX1_isAhead_9 (by decide) (fun c1 => ?_) (fun c1 => ?_)
  · have c1 : _ := (lg_cmp_lt _ _).mp c1
    refine lv_iconst (v := nI 1) hx hb dX1_isAhead_35 (by decide) ?_
    refine lv_goto (tgt := 40) hx hb dX1_isAhead_36 (by decide) ?_
    refine g_asi (show _ = bI true from bI_t') ?_
    exact hret (some (.int (bI true))) _ _ (by simp [lAhead, c1]) (rt_z dX1_isAhead_40)
  · have c1 : ¬ _ := fun z => c1 ((lg_cmp_lt _ _).mpr z)
    refine lv_lload_n hx hb dX1_isAhead_12 rfl (lv_at hl 2 rfl) ?_
    refine lv_aload_n hx hb dX1_isAhead_13 rfl (lv_at hl 0 rfl) ?_
    refine g_get (C := RX1) (T := TX1) (N := 4) hx hb hts hi1 hown hN hP hk rfl (by decide) 1 (by decide) hfX1_15 (v := .ref ad) h1 dX1_isAhead_14 ?_
    refine lv_iload hx hb dX1_isAhead_17 (lv_at hl 3 rfl) ?_
    refine g_lald (j := i) hx hb hN hP had (by decide) (show _ = nI i from rfl) hi (v := .long y.2) hyd dX1_isAhead_19 ?_
    refine W.lcmp hx hb dX1_isAhead_20 ?_
    refine lv_if_ne (tgt := 39) hx hb dX1_isAhead_21 (by decide) (fun c2 => ?_) (fun c2 => ?_)
    · have c2 : ¬ _ := fun z => c2 ((lg_cmp_eq _ _).mpr z)
      refine lv_iconst (v := nI 0) hx hb dX1_isAhead_39 (by decide) ?_
      refine g_asi (show _ = bI false from bI_f') ?_
      exact hret (some (.int (bI false))) _ _ (by simp [lAhead, c1, c2]) (rt_z dX1_isAhead_40)
    · have c2 : _ := (lg_cmp_eq _ _).mp c2
      refine lv_iload_n hx hb dX1_isAhead_24 rfl (lv_at hl 1 rfl) ?_
      refine lv_aload_n hx hb dX1_isAhead_25 rfl (lv_at hl 0 rfl) ?_
      refine g_get (C := RX1) (T := TX1) (N := 4) hx hb hts hi1 hown hN hP hk rfl (by decide) 0 (by decide) hfX1_9 (v := .ref ai) h0 dX1_isAhead_26 ?_
      refine lv_iload hx hb dX1_isAhead_29 (lv_at hl 3 rfl) ?_
      refine g_iald (j := i) hx hb hN hP hai (by decide) (show _ = nI i from rfl) hi (v := .int (nI y.1)) hyi dX1_isAhead_31 ?_
      refine lv_icmp_ge (tgt := 39) hx hb dX1_isAhead_32 (by decide) (fun c3 => ?_) (fun c3 => ?_)
      · have c3 : y.1 ≤ x.1 := (nI_leI (by omega) (by omega)).mp c3
        refine lv_iconst (v := nI 0) hx hb dX1_isAhead_39 (by decide) ?_
        refine g_asi (show _ = bI false from bI_f') ?_
        exact hret (some (.int (bI false))) _ _ (by simp [lAhead, c1, c2, Nat.not_lt.mpr c3]) (rt_z dX1_isAhead_40)
      · have c3 : x.1 < y.1 := Nat.not_le.mp (fun z => c3 ((nI_leI (by omega) (by omega)).mpr z))
        refine lv_iconst (v := nI 1) hx hb dX1_isAhead_35 (by decide) ?_
        refine lv_goto (tgt := 40) hx hb dX1_isAhead_36 (by decide) ?_
        refine g_asi (show _ = bI true from bI_t') ?_
        exact hret (some (.int (bI true))) _ _ (by simp [lAhead, c2, c3]) (rt_z dX1_isAhead_40)

set_option maxHeartbeats 4000000 in
set_option maxRecDepth 100000 in
theorem c_shutsOut (l : Launch) (Γ : gG) (K : gK) (F : gF) (h ad n lim : Nat) (yd g : Int64) (hk : K h = some (1, 0)) (had : K ad = some (9, 100)) (h1 : F h 1 = .ref ad) (h2 : F h 2 = .int (nI n)) (h3 : F h 3 = .int (nI lim)) (hn : n ≤ 100) (hlim : lim ≤ 100) (hy : 0 < n → F ad (n - 1) = .long yd) : gMR l yX1_shutsOut wsX1_shutsOut 1 Γ K F [.ref h, .long g] (some (.int (bI (decide (lim ≤ n ∧ (n = 0 ∨ yd < g)))))) := by
  refine g_mR (cc := cX1_shutsOut) (maxL := 3) (ret := (some .boolean)) (by decide) rfl (Nat.le_of_ble_eq_true rfl) ?_
  intro p e s m args below meth c ls Z hx hb hts hown hml hN hP hret hl
  have hl : lv_has ls 3 [(0, .ref h), (1, .long g)] := hl
  have hown : s.vm.findClass RX1 = some m.cls := hown
  have hi1 : ∀ w ∈ wsX10, w ∈ wsX1_shutsOut := by decide +kernel
  have hfX1_15 : Cond.fieldLink RX1 15 (TX1 1).1 (TX1 1).2.1 (TX1 1).2.2.1 ∈ wsX1_shutsOut := by decide +kernel
  have hfX1_19 : Cond.fieldLink RX1 19 (TX1 2).1 (TX1 2).2.1 (TX1 2).2.2.1 ∈ wsX1_shutsOut := by decide +kernel
  refine lv_aload_n hx hb dX1_shutsOut_0 rfl (lv_at hl 0 rfl) ?_
  refine g_cV (v := (some (.int (bI (decide (lim ≤ n)))))) (As := []) (b := h) (rest := []) hx hb hml hown hts hN hP (c_isFull l Γ K F h n lim hk h2 h3 hn hlim) gX1_shutsOut_X1_isFull rfl hk (by decide) rfl (na := 0) rfl (by decide +kernel) ⟨by decide, by decide⟩ ⟨Nat.zero_le _, Nat.zero_le _⟩ rfl hl.1 (Nat.le_of_ble_eq_true rfl) dX1_shutsOut_1 ?_
  show W _ _ _ _ _ _ _ _ _ _ _ _ _ _ _ (F0 m 4 ls [.int (bI (decide (lim ≤ n)))])
  refine lv_if_eq (tgt := 35) hx hb dX1_shutsOut_4 (by decide) (fun c1 => ?_) (fun c1 => ?_)
  · have c1 : (decide (lim ≤ n)) = false := bI_0.mp c1
    have c1 := of_decide_eq_false c1
    refine lv_iconst (v := nI 0) hx hb dX1_shutsOut_35 (by decide) ?_
    refine g_asi (show _ = bI false from bI_f') ?_
    exact hret (some (.int (bI false))) _ _ (by rw [decide_eq_false (fun z => c1 z.1)]) (rt_z dX1_shutsOut_36)
  · have c1 : (decide (lim ≤ n)) = true := bI_n0.mp c1
    have c1 := of_decide_eq_true c1
    refine lv_aload_n hx hb dX1_shutsOut_7 rfl (lv_at hl 0 rfl) ?_
    refine g_get (C := RX1) (T := TX1) (N := 4) hx hb hts hi1 hown hN hP hk rfl (by decide) 2 (by decide) hfX1_19 (v := .int (nI n)) h2 dX1_shutsOut_8 ?_
    refine lv_iconst (v := nI 1) hx hb dX1_shutsOut_11 (by decide) ?_
    refine lv_icmp_lt (tgt := 31) hx hb dX1_shutsOut_12 (by decide) (fun c2 => ?_) (fun c2 => ?_)
    · have c2 : n < 1 := (nI_ltI (by omega) (by omega)).mp c2
      refine lv_iconst (v := nI 1) hx hb dX1_shutsOut_31 (by decide) ?_
      refine lv_goto (tgt := 36) hx hb dX1_shutsOut_32 (by decide) ?_
      refine g_asi (show _ = bI true from bI_t') ?_
      exact hret (some (.int (bI true))) _ _ (by rw [decide_eq_true ⟨c1, Or.inl (by omega)⟩]) (rt_z dX1_shutsOut_36)
    · have c2 : 1 ≤ n := Nat.not_lt.mp (fun z => c2 ((nI_ltI (by omega) (by omega)).mpr z))
      refine lv_lload_n hx hb dX1_shutsOut_15 rfl (lv_at hl 1 rfl) ?_
      refine lv_aload_n hx hb dX1_shutsOut_16 rfl (lv_at hl 0 rfl) ?_
      refine g_get (C := RX1) (T := TX1) (N := 4) hx hb hts hi1 hown hN hP hk rfl (by decide) 1 (by decide) hfX1_15 (v := .ref ad) h1 dX1_shutsOut_17 ?_
      refine lv_aload_n hx hb dX1_shutsOut_20 rfl (lv_at hl 0 rfl) ?_
      refine g_get (C := RX1) (T := TX1) (N := 4) hx hb hts hi1 hown hN hP hk rfl (by decide) 2 (by decide) hfX1_19 (v := .int (nI n)) h2 dX1_shutsOut_21 ?_
      refine lv_iconst (v := nI 1) hx hb dX1_shutsOut_24 (by decide) ?_
      refine lv_isub hx hb dX1_shutsOut_25 ?_
      refine g_asi (show _ = nI (n - 1) from pk_sub (by omega)) ?_
      refine g_lald (j := n - 1) hx hb hN hP had (by decide) (show _ = nI (n - 1) from rfl) (by omega) (v := .long yd) (hy (by omega)) dX1_shutsOut_26 ?_
      refine W.lcmp hx hb dX1_shutsOut_27 ?_
      refine lv_if_le (tgt := 35) hx hb dX1_shutsOut_28 (by decide) (fun c3 => ?_) (fun c3 => ?_)
      · have c3 : _ := (lg_cmp_le _ _).mp c3
        refine lv_iconst (v := nI 0) hx hb dX1_shutsOut_35 (by decide) ?_
        refine g_asi (show _ = bI false from bI_f') ?_
        exact hret (some (.int (bI false))) _ _ (by rw [decide_eq_false (fun z => z.2.elim (fun q => by omega) (fun q => Int64.not_lt.mpr c3 q))]) (rt_z dX1_shutsOut_36)
      · have c3 : ¬ _ := fun z => c3 ((lg_cmp_le _ _).mpr z)
        refine lv_iconst (v := nI 1) hx hb dX1_shutsOut_31 (by decide) ?_
        refine lv_goto (tgt := 36) hx hb dX1_shutsOut_32 (by decide) ?_
        refine g_asi (show _ = bI true from bI_t') ?_
        exact hret (some (.int (bI true))) _ _ (by rw [decide_eq_true ⟨c1, Or.inr (Int64.not_le.mp c3)⟩]) (rt_z dX1_shutsOut_36)

set_option maxHeartbeats 4000000 in
set_option maxRecDepth 100000 in
theorem c_empty (l : Launch) (Γ : gG) (K : gK) (F : gF) (sz : Nat) (h ai k : Nat) (hk : K h = some (1, 0)) (hai : K ai = some (8, 100)) (h0 : F h 0 = .ref ai) (hk1 : k ≤ 100) : gMM l yX1_empty wsX1_empty 1 0 0 Γ K F sz [.ref h, .int (nI k)] (fun v K' F' => v = none ∧ K' = K ∧ F' = gU (gU F h 2 (.int (nI 0))) h 3 (.int (nI k))) := by
  refine g_mM (cc := cX1_empty) (maxL := 2) (ret := none) (by decide) rfl (Nat.le_of_ble_eq_true rfl) ?_
  intro p e s m args below meth c ls Z hsz hx hb hts hown hml hnm hN hW hret hl
  have hl : lv_has ls 2 [(0, .ref h), (1, .int (nI k))] := hl
  have hown : s.vm.findClass RX1 = some m.cls := hown
  have hi1 : ∀ w ∈ wsX10, w ∈ wsX1_empty := by decide +kernel
  have hfX1_9 : Cond.fieldLink RX1 9 (TX1 0).1 (TX1 0).2.1 (TX1 0).2.2.1 ∈ wsX1_empty := by decide +kernel
  have hfX1_19 : Cond.fieldLink RX1 19 (TX1 2).1 (TX1 2).2.1 (TX1 2).2.2.1 ∈ wsX1_empty := by decide +kernel
  have hfX1_32 : Cond.fieldLink RX1 32 (TX1 3).1 (TX1 3).2.1 (TX1 3).2.2.1 ∈ wsX1_empty := by decide +kernel
  refine lv_aload_n hx hb dX1_empty_0 rfl (lv_at hl 0 rfl) ?_
  refine lv_iconst (v := nI 0) hx hb dX1_empty_1 (by decide) ?_
  refine g_put (C := RX1) (T := TX1) (N := 4) hx hb hts hi1 tyX1 tyX1_ok nmX1 hown hN hW hk rfl (by decide) 2 (by decide) hfX1_19 rfl rfl rfl dX1_empty_2 (fun H locs hW => ?_)
  refine lv_aload_n hx hb dX1_empty_5 rfl (lv_at hl 0 rfl) ?_
  refine lv_iconst (v := nI 0) hx hb dX1_empty_6 (by decide) ?_
  refine lv_aload_n hx hb dX1_empty_7 rfl (lv_at hl 0 rfl) ?_
  refine g_get (C := RX1) (T := TX1) (N := 4) hx hb hts hi1 hown hN hW.1 hk rfl (by decide) 0 (by decide) hfX1_9 (v := .ref ai) ((gU_k (by decide)).trans h0) dX1_empty_8 ?_
  refine g_alen (t := 0) hx hb hN hW.1 hai rfl dX1_empty_11 ?_
  refine lv_iload_n hx hb dX1_empty_12 rfl (lv_at hl 1 rfl) ?_
  refine va_mmin hx hb (hml.trans hl.1.symm) hown (hts _ (show Cond.methodLink RX1 23 Lib.Math.min.name ∈ _ by decide +kernel)) (hts _ (by decide +kernel)) (hts _ (by decide +kernel)) (hts _ (by decide +kernel)) (by decide) (Nat.le_of_ble_eq_true rfl) (Nat.zero_le _) (Nat.zero_le _) dX1_empty_13 ?_
  refine g_asi (show _ = nI (min 100 k) from mx_min (by decide) (by omega)) ?_
  refine va_mmax hx hb (hml.trans hl.1.symm) hown (hts _ (show Cond.methodLink RX1 29 Lib.Math.max.name ∈ _ by decide +kernel)) (hts _ (by decide +kernel)) (hts _ (by decide +kernel)) (hts _ (by decide +kernel)) (by decide) (Nat.le_of_ble_eq_true rfl) (Nat.zero_le _) (Nat.zero_le _) dX1_empty_16 ?_
  refine g_asi (show _ = nI (max 0 (min 100 k)) from mx_max (by decide) (by omega)) ?_
  refine g_asi (show _ = nI k from by rw [show max 0 (min 100 k) = k by omega]) ?_
  refine g_put (C := RX1) (T := TX1) (N := 4) hx hb hts hi1 tyX1 tyX1_ok nmX1 hown hN hW hk rfl (by decide) 3 (by decide) hfX1_32 rfl rfl rfl dX1_empty_19 (fun H locs hW => ?_)
  exact hret none _ _ _ _ _ _ hW (⟨rfl, rfl, rfl⟩) (rt_v dX1_empty_22)

def offI (F F1 : gF) (h ai ad lim n : Nat) (P Q : List (Nat × Int64)) : Prop :=
  P.length = n ∧ n + Q.length + 1 ≤ lim ∧ F1 h 0 = .ref ai ∧ F1 h 1 = .ref ad ∧ F1 h 2 = .int (nI (n + Q.length + 1)) ∧ F1 h 3 = .int (nI lim) ∧ rowL F1 ai 0 (P.map vId) ∧ rowL F1 ad 0 (P.map vDi) ∧ rowL F1 ai (n + 1) (Q.map vId) ∧ rowL F1 ad (n + 1) (Q.map vDi) ∧ ∀ b j, b ≠ h → b ≠ ai → b ≠ ad → F1 b j = F b j
theorem offI.last {F F1 : gF} {h ai ad lim n : Nat} {P Q : List (Nat × Int64)} {z : Nat × Int64} (H : offI F F1 h ai ad lim (n + 1) (P ++ [z]) Q) : F1 ai n = .int (nI z.1) ∧ F1 ad n = .long z.2 := by
  obtain ⟨h1, -, -, -, -, -, h2, h3, -⟩ := H
  have e : P.length = n := by simpa using h1
  rw [List.map_append] at h2 h3
  have a := rowL.last (v := vId z) h2
  have b := rowL.last (v := vDi z) h3
  rw [List.length_map, e, Nat.zero_add] at a b
  exact ⟨a, b⟩
theorem offI.shift {F F1 : gF} {h ai ad lim n : Nat} {P Q : List (Nat × Int64)} {z : Nat × Int64} (d1 : h ≠ ai) (d2 : h ≠ ad) (d3 : ai ≠ ad) (H : offI F F1 h ai ad lim (n + 1) (P ++ [z]) Q) : offI F (gU (gU F1 ai (n + 1) (.int (nI z.1))) ad (n + 1) (.long z.2)) h ai ad lim n P (z :: Q) := by
  obtain ⟨h1, h2, h3, h4, h5, h6, h7, h8, h9, h10, h11⟩ := H
  have e : P.length = n := by simpa using h1
  have k : ∀ j, gU (gU F1 ai (n + 1) (.int (nI z.1))) ad (n + 1) (.long z.2) h j = F1 h j := fun j => by rw [gU_a d2, gU_a d1]
  rw [List.map_append] at h7 h8
  refine ⟨e, by simp; omega, by rw [k, h3], by rw [k, h4], by rw [k, h5, List.length_cons, show n + 1 + Q.length + 1 = n + (Q.length + 1) + 1 by omega], by rw [k, h6], ?_, ?_, ?_, ?_, fun b j b1 b2 b3 => by rw [gU_a b3, gU_a b2, h11 b j b1 b2 b3]⟩
  · exact (h7.left.up (Or.inr (Or.inr (by simp; omega)))).up (Or.inl (Ne.symm d3))
  · exact (h8.left.up (Or.inl d3)).up (Or.inr (Or.inr (by simp; omega)))
  · have q := rowL.shift (v := vId z) (o := 0) h7 (Q := Q.map vId) (by simpa [e] using h9)
    have q2 := q.2
    simp only [List.length_map, e, Nat.zero_add] at q2
    exact rowL.up q2 (Or.inl (Ne.symm d3))
  · have q := rowL.shift (v := vDi z) (o := 0) (F := gU F1 ai (n + 1) (.int (nI z.1))) (h8.up (Or.inl d3)) (Q := Q.map vDi) (by simpa [e] using h10.up (Or.inl d3))
    have q2 := q.2
    simp only [List.length_map, e, Nat.zero_add] at q2
    exact q2
theorem offI.fill {K : gK} {F F1 : gF} {h ai ad lim n : Nat} {P Q : List (Nat × Int64)} {x : Nat × Int64} (hk : K h = some (1, 0)) (hai : K ai = some (8, 100)) (had : K ad = some (9, 100)) (hlim : lim ≤ 100) (hid : ∀ y ∈ P ++ x :: Q, y.1 < 100) (H : offI F F1 h ai ad lim n P Q) :
    lsR K (gU (gU F1 ai n (.int (nI x.1))) ad n (.long x.2)) h ai ad (P ++ x :: Q) lim ∧ ∀ b j, b ≠ h → b ≠ ai → b ≠ ad → gU (gU F1 ai n (.int (nI x.1))) ad n (.long x.2) b j = F b j := by
  have d1 := kne hk hai (by decide)
  have d2 := kne hk had (by decide)
  have d3 := kne hai had (by decide)
  obtain ⟨h1, h2, h3, h4, h5, h6, h7, h8, h9, h10, h11⟩ := H
  have k : ∀ j, gU (gU F1 ai n (.int (nI x.1))) ad n (.long x.2) h j = F1 h j := fun j => by rw [gU_a d2, gU_a d1]
  refine ⟨⟨hk, hai, had, by rw [k, h3], by rw [k, h4], by rw [k, h5, List.length_append, List.length_cons, h1]; rfl, by rw [k, h6], ?_, ?_, by rw [List.length_append, List.length_cons, h1]; omega, hlim, hid⟩, fun b j b1 b2 b3 => by rw [gU_a b3, gU_a b2, h11 b j b1 b2 b3]⟩
  · have q := rowL.fill (v := vId x) h7 (Q := Q.map vId) (by simpa [h1] using h9)
    simp only [List.length_map, h1, Nat.zero_add] at q
    rw [List.map_append, List.map_cons]
    exact q.up (Or.inl (Ne.symm d3))
  · have q := rowL.fill (F := gU F1 ai n (.int (nI x.1))) (v := vDi x) (h8.up (Or.inl d3)) (Q := Q.map vDi) (by simpa [h1] using h10.up (Or.inl d3))
    simp only [List.length_map, h1, Nat.zero_add] at q
    rw [List.map_append, List.map_cons]
    exact q
theorem offL_zero {x : Nat × Int64} {S : List (Nat × Int64)} {lim : Nat} (h : S.length ≤ lim) (h0 : lim < 1) : offL lim x S = S := by
  have e : lim = 0 := by omega
  subst e
  rw [List.length_eq_zero_iff.mp (show S.length = 0 by omega)]
  rfl
theorem offL_room {x : Nat × Int64} {S : List (Nat × Int64)} {lim : Nat} (h : S.length < lim) : insR lAhead x S = offL lim x S := by
  unfold offL
  rw [List.take_of_length_le (by rw [insR_len]; omega)]
theorem insR_passed {α : Type} {lt : α → α → Bool} {x z : α} (hz : lt x z = true) : ∀ S : List α, insR lt x (S ++ [z]) = insR lt x S ++ [z]
  | [] => by simp [insR, hz]
  | y :: ys => by
    show insR lt x (y :: (ys ++ [z])) = insR lt x (y :: ys) ++ [z]
    unfold insR
    have e : (y :: (ys ++ [z])).all (lt x) = (y :: ys).all (lt x) := by simp [List.all_append, hz]
    rw [e]
    by_cases q : (y :: ys).all (lt x) = true
    · rw [if_pos q, if_pos q]; rfl
    · rw [if_neg q, if_neg q, insR_passed hz ys]; rfl
theorem offL_full {x z : Nat × Int64} {S : List (Nat × Int64)} {lim : Nat} (h : S.length + 1 = lim) (hz : lAhead x z = true) : insR lAhead x S = offL lim x (S ++ [z]) := by
  unfold offL
  rw [insR_passed hz, List.take_left' (by rw [insR_len]; exact h)]
theorem offL_shut {x z : Nat × Int64} {S : List (Nat × Int64)} {lim : Nat} (h : S.length + 1 = lim) (hz : lAhead x z = false) : offL lim x (S ++ [z]) = S ++ [z] := by
  unfold offL
  have := insR_eq (P := S) (Q := []) (x := x) (z := z) (lt := lAhead) (fun q h => by cases h) hz
  rw [List.append_nil] at this
  rw [this, List.take_left' (by simp; exact h)]
theorem offL_mem {x y : Nat × Int64} {S : List (Nat × Int64)} {lim : Nat} (h : y ∈ offL lim x S) : y = x ∨ y ∈ S := insR_mem.mp (List.mem_of_mem_take h)
theorem offL_len {x : Nat × Int64} {S : List (Nat × Int64)} {lim : Nat} : (offL lim x S).length ≤ lim := by
  unfold offL
  rw [List.length_take]
  omega
theorem snoc_of {α : Type} {S : List α} {n : Nat} (h : S.length = n + 1) : ∃ P z, S = P ++ [z] ∧ P.length = n := by
  rcases List.eq_nil_or_concat S with rfl | ⟨P, z, rfl⟩
  · simp at h
  · exact ⟨P, z, List.concat_eq_append, by simpa using h⟩
theorem offI.init {K : gK} {F : gF} {h ai ad lim n : Nat} {S T : List (Nat × Int64)} (hL : lsR K F h ai ad (S ++ T) lim) (hn : S.length = n) (hl : n + 1 ≤ lim) : offI F (gU F h 2 (.int (nI (n + 1)))) h ai ad lim n S [] := by
  obtain ⟨hk, hai, had, h0, h1, h2, h3, h4, h5, h6, h7, h8⟩ := hL
  have d1 := kne hk hai (by decide)
  have d2 := kne hk had (by decide)
  rw [List.map_append] at h4 h5
  exact ⟨hn, hl, by rw [gU_k (by decide), h0], by rw [gU_k (by decide), h1], gU_self, by rw [gU_k (by decide), h3], h4.left.up (Or.inl d1), h5.left.up (Or.inl d2), rowL.nil, rowL.nil, fun b j b1 _ _ => gU_a b1⟩

set_option maxHeartbeats 4000000 in
set_option maxRecDepth 100000 in
theorem c_offer (l : Launch) (Γ : gG) (K : gK) (F : gF) (sz : Nat) (h ai ad : Nat) (x : Nat × Int64) (S : List (Nat × Int64)) (lim : Nat) (hL : lsR K F h ai ad S lim) (hx1 : x.1 < 100) : gMM l yX1_offer wsX1_offer 1 0 0 Γ K F sz [.ref h, .int (nI x.1), .long x.2] (fun v K' F' => v = none ∧ K' = K ∧ lsR K F' h ai ad (offL lim x S) lim ∧ ∀ b j, b ≠ h → b ≠ ai → b ≠ ad → F' b j = F b j) := by
  refine g_mM (cc := cX1_offer) (maxL := 5) (ret := none) (by decide) rfl (Nat.le_of_ble_eq_true rfl) ?_
  intro p e s m args below meth c ls Z hsz hx hb hts hown hml hnm hN hW hret hl
  have hl : lv_has ls 5 [(0, .ref h), (1, .int (nI x.1)), (2, .long x.2)] := hl
  have hown : s.vm.findClass RX1 = some m.cls := hown
  have hi1 : ∀ w ∈ wsX10, w ∈ wsX1_offer := by decide +kernel
  have hfX1_9 : Cond.fieldLink RX1 9 (TX1 0).1 (TX1 0).2.1 (TX1 0).2.2.1 ∈ wsX1_offer := by decide +kernel
  have hfX1_15 : Cond.fieldLink RX1 15 (TX1 1).1 (TX1 1).2.1 (TX1 1).2.2.1 ∈ wsX1_offer := by decide +kernel
  have hfX1_19 : Cond.fieldLink RX1 19 (TX1 2).1 (TX1 2).2.1 (TX1 2).2.2.1 ∈ wsX1_offer := by decide +kernel
  have hfX1_32 : Cond.fieldLink RX1 32 (TX1 3).1 (TX1 3).2.1 (TX1 3).2.2.1 ∈ wsX1_offer := by decide +kernel
  obtain ⟨hk, hai, had, h0, h1, h2, h3, h4, h5, h6, h7, h8⟩ := hL
  have d1 := kne hk hai (by decide)
  have d2 := kne hk had (by decide)
  have d3 := kne hai had (by decide)
  have fin : ∀ (n : Nat) (P Q : List (Nat × Int64)) (F1 : gF) (H : Heap) (locs : List Loc) (ls : Array Slot), offI F F1 h ai ad lim n P Q → offL lim x S = P ++ x :: Q → gW Γ (gA K sz) s.heap K F1 H locs → lv_has ls 5 [(4, .int (nI n)), (0, .ref h), (1, .int (nI x.1)), (2, .long x.2)] → W p l e (gRm 1 0 0) s m args below meth c H locs 0 0 Z (F0 m 117 ls []) := by
    intro n P Q F1 H locs ls hI hres hW hl
    obtain ⟨i1, i2, i3, i4, i5, i6, i7, i8, i9, i10, i11⟩ := id hI
    refine lv_aload_n hx hb dX1_offer_117 rfl (lv_at hl 1 rfl) ?_
    refine g_get (C := RX1) (T := TX1) (N := 4) hx hb hts hi1 hown hN hW.1 hk rfl (by decide) 0 (by decide) hfX1_9 (v := .ref ai) i3 dX1_offer_118 ?_
    refine lv_iload hx hb dX1_offer_121 (lv_at hl 0 rfl) ?_
    refine lv_iload_n hx hb dX1_offer_123 rfl (lv_at hl 2 rfl) ?_
    refine g_iast (j := n) hx hb hN hW hai (by decide) (show _ = nI n from rfl) (by omega) dX1_offer_124 (fun H locs hW => ?_)
    refine lv_aload_n hx hb dX1_offer_125 rfl (lv_at hl 1 rfl) ?_
    refine g_get (C := RX1) (T := TX1) (N := 4) hx hb hts hi1 hown hN hW.1 hk rfl (by decide) 1 (by decide) hfX1_15 (v := .ref ad) ((gU_a d1).trans i4) dX1_offer_126 ?_
    refine lv_iload hx hb dX1_offer_129 (lv_at hl 0 rfl) ?_
    refine lv_lload_n hx hb dX1_offer_131 rfl (lv_at hl 3 rfl) ?_
    refine g_last (j := n) hx hb hN hW had (by decide) (show _ = nI n from rfl) (by omega) dX1_offer_132 (fun H locs hW => ?_)
    have q := hI.fill hk hai had h7 (x := x) (fun y hy => by
      rw [← hres] at hy
      rcases offL_mem hy with rfl | hy
      · exact hx1
      · exact h8 y hy)
    exact hret none _ _ _ _ _ _ hW (⟨rfl, rfl, by rw [hres]; exact q.1, q.2⟩) (rt_v dX1_offer_133)
  have loop : ∀ (n : Nat) (P Q : List (Nat × Int64)) (F1 : gF) (H : Heap) (locs : List Loc) (ls : Array Slot), offI F F1 h ai ad lim n P Q → insR lAhead x (P ++ Q) = offL lim x S → (∀ y ∈ P ++ Q, y ∈ S) → (∀ q ∈ Q, lAhead x q = true) → gW Γ (gA K sz) s.heap K F1 H locs → lv_has ls 5 [(4, .int (nI n)), (0, .ref h), (1, .int (nI x.1)), (2, .long x.2)] → W p l e (gRm 1 0 0) s m args below meth c H locs 0 0 Z (F0 m 61 ls []) := by
    intro n
    induction n with
    | zero =>
      intro P Q F1 H locs ls hI hS hsub hQ hW hl
      refine lv_iload hx hb dX1_offer_61 (lv_at hl 0 rfl) ?_
      refine lv_if_le (tgt := 117) hx hb dX1_offer_63 (by decide) (fun c1 => ?_) (fun c1 => ?_)
      · have c1 : 0 = 0 := (nI_le0 (by omega)).mp c1
        obtain rfl : P = [] := List.length_eq_zero_iff.mp hI.1
        exact fin 0 [] Q F1 H locs ls hI (by rw [← hS, List.nil_append, insR_all hQ]; rfl) hW hl
      · have c1 : 0 < 0 := Nat.pos_of_ne_zero (fun z => c1 ((nI_le0 (by omega)).mpr z))
        exact absurd c1 (by omega)
    | succ n ih =>
      intro P Q F1 H locs ls hI hS hsub hQ hW hl
      have hb1 := hI.2.1
      refine lv_iload hx hb dX1_offer_61 (lv_at hl 0 rfl) ?_
      refine lv_if_le (tgt := 117) hx hb dX1_offer_63 (by decide) (fun c1 => ?_) (fun c1 => ?_)
      · have c1 : (n + 1) = 0 := (nI_le0 (by omega)).mp c1
        exact absurd c1 (by omega)
      · have c1 : 0 < (n + 1) := Nat.pos_of_ne_zero (fun z => c1 ((nI_le0 (by omega)).mpr z))
        obtain ⟨P, z, rfl, hPn⟩ := snoc_of hI.1
        obtain ⟨i1, i2, i3, i4, i5, i6, i7, i8, i9, i10, i11⟩ := id hI
        have hl2 := hI.last
        have hz1 : z.1 < 100 := h8 z (hsub z (by simp))
        refine lv_aload_n hx hb dX1_offer_66 rfl (lv_at hl 1 rfl) ?_
        refine lv_iload_n hx hb dX1_offer_67 rfl (lv_at hl 2 rfl) ?_
        refine lv_lload_n hx hb dX1_offer_68 rfl (lv_at hl 3 rfl) ?_
        refine lv_iload hx hb dX1_offer_69 (lv_at hl 0 rfl) ?_
        refine lv_iconst (v := nI 1) hx hb dX1_offer_71 (by decide) ?_
        refine lv_isub hx hb dX1_offer_72 ?_
        refine g_asi (show _ = nI n from pk_sub (by omega)) ?_
        refine g_cV (v := (some (.int (bI (lAhead x z))))) (As := [.int (nI x.1), .long x.2, .int (nI n)]) (b := h) (rest := []) hx hb hml hown hts hN hW.1 (c_isAheadL l Γ K F1 h ai ad x z n hk hai had i3 i4 hl2.1 hl2.2 (by omega) hx1 hz1) gX1_offer_X1_isAhead rfl hk (by decide) rfl (na := 3) rfl (by decide +kernel) ⟨by decide, by decide⟩ ⟨Nat.zero_le _, Nat.zero_le _⟩ rfl hl.1 (Nat.le_of_ble_eq_true rfl) dX1_offer_73 ?_
        show W _ _ _ _ _ _ _ _ _ _ _ _ _ _ _ (F0 m 76 ls [.int (bI (lAhead x z))])
        refine lv_if_eq (tgt := 117) hx hb dX1_offer_76 (by decide) (fun c2 => ?_) (fun c2 => ?_)
        · have c2 : (lAhead x z) = false := bI_0.mp c2
          exact fin (n + 1) (P ++ [z]) Q F1 H locs ls hI (by rw [← hS, insR_eq hQ c2]) hW hl
        · have c2 : (lAhead x z) = true := bI_n0.mp c2
          refine lv_aload_n hx hb dX1_offer_79 rfl (lv_at hl 1 rfl) ?_
          refine g_get (C := RX1) (T := TX1) (N := 4) hx hb hts hi1 hown hN hW.1 hk rfl (by decide) 0 (by decide) hfX1_9 (v := .ref ai) i3 dX1_offer_80 ?_
          refine lv_iload hx hb dX1_offer_83 (lv_at hl 0 rfl) ?_
          refine lv_aload_n hx hb dX1_offer_85 rfl (lv_at hl 1 rfl) ?_
          refine g_get (C := RX1) (T := TX1) (N := 4) hx hb hts hi1 hown hN hW.1 hk rfl (by decide) 0 (by decide) hfX1_9 (v := .ref ai) i3 dX1_offer_86 ?_
          refine lv_iload hx hb dX1_offer_89 (lv_at hl 0 rfl) ?_
          refine lv_iconst (v := nI 1) hx hb dX1_offer_91 (by decide) ?_
          refine lv_isub hx hb dX1_offer_92 ?_
          refine g_asi (show _ = nI n from pk_sub (by omega)) ?_
          refine g_iald (j := n) hx hb hN hW.1 hai (by decide) (show _ = nI n from rfl) (by omega) (v := .int (nI z.1)) hl2.1 dX1_offer_93 ?_
          refine g_iast (j := n + 1) hx hb hN hW hai (by decide) (show _ = nI (n + 1) from rfl) (by omega) dX1_offer_94 (fun H locs hW => ?_)
          refine lv_aload_n hx hb dX1_offer_95 rfl (lv_at hl 1 rfl) ?_
          refine g_get (C := RX1) (T := TX1) (N := 4) hx hb hts hi1 hown hN hW.1 hk rfl (by decide) 1 (by decide) hfX1_15 (v := .ref ad) ((gU_a d1).trans i4) dX1_offer_96 ?_
          refine lv_iload hx hb dX1_offer_99 (lv_at hl 0 rfl) ?_
          refine lv_aload_n hx hb dX1_offer_101 rfl (lv_at hl 1 rfl) ?_
          refine g_get (C := RX1) (T := TX1) (N := 4) hx hb hts hi1 hown hN hW.1 hk rfl (by decide) 1 (by decide) hfX1_15 (v := .ref ad) ((gU_a d1).trans i4) dX1_offer_102 ?_
          refine lv_iload hx hb dX1_offer_105 (lv_at hl 0 rfl) ?_
          refine lv_iconst (v := nI 1) hx hb dX1_offer_107 (by decide) ?_
          refine lv_isub hx hb dX1_offer_108 ?_
          refine g_asi (show _ = nI n from pk_sub (by omega)) ?_
          refine g_lald (j := n) hx hb hN hW.1 had (by decide) (show _ = nI n from rfl) (by omega) (v := .long z.2) ((gU_a (Ne.symm d3)).trans hl2.2) dX1_offer_109 ?_
          refine g_last (j := n + 1) hx hb hN hW had (by decide) (show _ = nI (n + 1) from rfl) (by omega) dX1_offer_110 (fun H locs hW => ?_)
          refine lv_iinc (v := nI n) (lv' := [(4, .int (nI n)), (0, .ref h), (1, .int (nI x.1)), (2, .long x.2)]) hx hb dX1_offer_111 hl (k := 0) rfl (dec1s _) (by decide) rfl (fun ls hl => ?_)
          refine lv_goto (tgt := 61) hx hb dX1_offer_114 (by decide) ?_
          exact ih P (z :: Q) _ H locs ls (hI.shift d1 d2 d3) (by rw [← hS]; simp) (fun y hy => hsub y (by simpa using hy)) (fun q hq => by
            rcases List.mem_cons.mp hq with rfl | hq
            · exact c2
            · exact hQ q hq) hW (lv_sub hl [0, 1, 2, 3] rfl)
  refine lv_aload_n hx hb dX1_offer_0 rfl (lv_at hl 0 rfl) ?_
  refine g_get (C := RX1) (T := TX1) (N := 4) hx hb hts hi1 hown hN hW.1 hk rfl (by decide) 3 (by decide) hfX1_32 (v := .int (nI lim)) h3 dX1_offer_1 ?_
  refine lv_iconst (v := nI 1) hx hb dX1_offer_4 (by decide) ?_
  refine lv_icmp_lt (tgt := 30) hx hb dX1_offer_5 (by decide) (fun c1 => ?_) (fun c1 => ?_)
  · have c1 : lim < 1 := (nI_ltI (by omega) (by omega)).mp c1
    exact hret none _ _ _ _ _ _ hW (⟨rfl, rfl, by rw [offL_zero h6 c1]; exact ⟨hk, hai, had, h0, h1, h2, h3, h4, h5, h6, h7, h8⟩, fun _ _ _ _ _ => rfl⟩) (rt_v dX1_offer_30)
  · have c1 : 1 ≤ lim := Nat.not_lt.mp (fun z => c1 ((nI_ltI (by omega) (by omega)).mpr z))
    refine lv_aload_n hx hb dX1_offer_8 rfl (lv_at hl 0 rfl) ?_
    refine g_cV (v := (some (.int (bI (decide (lim ≤ S.length)))))) (As := []) (b := h) (rest := []) hx hb hml hown hts hN hW.1 (c_isFull l Γ K F h S.length lim hk h2 h3 (by omega) h7) gX1_offer_X1_isFull rfl hk (by decide) rfl (na := 0) rfl (by decide +kernel) ⟨by decide, by decide⟩ ⟨Nat.zero_le _, Nat.zero_le _⟩ rfl hl.1 (Nat.le_of_ble_eq_true rfl) dX1_offer_9 ?_
    show W _ _ _ _ _ _ _ _ _ _ _ _ _ _ _ (F0 m 12 ls [.int (bI (decide (lim ≤ S.length)))])
    refine lv_if_eq (tgt := 31) hx hb dX1_offer_12 (by decide) (fun c2 => ?_) (fun c2 => ?_)
    · have c2 : (decide (lim ≤ S.length)) = false := bI_0.mp c2
      have c2 := of_decide_eq_false c2
      refine lv_aload_n hx hb dX1_offer_31 rfl (lv_at hl 0 rfl) ?_
      refine g_cV (v := (some (.int (bI (decide (lim ≤ S.length)))))) (As := []) (b := h) (rest := []) hx hb hml hown hts hN hW.1 (c_isFull l Γ K F h S.length lim hk h2 h3 (by omega) h7) gX1_offer_X1_isFull rfl hk (by decide) rfl (na := 0) rfl (by decide +kernel) ⟨by decide, by decide⟩ ⟨Nat.zero_le _, Nat.zero_le _⟩ rfl hl.1 (Nat.le_of_ble_eq_true rfl) dX1_offer_32 ?_
      show W _ _ _ _ _ _ _ _ _ _ _ _ _ _ _ (F0 m 35 ls [.int (bI (decide (lim ≤ S.length)))])
      refine lv_if_eq (tgt := 47) hx hb dX1_offer_35 (by decide) (fun c3 => ?_) (fun c3 => ?_)
      · have c3 : (decide (lim ≤ S.length)) = false := bI_0.mp c3
        refine lv_aload_n hx hb dX1_offer_47 rfl (lv_at hl 0 rfl) ?_
        refine g_get (C := RX1) (T := TX1) (N := 4) hx hb hts hi1 hown hN hW.1 hk rfl (by decide) 2 (by decide) hfX1_19 (v := .int (nI S.length)) h2 dX1_offer_48 ?_
        refine lv_istore (lv' := [(4, .int (nI S.length)), (0, .ref h), (1, .int (nI x.1)), (2, .long x.2)]) hx hb dX1_offer_51 hl (by decide) rfl (fun ls hl => ?_)
        refine lv_aload_n hx hb dX1_offer_53 rfl (lv_at hl 1 rfl) ?_
        refine lv_iload hx hb dX1_offer_54 (lv_at hl 0 rfl) ?_
        refine lv_iconst (v := nI 1) hx hb dX1_offer_56 (by decide) ?_
        refine lv_iadd hx hb dX1_offer_57 ?_
        refine g_asi (show _ = nI (S.length + 1) from (nI_add _ _).trans (by rfl)) ?_
        refine g_put (C := RX1) (T := TX1) (N := 4) hx hb hts hi1 tyX1 tyX1_ok nmX1 hown hN hW hk rfl (by decide) 2 (by decide) hfX1_19 rfl rfl rfl dX1_offer_58 (fun H locs hW => ?_)
        exact loop S.length S [] _ H locs ls (offI.init (T := []) (by rw [List.append_nil]; exact ⟨hk, hai, had, h0, h1, h2, h3, h4, h5, h6, h7, h8⟩) rfl (by omega)) (by rw [List.append_nil]; exact offL_room (by omega)) (fun y hy => by simpa using hy) (fun q hq => by cases hq) hW (lv_sub hl [0, 1, 2, 3] rfl)
      · have c3 : (decide (lim ≤ S.length)) = true := bI_n0.mp c3
        exact absurd (of_decide_eq_true c3) c2
    · have c2 : (decide (lim ≤ S.length)) = true := bI_n0.mp c2
      have c2 := of_decide_eq_true c2
      obtain ⟨n, rfl⟩ : ∃ n, lim = n + 1 := ⟨lim - 1, by omega⟩
      obtain ⟨S, z, rfl, hSn⟩ := snoc_of (show S.length = n + 1 by omega)
      have hz1 : z.1 < 100 := h8 z (by simp)
      rw [List.map_append] at h4 h5
      have q1 := rowL.last (v := vId z) h4
      have q2 := rowL.last (v := vDi z) h5
      rw [List.length_map, hSn, Nat.zero_add] at q1 q2
      refine lv_aload_n hx hb dX1_offer_15 rfl (lv_at hl 0 rfl) ?_
      refine lv_iload_n hx hb dX1_offer_16 rfl (lv_at hl 1 rfl) ?_
      refine lv_lload_n hx hb dX1_offer_17 rfl (lv_at hl 2 rfl) ?_
      refine lv_aload_n hx hb dX1_offer_18 rfl (lv_at hl 0 rfl) ?_
      refine g_get (C := RX1) (T := TX1) (N := 4) hx hb hts hi1 hown hN hW.1 hk rfl (by decide) 3 (by decide) hfX1_32 (v := .int (nI (n + 1))) h3 dX1_offer_19 ?_
      refine lv_iconst (v := nI 1) hx hb dX1_offer_22 (by decide) ?_
      refine lv_isub hx hb dX1_offer_23 ?_
      refine g_asi (show _ = nI n from pk_sub (by omega)) ?_
      refine g_cV (v := (some (.int (bI (lAhead x z))))) (As := [.int (nI x.1), .long x.2, .int (nI n)]) (b := h) (rest := []) hx hb hml hown hts hN hW.1 (c_isAheadL l Γ K F h ai ad x z n hk hai had h0 h1 q1 q2 (by omega) hx1 hz1) gX1_offer_X1_isAhead rfl hk (by decide) rfl (na := 3) rfl (by decide +kernel) ⟨by decide, by decide⟩ ⟨Nat.zero_le _, Nat.zero_le _⟩ rfl hl.1 (Nat.le_of_ble_eq_true rfl) dX1_offer_24 ?_
      show W _ _ _ _ _ _ _ _ _ _ _ _ _ _ _ (F0 m 27 ls [.int (bI (lAhead x z))])
      refine lv_if_ne (tgt := 31) hx hb dX1_offer_27 (by decide) (fun c3 => ?_) (fun c3 => ?_)
      · have c3 : (lAhead x z) = true := bI_n0.mp c3
        refine lv_aload_n hx hb dX1_offer_31 rfl (lv_at hl 0 rfl) ?_
        refine g_cV (v := (some (.int (bI (decide (n + 1 ≤ (S ++ [z]).length)))))) (As := []) (b := h) (rest := []) hx hb hml hown hts hN hW.1 (c_isFull l Γ K F h (S ++ [z]).length (n + 1) hk h2 h3 (by omega) h7) gX1_offer_X1_isFull rfl hk (by decide) rfl (na := 0) rfl (by decide +kernel) ⟨by decide, by decide⟩ ⟨Nat.zero_le _, Nat.zero_le _⟩ rfl hl.1 (Nat.le_of_ble_eq_true rfl) dX1_offer_32 ?_
        show W _ _ _ _ _ _ _ _ _ _ _ _ _ _ _ (F0 m 35 ls [.int (bI (decide (n + 1 ≤ (S ++ [z]).length)))])
        refine lv_if_eq (tgt := 47) hx hb dX1_offer_35 (by decide) (fun c4 => ?_) (fun c4 => ?_)
        · have c4 : (decide (n + 1 ≤ (S ++ [z]).length)) = false := bI_0.mp c4
          exact absurd c2 (of_decide_eq_false c4)
        · have c4 : (decide (n + 1 ≤ (S ++ [z]).length)) = true := bI_n0.mp c4
          refine lv_aload_n hx hb dX1_offer_38 rfl (lv_at hl 0 rfl) ?_
          refine g_get (C := RX1) (T := TX1) (N := 4) hx hb hts hi1 hown hN hW.1 hk rfl (by decide) 3 (by decide) hfX1_32 (v := .int (nI (n + 1))) h3 dX1_offer_39 ?_
          refine lv_iconst (v := nI 1) hx hb dX1_offer_42 (by decide) ?_
          refine lv_isub hx hb dX1_offer_43 ?_
          refine g_asi (show _ = nI n from pk_sub (by omega)) ?_
          refine lv_goto (tgt := 51) hx hb dX1_offer_44 (by decide) ?_
          refine lv_istore (lv' := [(4, .int (nI n)), (0, .ref h), (1, .int (nI x.1)), (2, .long x.2)]) hx hb dX1_offer_51 hl (by decide) rfl (fun ls hl => ?_)
          refine lv_aload_n hx hb dX1_offer_53 rfl (lv_at hl 1 rfl) ?_
          refine lv_iload hx hb dX1_offer_54 (lv_at hl 0 rfl) ?_
          refine lv_iconst (v := nI 1) hx hb dX1_offer_56 (by decide) ?_
          refine lv_iadd hx hb dX1_offer_57 ?_
          refine g_asi (show _ = nI (n + 1) from (nI_add _ _).trans (by rfl)) ?_
          refine g_put (C := RX1) (T := TX1) (N := 4) hx hb hts hi1 tyX1 tyX1_ok nmX1 hown hN hW hk rfl (by decide) 2 (by decide) hfX1_19 rfl rfl rfl dX1_offer_58 (fun H locs hW => ?_)
          exact loop n S [] _ H locs ls (offI.init ⟨hk, hai, had, h0, h1, h2, h3, by rw [List.map_append]; exact h4, by rw [List.map_append]; exact h5, h6, h7, h8⟩ hSn (by omega)) (by rw [List.append_nil]; exact offL_full (by omega) c3) (fun y hy => by simp at hy; simp [hy]) (fun q hq => by cases hq) hW (lv_sub hl [0, 1, 2, 3] rfl)
      · have c3 : (lAhead x z) = false := bI_0.mp c3
        exact hret none _ _ _ _ _ _ hW (⟨rfl, rfl, by rw [offL_shut (by omega) c3]; exact ⟨hk, hai, had, h0, h1, h2, h3, by rw [List.map_append]; exact h4, by rw [List.map_append]; exact h5, h6, h7, h8⟩, fun _ _ _ _ _ => rfl⟩) (rt_v dX1_offer_30)
end
section
set_option maxHeartbeats 4000000 in
set_option maxRecDepth 100000 in
theorem c_nodeCount (l : Launch) (Γ : gG) (K : gK) (F : gF) (T d : Nat) (t : TT Nat) (hk : K T = some (5, 0)) (h2 : F T 2 = va_rf (tRt t)) (hC : CT F d t none 0) (hnk : ∀ a ∈ tPre t, K a = some (2, 0)) : gMR l yX5_nodeCount wsX5_nodeCount 1 Γ K F [.ref T] (some (.int (nI (tSz t)))) := by
  refine g_mR (cc := cX5_nodeCount) (maxL := 1) (ret := (some .int)) (by decide) rfl (Nat.le_of_ble_eq_true rfl) ?_
  intro p e s m args below meth c ls Z hx hb hts hown hml hN hP hret hl
  have hl : lv_has ls 1 [(0, .ref T)] := hl
  have hown : s.vm.findClass RX5 = some m.cls := hown
  have hi5 : ∀ w ∈ wsX50, w ∈ wsX5_nodeCount := by decide +kernel
  have hfX5_21 : Cond.fieldLink RX5 21 (TX5 2).1 (TX5 2).2.1 (TX5 2).2.2.1 ∈ wsX5_nodeCount := by decide +kernel
  refine lv_aload_n hx hb dX5_nodeCount_0 rfl (lv_at hl 0 rfl) ?_
  refine g_get (C := RX5) (T := TX5) (N := 4) hx hb hts hi5 hown hN hP hk rfl (by decide) 2 (by decide) hfX5_21 (v := va_rf (tRt t)) h2 dX5_nodeCount_1 ?_
  refine g_cS (v := (some (.int (nI (tSz t))))) (As := [va_rf (tRt t)]) (rest := []) hx hb hml hown hts hN hP (c_sizeOf l Γ K F (tRt t) (tSz t) tRt_none (fun a h => ⟨hnk a (tRt_mem h), CT_root hC h⟩)) gX5_nodeCount_X2_sizeOf rfl (na := 1) rfl (by decide +kernel) ⟨by decide, by decide⟩ ⟨Nat.zero_le _, Nat.zero_le _⟩ rfl hl.1 (Nat.le_of_ble_eq_true rfl) dX5_nodeCount_4 ?_
  show W _ _ _ _ _ _ _ _ _ _ _ _ _ _ _ (F0 m 7 ls [.int (nI (tSz t))])
  exact hret (some (.int (nI (tSz t)))) _ _ (rfl) (rt_i dX5_nodeCount_7)

set_option maxHeartbeats 4000000 in
set_option maxRecDepth 100000 in
theorem c_axisBehind (l : Launch) (Γ : gG) (K : gK) (F : gF) (T d ax : Nat) (hk : K T = some (5, 0)) (h0 : F T 0 = .int (nI d)) (hax : ax < d) (hd : d ≤ 4) : gMR l yX5_axisBehind wsX5_axisBehind 0 Γ K F [.ref T, .int (nI ax)] (some (.int (nI ((ax + 1) % d)))) := by
  refine g_mR (cc := cX5_axisBehind) (maxL := 2) (ret := (some .int)) (by decide) rfl (Nat.le_of_ble_eq_true rfl) ?_
  intro p e s m args below meth c ls Z hx hb hts hown hml hN hP hret hl
  have hl : lv_has ls 2 [(0, .ref T), (1, .int (nI ax))] := hl
  have hown : s.vm.findClass RX5 = some m.cls := hown
  have hi5 : ∀ w ∈ wsX50, w ∈ wsX5_axisBehind := by decide +kernel
  have hfX5_9 : Cond.fieldLink RX5 9 (TX5 0).1 (TX5 0).2.1 (TX5 0).2.2.1 ∈ wsX5_axisBehind := by decide +kernel
  refine lv_iload_n hx hb dX5_axisBehind_0 rfl (lv_at hl 1 rfl) ?_
  refine lv_iconst (v := nI 1) hx hb dX5_axisBehind_1 (by decide) ?_
  refine lv_iadd hx hb dX5_axisBehind_2 ?_
  refine g_asi (show _ = nI (ax + 1) from (nI_add _ _).trans (by rfl)) ?_
  refine lv_aload_n hx hb dX5_axisBehind_3 rfl (lv_at hl 0 rfl) ?_
  refine g_get (C := RX5) (T := TX5) (N := 4) hx hb hts hi5 hown hN hP hk rfl (by decide) 0 (by decide) hfX5_9 (v := .int (nI d)) h0 dX5_axisBehind_4 ?_
  refine lv_icmp_ge (tgt := 16) hx hb dX5_axisBehind_7 (by decide) (fun c1 => ?_) (fun c1 => ?_)
  · have c1 : d ≤ (ax + 1) := (nI_leI (by omega) (by omega)).mp c1
    refine lv_iconst (v := nI 0) hx hb dX5_axisBehind_16 (by decide) ?_
    exact hret (some (.int (nI 0))) _ _ (by rw [show (ax + 1) % d = 0 by rw [show ax + 1 = d by omega]; exact Nat.mod_self d]) (rt_i dX5_axisBehind_17)
  · have c1 : (ax + 1) < d := Nat.not_le.mp (fun z => c1 ((nI_leI (by omega) (by omega)).mpr z))
    refine lv_iload_n hx hb dX5_axisBehind_10 rfl (lv_at hl 1 rfl) ?_
    refine lv_iconst (v := nI 1) hx hb dX5_axisBehind_11 (by decide) ?_
    refine lv_iadd hx hb dX5_axisBehind_12 ?_
    refine g_asi (show _ = nI (ax + 1) from (nI_add _ _).trans (by rfl)) ?_
    refine lv_goto (tgt := 17) hx hb dX5_axisBehind_13 (by decide) ?_
    exact hret (some (.int (nI (ax + 1)))) _ _ (by rw [Nat.mod_eq_of_lt c1]) (rt_i dX5_axisBehind_17)

set_option maxHeartbeats 4000000 in
set_option maxRecDepth 100000 in
theorem c_isAheadT (l : Launch) (Γ : gG) (K : gK) (F : gF) (a b pa pb : Nat) (x y : gPt) (ax : Nat) (ha : ndD K F a pa x) (hb2 : ndD K F b pb y) (hax : ax < 4) : gMR l yX5_isAhead wsX5_isAhead 2 Γ K F [.ref a, .ref b, .int (nI ax)] (some (.int (bI (pLess ax x y)))) := by
  refine g_mR (cc := cX5_isAhead) (maxL := 3) (ret := (some .boolean)) (by decide) rfl (Nat.le_of_ble_eq_true rfl) ?_
  intro p e s m args below meth c ls Z hx hb hts hown hml hN hP hret hl
  have hl : lv_has ls 3 [(0, .ref a), (1, .ref b), (2, .int (nI ax))] := hl
  have hown : s.vm.findClass RX5 = some m.cls := hown
  refine lv_aload_n hx hb dX5_isAhead_0 rfl (lv_at hl 0 rfl) ?_
  refine lv_ifnull hx hb dX5_isAhead_1 ?_
  refine lv_aload_n hx hb dX5_isAhead_4 rfl (lv_at hl 1 rfl) ?_
  refine lv_ifnull hx hb dX5_isAhead_5 ?_
  refine lv_aload_n hx hb dX5_isAhead_8 rfl (lv_at hl 0 rfl) ?_
  refine lv_aload_n hx hb dX5_isAhead_9 rfl (lv_at hl 1 rfl) ?_
  refine lv_iload_n hx hb dX5_isAhead_10 rfl (lv_at hl 2 rfl) ?_
  refine g_cV (v := (some (.int (bI (pLess ax x y))))) (As := [.ref b, .int (nI ax)]) (b := a) (rest := []) hx hb hml hown hts hN hP (c_isLess l Γ K F a b pa pb x y ax ha hb2 hax) gX5_isAhead_X2_isLess rfl ha.1 (by decide) rfl (na := 2) rfl (by decide +kernel) ⟨by decide, by decide⟩ ⟨Nat.zero_le _, Nat.zero_le _⟩ rfl hl.1 (Nat.le_of_ble_eq_true rfl) dX5_isAhead_11 ?_
  show W _ _ _ _ _ _ _ _ _ _ _ _ _ _ _ (F0 m 14 ls [.int (bI (pLess ax x y))])
  refine lv_if_eq (tgt := 21) hx hb dX5_isAhead_14 (by decide) (fun c1 => ?_) (fun c1 => ?_)
  · have c1 : (pLess ax x y) = false := bI_0.mp c1
    refine lv_iconst (v := nI 0) hx hb dX5_isAhead_21 (by decide) ?_
    refine g_asi (show _ = bI false from bI_f') ?_
    exact hret (some (.int (bI false))) _ _ (by rw [c1]) (rt_z dX5_isAhead_22)
  · have c1 : (pLess ax x y) = true := bI_n0.mp c1
    refine lv_iconst (v := nI 1) hx hb dX5_isAhead_17 (by decide) ?_
    refine lv_goto (tgt := 22) hx hb dX5_isAhead_18 (by decide) ?_
    refine g_asi (show _ = bI true from bI_t') ?_
    exact hret (some (.int (bI true))) _ _ (by rw [c1]) (rt_z dX5_isAhead_22)

set_option maxHeartbeats 4000000 in
set_option maxRecDepth 100000 in
theorem c_nodeOnWalk (l : Launch) (Γ : gG) (K : gK) (F : gF) (r0 : Option Nat) (t : TT Nat) (d : Nat) (up : Option Nat) (dep k : Nat) (v : Option Nat) (hr0 : r0 = tRt t) (hC : CT F d t up dep) (hnk : ∀ a ∈ tPre t, K a = some (2, 0)) (hs : tSz t ≤ 1000) (hk31 : k < 2 ^ 31) (hv : (tPre t)[k]? = v) : gMR l yX5_nodeOnWalk wsX5_nodeOnWalk 1 Γ K F [va_rf r0, .int (nI k)] (some (va_rf v)) := by
  refine g_mR (cc := cX5_nodeOnWalk) (maxL := 5) (ret := (some (.object "NearTree$Node"))) (by decide) rfl (by cases r0 <;> exact Nat.le_of_ble_eq_true rfl) ?_
  intro p e s m args below meth c ls Z hx hb hts hown hml hN hP hret hl
  have hl : lv_has ls 5 [(0, va_rf r0), (1, .int (nI k))] := by cases r0 <;> exact hl
  have hown : s.vm.findClass RX5 = some m.cls := hown
  have hi2 : ∀ w ∈ wsX20, w ∈ wsX5_nodeOnWalk := by decide +kernel
  have hfX5_53 : Cond.fieldLink RX5 53 (TX2 7).1 (TX2 7).2.1 (TX2 7).2.2.1 ∈ wsX5_nodeOnWalk := by decide +kernel
  have hfX5_56 : Cond.fieldLink RX5 56 (TX2 8).1 (TX2 8).2.1 (TX2 8).2.2.1 ∈ wsX5_nodeOnWalk := by decide +kernel
  have loop : ∀ (t : TT Nat) (up : Option Nat) (dep k : Nat) (ls : Array Slot), CT F d t up dep → (∀ a ∈ tPre t, K a = some (2, 0)) → tSz t ≤ 1000 → k < 2 ^ 31 → (tPre t)[k]? = v → lv_has ls 5 [(2, va_rf (tRt t)), (3, .int (nI k))] → W p l e (gRm 1 0 0) s m args below meth c s.heap [] 0 0 Z (F0 m 4 ls []) := by
    intro t
    induction t with
    | leaf =>
      intro up dep k ls hC hnk hs hk31 hv hl
      have hl : lv_has ls 5 [(2, .null), (3, .int (nI k))] := hl
      refine lv_aload_nN hx hb dX5_nodeOnWalk_4 rfl (lv_at hl 0 rfl) ?_
      refine lv_ifnullN (tgt := 51) hx hb dX5_nodeOnWalk_5 (by decide) ?_
      refine lv_aload_nN hx hb dX5_nodeOnWalk_51 rfl (lv_at hl 0 rfl) ?_
      exact hret (some (va_rf none)) _ _ (by rw [← hv]; rfl) (rt_a dX5_nodeOnWalk_52)
    | inner s9 a v9 L R ihl ihr =>
      intro up dep k ls hC hnk hs hk31 hv hl
      have hl : lv_has ls 5 [(2, .ref a), (3, .int (nI k))] := hl
      obtain ⟨q1, q2, q3, q4, q5, q6, q7, q8⟩ := hC
      have hka := hnk a List.mem_cons_self
      have hs : tSz L + tSz R + 1 ≤ 1000 := hs
      refine lv_aload_n hx hb dX5_nodeOnWalk_4 rfl (lv_at hl 0 rfl) ?_
      refine lv_ifnull hx hb dX5_nodeOnWalk_5 ?_
      refine lv_iload_n hx hb dX5_nodeOnWalk_8 rfl (lv_at hl 1 rfl) ?_
      refine lv_if_le (tgt := 51) hx hb dX5_nodeOnWalk_9 (by decide) (fun c1 => ?_) (fun c1 => ?_)
      · have c1 : k = 0 := (nI_le0 (by omega)).mp c1
        subst c1
        refine lv_aload_n hx hb dX5_nodeOnWalk_51 rfl (lv_at hl 0 rfl) ?_
        exact hret (some (va_rf (some a))) _ _ (by rw [← hv]; rfl) (rt_a dX5_nodeOnWalk_52)
      · have c1 : 0 < k := Nat.pos_of_ne_zero (fun z => c1 ((nI_le0 (by omega)).mpr z))
        obtain ⟨j, rfl⟩ : ∃ j, k = j + 1 := ⟨k - 1, by omega⟩
        refine lv_iinc (v := nI j) (lv' := [(3, .int (nI j)), (2, .ref a)]) hx hb dX5_nodeOnWalk_12 hl (k := 1) rfl (dec1s _) (by decide) rfl (fun ls hl => ?_)
        refine lv_aload_n hx hb dX5_nodeOnWalk_15 rfl (lv_at hl 1 rfl) ?_
        refine g_get (C := RX2) (T := TX2) (N := 9) hx hb hts hi2 hown hN hP hka rfl (by decide) 7 (by decide) hfX5_53 (v := va_rf (tRt L)) q5 dX5_nodeOnWalk_16 ?_
        refine g_cS (v := (some (.int (nI (tSz L))))) (As := [va_rf (tRt L)]) (rest := []) hx hb hml hown hts hN hP (c_sizeOf l Γ K F (tRt L) (tSz L) tRt_none (fun a h => ⟨hnk a (List.mem_cons_of_mem _ (List.mem_append_left _ (tRt_mem h))), CT_root q7 h⟩)) gX5_nodeOnWalk_X2_sizeOf rfl (na := 1) rfl (by decide +kernel) ⟨by decide, by decide⟩ ⟨Nat.zero_le _, Nat.zero_le _⟩ rfl hl.1 (Nat.le_of_ble_eq_true rfl) dX5_nodeOnWalk_19 ?_
        show W _ _ _ _ _ _ _ _ _ _ _ _ _ _ _ (F0 m 22 ls [.int (nI (tSz L))])
        refine lv_istore (lv' := [(4, .int (nI (tSz L))), (3, .int (nI j)), (2, .ref a)]) hx hb dX5_nodeOnWalk_22 hl (by decide) rfl (fun ls hl => ?_)
        refine lv_iload_n hx hb dX5_nodeOnWalk_24 rfl (lv_at hl 1 rfl) ?_
        refine lv_iload hx hb dX5_nodeOnWalk_25 (lv_at hl 0 rfl) ?_
        refine lv_icmp_ge (tgt := 38) hx hb dX5_nodeOnWalk_27 (by decide) (fun c2 => ?_) (fun c2 => ?_)
        · have c2 : (tSz L) ≤ j := (nI_leI (by omega) (by omega)).mp c2
          refine lv_iload_n hx hb dX5_nodeOnWalk_38 rfl (lv_at hl 1 rfl) ?_
          refine lv_iload hx hb dX5_nodeOnWalk_39 (lv_at hl 0 rfl) ?_
          refine lv_isub hx hb dX5_nodeOnWalk_41 ?_
          refine g_asi (show _ = nI (j - (tSz L)) from pk_sub (by omega)) ?_
          refine lv_istore_n (lv' := [(3, .int (nI (j - (tSz L)))), (4, .int (nI (tSz L))), (2, .ref a)]) hx hb dX5_nodeOnWalk_42 rfl hl (by decide) rfl (fun ls hl => ?_)
          refine lv_aload_n hx hb dX5_nodeOnWalk_43 rfl (lv_at hl 2 rfl) ?_
          refine g_get (C := RX2) (T := TX2) (N := 9) hx hb hts hi2 hown hN hP hka rfl (by decide) 8 (by decide) hfX5_56 (v := va_rf (tRt R)) q6 dX5_nodeOnWalk_44 ?_
          refine g_astore_n (r := tRt R) (lv' := [(2, va_rf (tRt R)), (3, .int (nI (j - (tSz L)))), (4, .int (nI (tSz L)))]) hx hb dX5_nodeOnWalk_47 rfl hl (by decide) rfl (fun ls hl => ?_)
          refine lv_goto (tgt := 4) hx hb dX5_nodeOnWalk_48 (by decide) ?_
          exact ihr (some a) (dep + 1) (j - tSz L) ls q8 (fun b hb => hnk b (List.mem_cons_of_mem _ (List.mem_append_right _ hb))) (by omega) (by omega) (by rw [← hv]; show _ = (tPre L ++ tPre R)[j]?; rw [List.getElem?_append_right (by rw [tPre_len]; omega), tPre_len]) (lv_sub hl [0, 1] rfl)
        · have c2 : j < (tSz L) := Nat.not_le.mp (fun z => c2 ((nI_leI (by omega) (by omega)).mpr z))
          refine lv_aload_n hx hb dX5_nodeOnWalk_30 rfl (lv_at hl 2 rfl) ?_
          refine g_get (C := RX2) (T := TX2) (N := 9) hx hb hts hi2 hown hN hP hka rfl (by decide) 7 (by decide) hfX5_53 (v := va_rf (tRt L)) q5 dX5_nodeOnWalk_31 ?_
          refine g_astore_n (r := tRt L) (lv' := [(2, va_rf (tRt L)), (4, .int (nI (tSz L))), (3, .int (nI j))]) hx hb dX5_nodeOnWalk_34 rfl hl (by decide) rfl (fun ls hl => ?_)
          refine lv_goto (tgt := 48) hx hb dX5_nodeOnWalk_35 (by decide) ?_
          refine lv_goto (tgt := 4) hx hb dX5_nodeOnWalk_48 (by decide) ?_
          exact ihl (some a) (dep + 1) j ls q7 (fun b hb => hnk b (List.mem_cons_of_mem _ (List.mem_append_left _ hb))) (by omega) (by omega) (by rw [← hv]; show _ = (tPre L ++ tPre R)[j]?; rw [List.getElem?_append_left (by rw [tPre_len]; omega)]) (lv_sub hl [0, 2] rfl)
  refine g_aload_n (r := r0) hx hb dX5_nodeOnWalk_0 rfl (lv_at hl 0 rfl) ?_
  refine g_astore_n (r := r0) (lv' := [(2, va_rf r0), (0, va_rf r0), (1, .int (nI k))]) hx hb dX5_nodeOnWalk_1 rfl hl (by decide) rfl (fun ls hl => ?_)
  refine lv_iload_n hx hb dX5_nodeOnWalk_2 rfl (lv_at hl 2 rfl) ?_
  refine lv_istore_n (lv' := [(3, .int (nI k)), (2, va_rf r0), (0, va_rf r0), (1, .int (nI k))]) hx hb dX5_nodeOnWalk_3 rfl hl (by decide) (by generalize r0 = r9; cases r9 <;> rfl) (fun ls hl => ?_)
  rw [hr0] at hl
  exact loop t up dep k ls hC hnk hs hk31 hv (lv_sub hl [1, 0] rfl)
end
section
def tDp {α : Type} : TT α → Nat → List Nat
  | .leaf, _ => []
  | .inner _ _ _ l r, dep => dep :: (tDp l (dep + 1) ++ tDp r (dep + 1))
def lvls (D : List Nat) : Nat := D.foldl (fun m x => max m (x + 1)) 0
theorem tDp_len {α : Type} (t : TT α) : ∀ dep, (tDp t dep).length = tSz t := by
  induction t with
  | leaf => intro _; rfl
  | inner s x v l r ihl ihr => intro dep; simp only [tDp, tSz, List.length_cons, List.length_append, ihl, ihr]
theorem tDp_map {α β : Type} (f : α → β) (t : TT α) : ∀ dep, tDp (tMap f t) dep = tDp t dep := by
  induction t with
  | leaf => intro _; rfl
  | inner s x v l r ihl ihr => intro dep; simp only [tDp, tMap, ihl, ihr]
theorem CT_dep {F : gF} {d : Nat} : ∀ {t : TT Nat} {up : Option Nat} {dep k a : Nat}, CT F d t up dep → (tPre t)[k]? = some a → ∃ x, (tDp t dep)[k]? = some x ∧ F a 3 = .int (nI x) ∧ x < dep + tSz t := by
  intro t
  induction t with
  | leaf => intro _ _ _ _ _ h; simp [tPre] at h
  | inner s b v l r ihl ihr =>
    intro up dep k a H h
    obtain ⟨h1, h2, h3, h4, h5, h6, h7, h8⟩ := H
    cases k with
    | zero => simp [tPre] at h; subst h; exact ⟨dep, rfl, h1, by simp only [tSz]; omega⟩
    | succ k =>
      have h : (tPre l ++ tPre r)[k]? = some a := h
      show ∃ x, (tDp l (dep + 1) ++ tDp r (dep + 1))[k]? = some x ∧ _
      simp only [tSz]
      rcases Nat.lt_or_ge k (tSz l) with q | q
      · rw [List.getElem?_append_left (by rw [tPre_len]; exact q)] at h
        obtain ⟨x, e1, e2, e3⟩ := ihl h7 h
        exact ⟨x, by rw [List.getElem?_append_left (by rw [tDp_len]; exact q)]; exact e1, e2, by omega⟩
      · rw [List.getElem?_append_right (by rw [tPre_len]; exact q), tPre_len] at h
        obtain ⟨x, e1, e2, e3⟩ := ihr h8 h
        exact ⟨x, by rw [List.getElem?_append_right (by rw [tDp_len]; exact q), tDp_len]; exact e1, e2, by omega⟩
theorem take_snoc {α : Type} {L : List α} {k : Nat} {x : α} (h : L[k]? = some x) : L.take (k + 1) = L.take k ++ [x] := by
  rw [List.take_succ, h]; rfl

set_option maxHeartbeats 4000000 in
set_option maxRecDepth 100000 in
theorem c_levels (l : Launch) (Γ : gG) (K : gK) (F : gF) (T d : Nat) (t : TT Nat) (hk : K T = some (5, 0)) (h2 : F T 2 = va_rf (tRt t)) (hC : CT F d t none 0) (hnk : ∀ a ∈ tPre t, K a = some (2, 0)) (hs : tSz t ≤ 1000) : gMR l yX5_levels wsX5_levels 2 Γ K F [.ref T] (some (.int (nI (lvls (tDp t 0))))) := by
  refine g_mR (cc := cX5_levels) (maxL := 5) (ret := (some .int)) (by decide) rfl (Nat.le_of_ble_eq_true rfl) ?_
  intro p e s m args below meth c ls Z hx hb hts hown hml hN hP hret hl
  have hl : lv_has ls 5 [(0, .ref T)] := hl
  have hown : s.vm.findClass RX5 = some m.cls := hown
  have hi2 : ∀ w ∈ wsX20, w ∈ wsX5_levels := by decide +kernel
  have hi5 : ∀ w ∈ wsX50, w ∈ wsX5_levels := by decide +kernel
  have hfX5_21 : Cond.fieldLink RX5 21 (TX5 2).1 (TX5 2).2.1 (TX5 2).2.2.1 ∈ wsX5_levels := by decide +kernel
  have hfX5_39 : Cond.fieldLink RX5 39 (TX2 3).1 (TX2 3).2.1 (TX2 3).2.2.1 ∈ wsX5_levels := by decide +kernel
  have loop : ∀ (j k lev : Nat) (ls : Array Slot), k + j = tSz t → lev = lvls ((tDp t 0).take k) → lev < 2 ^ 20 → lv_has ls 5 [(3, .int (nI k)), (2, .int (nI (tSz t))), (1, .int (nI lev)), (0, .ref T)] → W p l e (gRm 2 0 0) s m args below meth c s.heap [] 0 0 Z (F0 m 9 ls []) := by
    intro j
    induction j with
    | zero =>
      intro k lev ls hj hlev hb20 hl
      refine lv_iload_n hx hb dX5_levels_9 rfl (lv_at hl 0 rfl) ?_
      refine lv_iload_n hx hb dX5_levels_10 rfl (lv_at hl 1 rfl) ?_
      refine lv_icmp_ge (tgt := 47) hx hb dX5_levels_11 (by decide) (fun c1 => ?_) (fun c1 => ?_)
      · have c1 : (tSz t) ≤ k := (nI_leI (by omega) (by omega)).mp c1
        refine lv_iload_n hx hb dX5_levels_47 rfl (lv_at hl 2 rfl) ?_
        exact hret (some (.int (nI lev))) _ _ (by rw [hlev, List.take_of_length_le (by rw [tDp_len]; omega)]) (rt_i dX5_levels_48)
      · have c1 : k < (tSz t) := Nat.not_le.mp (fun z => c1 ((nI_leI (by omega) (by omega)).mpr z))
        exact absurd c1 (by omega)
    | succ j ih =>
      intro k lev ls hj hlev hb20 hl
      refine lv_iload_n hx hb dX5_levels_9 rfl (lv_at hl 0 rfl) ?_
      refine lv_iload_n hx hb dX5_levels_10 rfl (lv_at hl 1 rfl) ?_
      refine lv_icmp_ge (tgt := 47) hx hb dX5_levels_11 (by decide) (fun c1 => ?_) (fun c1 => ?_)
      · have c1 : (tSz t) ≤ k := (nI_leI (by omega) (by omega)).mp c1
        exact absurd c1 (by omega)
      · have c1 : k < (tSz t) := Nat.not_le.mp (fun z => c1 ((nI_leI (by omega) (by omega)).mpr z))
        obtain ⟨a, ha⟩ : ∃ a, (tPre t)[k]? = some a := ⟨_, List.getElem?_eq_getElem (by rw [tPre_len]; exact c1)⟩
        obtain ⟨x, e1, e2, e3⟩ := CT_dep hC ha
        have hka := hnk a (List.mem_of_getElem? ha)
        refine lv_aload_n hx hb dX5_levels_14 rfl (lv_at hl 3 rfl) ?_
        refine g_get (C := RX5) (T := TX5) (N := 4) hx hb hts hi5 hown hN hP hk rfl (by decide) 2 (by decide) hfX5_21 (v := va_rf (tRt t)) h2 dX5_levels_15 ?_
        refine lv_iload_n hx hb dX5_levels_18 rfl (lv_at hl 0 rfl) ?_
        refine g_cS (v := (some (.ref a))) (As := [va_rf (tRt t), .int (nI k)]) (rest := []) hx hb hml hown hts hN hP (c_nodeOnWalk l Γ K F (tRt t) t d none 0 k (some a) rfl hC hnk hs (by omega) ha) gX5_levels_X5_nodeOnWalk rfl (na := 2) rfl (by decide +kernel) ⟨by decide, by decide⟩ ⟨Nat.zero_le _, Nat.zero_le _⟩ rfl hl.1 (Nat.le_of_ble_eq_true rfl) dX5_levels_19 ?_
        show W _ _ _ _ _ _ _ _ _ _ _ _ _ _ _ (F0 m 22 ls [.ref a])
        refine lv_astore (lv' := [(4, .ref a), (3, .int (nI k)), (2, .int (nI (tSz t))), (1, .int (nI lev)), (0, .ref T)]) hx hb dX5_levels_22 hl (by decide) rfl (fun ls hl => ?_)
        refine lv_aload hx hb dX5_levels_24 (lv_at hl 0 rfl) ?_
        refine lv_ifnull hx hb dX5_levels_26 ?_
        refine lv_iload_n hx hb dX5_levels_29 rfl (lv_at hl 3 rfl) ?_
        refine lv_aload hx hb dX5_levels_30 (lv_at hl 0 rfl) ?_
        refine g_get (C := RX2) (T := TX2) (N := 9) hx hb hts hi2 hown hN hP hka rfl (by decide) 3 (by decide) hfX5_39 (v := .int (nI x)) e2 dX5_levels_32 ?_
        refine lv_iconst (v := nI 1) hx hb dX5_levels_35 (by decide) ?_
        refine lv_iadd hx hb dX5_levels_36 ?_
        refine g_asi (show _ = nI (x + 1) from (nI_add _ _).trans (by rfl)) ?_
        refine va_mmax hx hb (hml.trans hl.1.symm) hown (hts _ (show Cond.methodLink RX5 93 Lib.Math.max.name ∈ _ by decide +kernel)) (hts _ (by decide +kernel)) (hts _ (by decide +kernel)) (hts _ (by decide +kernel)) (by decide) (Nat.le_of_ble_eq_true rfl) (Nat.zero_le _) (Nat.zero_le _) dX5_levels_37 ?_
        refine g_asi (show _ = nI (max lev (x + 1)) from mx_max (by omega) (by omega)) ?_
        refine lv_istore_n (lv' := [(1, .int (nI (max lev (x + 1)))), (4, .ref a), (3, .int (nI k)), (2, .int (nI (tSz t))), (0, .ref T)]) hx hb dX5_levels_40 rfl hl (by decide) rfl (fun ls hl => ?_)
        refine lv_iinc (v := nI (k + 1)) (lv' := [(3, .int (nI (k + 1))), (1, .int (nI (max lev (x + 1)))), (4, .ref a), (2, .int (nI (tSz t))), (0, .ref T)]) hx hb dX5_levels_41 hl (k := 2) rfl (inc1 _) (by decide) rfl (fun ls hl => ?_)
        refine lv_goto (tgt := 9) hx hb dX5_levels_44 (by decide) ?_
        exact ih (k + 1) _ ls (by omega) (by rw [take_snoc e1, hlev]; simp [lvls, List.foldl_append]) (by omega) (lv_sub hl [0, 3, 1, 4] rfl)
  refine lv_iconst (v := nI 0) hx hb dX5_levels_0 (by decide) ?_
  refine lv_istore_n (lv' := [(1, .int (nI 0)), (0, .ref T)]) hx hb dX5_levels_1 rfl hl (by decide) rfl (fun ls hl => ?_)
  refine lv_aload_n hx hb dX5_levels_2 rfl (lv_at hl 1 rfl) ?_
  refine g_cV (v := (some (.int (nI (tSz t))))) (As := []) (b := T) (rest := []) hx hb hml hown hts hN hP (c_nodeCount l Γ K F T d t hk h2 hC hnk) gX5_levels_X5_nodeCount rfl hk (by decide) rfl (na := 0) rfl (by decide +kernel) ⟨by decide, by decide⟩ ⟨Nat.zero_le _, Nat.zero_le _⟩ rfl hl.1 (Nat.le_of_ble_eq_true rfl) dX5_levels_3 ?_
  show W _ _ _ _ _ _ _ _ _ _ _ _ _ _ _ (F0 m 6 ls [.int (nI (tSz t))])
  refine lv_istore_n (lv' := [(2, .int (nI (tSz t))), (1, .int (nI 0)), (0, .ref T)]) hx hb dX5_levels_6 rfl hl (by decide) rfl (fun ls hl => ?_)
  refine lv_iconst (v := nI 0) hx hb dX5_levels_7 (by decide) ?_
  refine lv_istore_n (lv' := [(3, .int (nI 0)), (2, .int (nI (tSz t))), (1, .int (nI 0)), (0, .ref T)]) hx hb dX5_levels_8 rfl hl (by decide) rfl (fun ls hl => ?_)
  exact loop (tSz t) 0 0 ls (by omega) rfl (by omega) (lv_sub hl [0, 1, 2, 3] rfl)

def alv (dd : Nat → Bool) (L : List Nat) : List Nat := L.filter (fun a => !dd a)
def vRf (a : Nat) : Value := .ref a
theorem alv_snoc_t {dd : Nat → Bool} {L : List Nat} {a : Nat} (h : dd a = true) : alv dd (L ++ [a]) = alv dd L := by simp [alv, List.filter_append, h]
theorem alv_snoc_f {dd : Nat → Bool} {L : List Nat} {a : Nat} (h : dd a = false) : alv dd (L ++ [a]) = alv dd L ++ [a] := by simp [alv, List.filter_append, h]
theorem alv_full {dd : Nat → Bool} {L : List Nat} {k : Nat} (h : (alv dd L).length ≤ (alv dd (L.take k)).length) : alv dd (L.take k) = alv dd L := by
  have e : alv dd L = alv dd (L.take k) ++ alv dd (L.drop k) := by
    unfold alv
    rw [← List.filter_append, List.take_append_drop]
  rw [e, List.length_append] at h
  rw [e, List.length_eq_zero_iff.mp (show (alv dd (L.drop k)).length = 0 by omega), List.append_nil]
theorem alv_le {dd : Nat → Bool} {L : List Nat} {k : Nat} : (alv dd (L.take k)).length ≤ (alv dd L).length := by
  have e : alv dd L = alv dd (L.take k) ++ alv dd (L.drop k) := by
    unfold alv
    rw [← List.filter_append, List.take_append_drop]
  rw [e, List.length_append]
  omega

set_option maxHeartbeats 4000000 in
set_option maxRecDepth 100000 in
theorem c_gatherLive (l : Launch) (Γ : gG) (K : gK) (F : gF) (sz : Nat) (T fr row d : Nat) (t : TT Nat) (up : Option Nat) (dep : Nat) (dt : Nat → gPt) (pl : Nat → Nat) (dd : Nat → Bool) (hk : K T = some (5, 0)) (hkf : K fr = some (2, 0)) (hkr : K row = some (11, 60)) (h1 : F T 1 = .ref row) (hC : CT F d t up dep) (hfrt : tRt t = some fr) (hND : NDs K F dt pl dd (tPre t)) (hs : tSz t ≤ 1000) (h60 : (alv dd (tPre t)).length ≤ 60) : gMM l yX5_gatherLive wsX5_gatherLive 2 0 0 Γ K F sz [.ref T, .ref fr] (fun v K' F' => v = some (.int (nI (alv dd (tPre t)).length)) ∧ K' = K ∧ rowL F' row 0 ((alv dd (tPre t)).map vRf) ∧ ∀ b i, b ≠ row → F' b i = F b i) := by
  refine g_mM (cc := cX5_gatherLive) (maxL := 5) (ret := (some .int)) (by decide) rfl (Nat.le_of_ble_eq_true rfl) ?_
  intro p e s m args below meth c ls Z hsz hx hb hts hown hml hnm hN hW hret hl
  have hl : lv_has ls 5 [(0, .ref T), (1, .ref fr)] := hl
  have hown : s.vm.findClass RX5 = some m.cls := hown
  have hi2 : ∀ w ∈ wsX20, w ∈ wsX5_gatherLive := by decide +kernel
  have hi5 : ∀ w ∈ wsX50, w ∈ wsX5_gatherLive := by decide +kernel
  have hfX5_17 : Cond.fieldLink RX5 17 (TX5 1).1 (TX5 1).2.1 (TX5 1).2.2.1 ∈ wsX5_gatherLive := by decide +kernel
  have hfX5_29 : Cond.fieldLink RX5 29 (TX2 5).1 (TX2 5).2.1 (TX2 5).2.2.1 ∈ wsX5_gatherLive := by decide +kernel
  have hfX5_77 : Cond.fieldLink RX5 77 (TX2 2).1 (TX2 2).2.1 (TX2 2).2.2.1 ∈ wsX5_gatherLive := by decide +kernel
  have loop : ∀ (j k n : Nat) (F1 : gF) (H : Heap) (locs : List Loc) (ls : Array Slot), k + j = tSz t → n = (alv dd ((tPre t).take k)).length → rowL F1 row 0 ((alv dd ((tPre t).take k)).map vRf) → (∀ b i, b ≠ row → F1 b i = F b i) → gW Γ (gA K sz) s.heap K F1 H locs → lv_has ls 5 [(3, .int (nI k)), (2, .int (nI n)), (0, .ref T), (1, .ref fr)] → W p l e (gRm 2 0 0) s m args below meth c H locs 0 0 Z (F0 m 4 ls []) := by
    intro j
    induction j with
    | zero =>
      intro k n F1 H locs ls hj hn hrow hfr hW hl
      have hn60 : n ≤ 60 := hn ▸ Nat.le_trans alv_le h60
      have f1 : F1 fr 5 = .int (nI (tSz t)) := (hfr fr 5 (kne hkf hkr (by decide))).trans (CT_root hC hfrt)
      have f2 : F1 T 1 = .ref row := (hfr T 1 (kne hk hkr (by decide))).trans h1
      refine lv_iload_n hx hb dX5_gatherLive_4 rfl (lv_at hl 0 rfl) ?_
      refine lv_aload_n hx hb dX5_gatherLive_5 rfl (lv_at hl 3 rfl) ?_
      refine g_get (C := RX2) (T := TX2) (N := 9) hx hb hts hi2 hown hN hW.1 hkf rfl (by decide) 5 (by decide) hfX5_29 (v := .int (nI (tSz t))) f1 dX5_gatherLive_6 ?_
      refine lv_icmp_ge (tgt := 58) hx hb dX5_gatherLive_9 (by decide) (fun c1 => ?_) (fun c1 => ?_)
      · have c1 : (tSz t) ≤ k := (nI_leI (by omega) (by omega)).mp c1
        refine lv_iload_n hx hb dX5_gatherLive_58 rfl (lv_at hl 1 rfl) ?_
        exact hret (some (.int (nI n))) _ _ _ _ _ _ hW (⟨by rw [hn, List.take_of_length_le (by rw [tPre_len]; omega)], rfl, by rw [List.take_of_length_le (by rw [tPre_len]; omega)] at hrow; exact hrow, hfr⟩) (rt_i dX5_gatherLive_59)
      · have c1 : k < (tSz t) := Nat.not_le.mp (fun z => c1 ((nI_leI (by omega) (by omega)).mpr z))
        exact absurd c1 (by omega)
    | succ j ih =>
      intro k n F1 H locs ls hj hn hrow hfr hW hl
      have hn60 : n ≤ 60 := hn ▸ Nat.le_trans alv_le h60
      have f1 : F1 fr 5 = .int (nI (tSz t)) := (hfr fr 5 (kne hkf hkr (by decide))).trans (CT_root hC hfrt)
      have f2 : F1 T 1 = .ref row := (hfr T 1 (kne hk hkr (by decide))).trans h1
      refine lv_iload_n hx hb dX5_gatherLive_4 rfl (lv_at hl 0 rfl) ?_
      refine lv_aload_n hx hb dX5_gatherLive_5 rfl (lv_at hl 3 rfl) ?_
      refine g_get (C := RX2) (T := TX2) (N := 9) hx hb hts hi2 hown hN hW.1 hkf rfl (by decide) 5 (by decide) hfX5_29 (v := .int (nI (tSz t))) f1 dX5_gatherLive_6 ?_
      refine lv_icmp_ge (tgt := 58) hx hb dX5_gatherLive_9 (by decide) (fun c1 => ?_) (fun c1 => ?_)
      · have c1 : (tSz t) ≤ k := (nI_leI (by omega) (by omega)).mp c1
        exact absurd c1 (by omega)
      · have c1 : k < (tSz t) := Nat.not_le.mp (fun z => c1 ((nI_leI (by omega) (by omega)).mpr z))
        refine lv_iload_n hx hb dX5_gatherLive_12 rfl (lv_at hl 1 rfl) ?_
        refine lv_aload_n hx hb dX5_gatherLive_13 rfl (lv_at hl 2 rfl) ?_
        refine g_get (C := RX5) (T := TX5) (N := 4) hx hb hts hi5 hown hN hW.1 hk rfl (by decide) 1 (by decide) hfX5_17 (v := .ref row) f2 dX5_gatherLive_14 ?_
        refine g_alen (t := 3) hx hb hN hW.1 hkr rfl dX5_gatherLive_17 ?_
        refine lv_icmp_ge (tgt := 58) hx hb dX5_gatherLive_18 (by decide) (fun c2 => ?_) (fun c2 => ?_)
        · have c2 : 60 ≤ n := (nI_leI (by omega) (by omega)).mp c2
          have e := alv_full (show (alv dd (tPre t)).length ≤ (alv dd ((tPre t).take k)).length by omega)
          refine lv_iload_n hx hb dX5_gatherLive_58 rfl (lv_at hl 1 rfl) ?_
          exact hret (some (.int (nI n))) _ _ _ _ _ _ hW (⟨by rw [hn, e], rfl, by rw [e] at hrow; exact hrow, hfr⟩) (rt_i dX5_gatherLive_59)
        · have c2 : n < 60 := Nat.not_le.mp (fun z => c2 ((nI_leI (by omega) (by omega)).mpr z))
          obtain ⟨a, ha⟩ : ∃ a, (tPre t)[k]? = some a := ⟨_, List.getElem?_eq_getElem (by rw [tPre_len]; exact c1)⟩
          have hka := (hND a (List.mem_of_getElem? ha)).1.1
          have f3 : F1 a 2 = .int (bI (dd a)) := (hfr a 2 (kne hka hkr (by decide))).trans (hND a (List.mem_of_getElem? ha)).2
          have hC1 : CT F1 d t up dep := CT_congr (fun b hb k _ => hfr b k (kne (hND b hb).1.1 hkr (by decide))) hC
          refine lv_aload_n hx hb dX5_gatherLive_21 rfl (lv_at hl 3 rfl) ?_
          refine lv_iload_n hx hb dX5_gatherLive_22 rfl (lv_at hl 0 rfl) ?_
          refine g_cS (v := (some (.ref a))) (As := [.ref fr, .int (nI k)]) (rest := []) hx hb hml hown hts hN hW.1 (c_nodeOnWalk l Γ K F1 (some fr) t d up dep k (some a) hfrt.symm hC1 (fun b hb => (hND b hb).1.1) hs (by omega) ha) gX5_gatherLive_X5_nodeOnWalk rfl (na := 2) rfl (by decide +kernel) ⟨by decide, by decide⟩ ⟨Nat.zero_le _, Nat.zero_le _⟩ rfl hl.1 (Nat.le_of_ble_eq_true rfl) dX5_gatherLive_23 ?_
          show W _ _ _ _ _ _ _ _ _ _ _ _ _ _ _ (F0 m 26 ls [.ref a])
          refine lv_astore (lv' := [(4, .ref a), (3, .int (nI k)), (2, .int (nI n)), (0, .ref T), (1, .ref fr)]) hx hb dX5_gatherLive_26 hl (by decide) rfl (fun ls hl => ?_)
          refine lv_aload hx hb dX5_gatherLive_28 (lv_at hl 0 rfl) ?_
          refine lv_ifnull hx hb dX5_gatherLive_30 ?_
          refine lv_aload hx hb dX5_gatherLive_33 (lv_at hl 0 rfl) ?_
          refine g_get (C := RX2) (T := TX2) (N := 9) hx hb hts hi2 hown hN hW.1 hka rfl (by decide) 2 (by decide) hfX5_77 (v := .int (bI (dd a))) f3 dX5_gatherLive_35 ?_
          refine lv_if_ne (tgt := 52) hx hb dX5_gatherLive_38 (by decide) (fun c3 => ?_) (fun c3 => ?_)
          · have c3 : (dd a) = true := bI_n0.mp c3
            refine lv_iinc (v := nI (k + 1)) (lv' := [(3, .int (nI (k + 1))), (4, .ref a), (2, .int (nI n)), (0, .ref T), (1, .ref fr)]) hx hb dX5_gatherLive_52 hl (k := 1) rfl (inc1 _) (by decide) rfl (fun ls hl => ?_)
            refine lv_goto (tgt := 4) hx hb dX5_gatherLive_55 (by decide) ?_
            exact ih (k + 1) n F1 H locs ls (by omega) (by rw [take_snoc ha, alv_snoc_t c3, hn]) (by rw [take_snoc ha, alv_snoc_t c3]; exact hrow) hfr hW (lv_sub hl [0, 2, 3, 4] rfl)
          · have c3 : (dd a) = false := bI_0.mp c3
            refine lv_aload_n hx hb dX5_gatherLive_41 rfl (lv_at hl 3 rfl) ?_
            refine g_get (C := RX5) (T := TX5) (N := 4) hx hb hts hi5 hown hN hW.1 hk rfl (by decide) 1 (by decide) hfX5_17 (v := .ref row) f2 dX5_gatherLive_42 ?_
            refine lv_iload_n hx hb dX5_gatherLive_45 rfl (lv_at hl 2 rfl) ?_
            refine lv_aload hx hb dX5_gatherLive_46 (lv_at hl 0 rfl) ?_
            refine g_aast (j := n) hx hb hN hW hkr (by decide) hka (show _ = nI n from rfl) (by omega) dX5_gatherLive_48 (fun H locs hW => ?_)
            refine lv_iinc (v := nI (n + 1)) (lv' := [(2, .int (nI (n + 1))), (4, .ref a), (3, .int (nI k)), (0, .ref T), (1, .ref fr)]) hx hb dX5_gatherLive_49 hl (k := 2) rfl (inc1 _) (by decide) rfl (fun ls hl => ?_)
            refine lv_iinc (v := nI (k + 1)) (lv' := [(3, .int (nI (k + 1))), (2, .int (nI (n + 1))), (4, .ref a), (0, .ref T), (1, .ref fr)]) hx hb dX5_gatherLive_52 hl (k := 2) rfl (inc1 _) (by decide) rfl (fun ls hl => ?_)
            refine lv_goto (tgt := 4) hx hb dX5_gatherLive_55 (by decide) ?_
            have q := rowL.fill (v := vRf a) hrow (Q := []) rowL.nil
            rw [List.length_map, ← hn, Nat.zero_add] at q
            exact ih (k + 1) (n + 1) _ H locs ls (by omega) (by rw [take_snoc ha, alv_snoc_f c3, hn, List.length_append]; rfl) (by rw [take_snoc ha, alv_snoc_f c3, List.map_append]; exact q) (fun b i hb => by rw [gU_a hb]; exact hfr b i hb) hW (lv_sub hl [0, 1, 3, 4] rfl)
  refine lv_iconst (v := nI 0) hx hb dX5_gatherLive_0 (by decide) ?_
  refine lv_istore_n (lv' := [(2, .int (nI 0)), (0, .ref T), (1, .ref fr)]) hx hb dX5_gatherLive_1 rfl hl (by decide) rfl (fun ls hl => ?_)
  refine lv_iconst (v := nI 0) hx hb dX5_gatherLive_2 (by decide) ?_
  refine lv_istore_n (lv' := [(3, .int (nI 0)), (2, .int (nI 0)), (0, .ref T), (1, .ref fr)]) hx hb dX5_gatherLive_3 rfl hl (by decide) rfl (fun ls hl => ?_)
  exact loop (tSz t) 0 0 F _ _ ls (by omega) rfl rowL.nil (fun _ _ _ => rfl) hW (lv_sub hl [0, 1, 2, 3] rfl)
end
section
theorem rowL.get {F : gF} {a o : Nat} {L : List Value} (h : rowL F a o L) {j : Nat} {v : Value} (hj : L[j]? = some v) : F a (o + j) = v := h j v hj

set_option maxHeartbeats 4000000 in
set_option maxRecDepth 100000 in
theorem c_order (l : Launch) (Γ : gG) (K : gK) (F : gF) (sz : Nat) (T row fr ax : Nat) (L : List Nat) (dt : Nat → gPt) (pl : Nat → Nat) (dd : Nat → Bool) (hk : K T = some (5, 0)) (hkr : K row = some (11, 60)) (h1 : F T 1 = .ref row) (hrow : rowL F row fr (L.map vRf)) (hND : NDs K F dt pl dd L) (hax : ax < 4) (h60 : fr + L.length ≤ 60) : gMM l yX5_order wsX5_order 3 0 0 Γ K F sz [.ref T, .int (nI fr), .int (nI (fr + L.length)), .int (nI ax)] (fun v K' F' => v = none ∧ K' = K ∧ rowL F' row fr ((isort (ltA dt ax) [] L).map vRf) ∧ ∀ b i, ¬ (b = row ∧ fr ≤ i ∧ i < fr + L.length) → F' b i = F b i) := by
  refine g_mM (cc := cX5_order) (maxL := 7) (ret := none) (by decide) rfl (Nat.le_of_ble_eq_true rfl) ?_
  intro p e s m args below meth c ls Z hsz hx hb hts hown hml hnm hN hW hret hl
  have hl : lv_has ls 7 [(0, .ref T), (1, .int (nI fr)), (2, .int (nI (fr + L.length))), (3, .int (nI ax))] := hl
  have hown : s.vm.findClass RX5 = some m.cls := hown
  have hi5 : ∀ w ∈ wsX50, w ∈ wsX5_order := by decide +kernel
  have hfX5_17 : Cond.fieldLink RX5 17 (TX5 1).1 (TX5 1).2.1 (TX5 1).2.2.1 ∈ wsX5_order := by decide +kernel
  have dRT := kne hk hkr (by decide)
  have inner : ∀ (n : Nat) (P Q M : List Nat) (x nx : Nat) (F1 : gF) (H : Heap) (locs : List Loc) (ls : Array Slot), P.length = n → n + Q.length + 1 + M.length = L.length → (∀ z ∈ P ++ Q, z ∈ L) → x ∈ L → (∀ q ∈ Q, ltA dt ax x q = true) → rowL F1 row fr (P.map vRf) → rowL F1 row (fr + n + 1) ((Q ++ M).map vRf) → (∀ b i, ¬ (b = row ∧ fr ≤ i ∧ i < fr + L.length) → F1 b i = F b i) → gW Γ (gA K sz) s.heap K F1 H locs → lv_has ls 7 [(6, .int (nI (fr + n))), (5, .ref x), (4, .int (nI nx)), (0, .ref T), (1, .int (nI fr)), (2, .int (nI (fr + L.length))), (3, .int (nI ax))] →
        (∀ (F2 : gF) (H : Heap) (locs : List Loc) (ls : Array Slot), rowL F2 row fr ((insR (ltA dt ax) x (P ++ Q) ++ M).map vRf) → (∀ b i, ¬ (b = row ∧ fr ≤ i ∧ i < fr + L.length) → F2 b i = F b i) → gW Γ (gA K sz) s.heap K F2 H locs → lv_has ls 7 [(4, .int (nI nx)), (0, .ref T), (1, .int (nI fr)), (2, .int (nI (fr + L.length))), (3, .int (nI ax))] → W p l e (gRm 3 0 0) s m args below meth c H locs 0 0 Z (F0 m 79 ls [])) → W p l e (gRm 3 0 0) s m args below meth c H locs 0 0 Z (F0 m 24 ls []) := by
    intro n
    induction n with
    | zero =>
      intro P Q M x nx F1 H locs ls hPn hlen hsub hxL hQ hP hQM hfr hW hl kk
      have f2 : F1 T 1 = .ref row := (hfr T 1 (fun z => dRT z.1)).trans h1
      refine lv_iload hx hb dX5_order_24 (lv_at hl 0 rfl) ?_
      refine lv_iload_n hx hb dX5_order_26 rfl (lv_at hl 4 rfl) ?_
      refine lv_icmp_le (tgt := 70) hx hb dX5_order_27 (by decide) (fun c1 => ?_) (fun c1 => ?_)
      · have c1 : (fr + 0) ≤ fr := (nI_leI (by omega) (by omega)).mp c1
        obtain rfl : P = [] := List.length_eq_zero_iff.mp hPn
        refine lv_aload_n hx hb dX5_order_70 rfl (lv_at hl 3 rfl) ?_
        refine g_get (C := RX5) (T := TX5) (N := 4) hx hb hts hi5 hown hN hW.1 hk rfl (by decide) 1 (by decide) hfX5_17 (v := .ref row) f2 dX5_order_71 ?_
        refine lv_iload hx hb dX5_order_74 (lv_at hl 0 rfl) ?_
        refine lv_aload hx hb dX5_order_76 (lv_at hl 1 rfl) ?_
        refine g_aast (j := fr + 0) hx hb hN hW hkr (by decide) (hND x hxL).1.1 (show _ = nI (fr + 0) from rfl) (by omega) dX5_order_78 (fun H locs hW => ?_)
        have q := rowL.fill (v := vRf x) hP (Q := (Q ++ M).map vRf) hQM
        refine kk _ H locs ls (by rw [List.nil_append, insR_all hQ, List.cons_append]; exact q) (fun b i hb => by rw [gU_ne (fun z => hb ⟨z.1, by omega, by omega⟩)]; exact hfr b i hb) hW (lv_sub hl [2, 3, 4, 5, 6] rfl)
      · have c1 : fr < (fr + 0) := Nat.not_le.mp (fun z => c1 ((nI_leI (by omega) (by omega)).mpr z))
        exact absurd c1 (by omega)
    | succ n ih =>
      intro P Q M x nx F1 H locs ls hPn hlen hsub hxL hQ hP hQM hfr hW hl kk
      have f2 : F1 T 1 = .ref row := (hfr T 1 (fun z => dRT z.1)).trans h1
      refine lv_iload hx hb dX5_order_24 (lv_at hl 0 rfl) ?_
      refine lv_iload_n hx hb dX5_order_26 rfl (lv_at hl 4 rfl) ?_
      refine lv_icmp_le (tgt := 70) hx hb dX5_order_27 (by decide) (fun c1 => ?_) (fun c1 => ?_)
      · have c1 : (fr + (n + 1)) ≤ fr := (nI_leI (by omega) (by omega)).mp c1
        exact absurd c1 (by omega)
      · have c1 : fr < (fr + (n + 1)) := Nat.not_le.mp (fun z => c1 ((nI_leI (by omega) (by omega)).mpr z))
        obtain ⟨P, z, rfl, hPl⟩ := snoc_of hPn
        have hzL : z ∈ L := hsub z (by simp)
        rw [List.map_append] at hP
        have hz := rowL.last (v := vRf z) hP
        rw [List.length_map, hPl] at hz
        have nx1 : ndD K F1 x (pl x) (dt x) := ndD_congr (fun b j q => hfr b j (fun z => q.elim (fun q => kne q.1 hkr (by decide) z.1) (fun q => kne q hkr (by decide) z.1))) (hND x hxL).1
        have nz1 : ndD K F1 z (pl z) (dt z) := ndD_congr (fun b j q => hfr b j (fun z => q.elim (fun q => kne q.1 hkr (by decide) z.1) (fun q => kne q hkr (by decide) z.1))) (hND z hzL).1
        refine lv_aload hx hb dX5_order_30 (lv_at hl 1 rfl) ?_
        refine lv_aload_n hx hb dX5_order_32 rfl (lv_at hl 3 rfl) ?_
        refine g_get (C := RX5) (T := TX5) (N := 4) hx hb hts hi5 hown hN hW.1 hk rfl (by decide) 1 (by decide) hfX5_17 (v := .ref row) f2 dX5_order_33 ?_
        refine lv_iload hx hb dX5_order_36 (lv_at hl 0 rfl) ?_
        refine lv_iconst (v := nI 1) hx hb dX5_order_38 (by decide) ?_
        refine lv_isub hx hb dX5_order_39 ?_
        refine g_asi (show _ = nI ((fr + (n + 1)) - 1) from pk_sub (by omega)) ?_
        refine g_aald (j := fr + n) hx hb hN hW.1 hkr (by decide) (show _ = nI (fr + n) from rfl) (by omega) (v := .ref z) hz dX5_order_40 ?_
        refine lv_iload_n hx hb dX5_order_41 rfl (lv_at hl 6 rfl) ?_
        refine g_cS (v := (some (.int (bI (ltA dt ax x z))))) (As := [.ref x, .ref z, .int (nI ax)]) (rest := []) hx hb hml hown hts hN hW.1 (c_isAheadT l Γ K F1 x z (pl x) (pl z) (dt x) (dt z) ax nx1 nz1 hax) gX5_order_X5_isAhead rfl (na := 3) rfl (by decide +kernel) ⟨by decide, by decide⟩ ⟨Nat.zero_le _, Nat.zero_le _⟩ rfl hl.1 (Nat.le_of_ble_eq_true rfl) dX5_order_42 ?_
        show W _ _ _ _ _ _ _ _ _ _ _ _ _ _ _ (F0 m 45 ls [.int (bI (ltA dt ax x z))])
        refine lv_if_eq (tgt := 70) hx hb dX5_order_45 (by decide) (fun c2 => ?_) (fun c2 => ?_)
        · have c2 : (ltA dt ax x z) = false := bI_0.mp c2
          refine lv_aload_n hx hb dX5_order_70 rfl (lv_at hl 3 rfl) ?_
          refine g_get (C := RX5) (T := TX5) (N := 4) hx hb hts hi5 hown hN hW.1 hk rfl (by decide) 1 (by decide) hfX5_17 (v := .ref row) f2 dX5_order_71 ?_
          refine lv_iload hx hb dX5_order_74 (lv_at hl 0 rfl) ?_
          refine lv_aload hx hb dX5_order_76 (lv_at hl 1 rfl) ?_
          refine g_aast (j := fr + (n + 1)) hx hb hN hW hkr (by decide) (hND x hxL).1.1 (show _ = nI (fr + (n + 1)) from rfl) (by omega) dX5_order_78 (fun H locs hW => ?_)
          have q := rowL.fill (v := vRf x) hP (Q := (Q ++ M).map vRf) (by rw [List.length_append, List.length_map, hPl]; exact hQM)
          rw [List.length_append, List.length_map, hPl] at q
          refine kk _ H locs ls (by rw [insR_eq hQ c2, List.append_assoc, List.map_append, List.map_append]; exact q) (fun b i hb => by rw [gU_ne (fun z => hb ⟨z.1, by omega, by omega⟩)]; exact hfr b i hb) hW (lv_sub hl [2, 3, 4, 5, 6] rfl)
        · have c2 : (ltA dt ax x z) = true := bI_n0.mp c2
          refine lv_aload_n hx hb dX5_order_48 rfl (lv_at hl 3 rfl) ?_
          refine g_get (C := RX5) (T := TX5) (N := 4) hx hb hts hi5 hown hN hW.1 hk rfl (by decide) 1 (by decide) hfX5_17 (v := .ref row) f2 dX5_order_49 ?_
          refine lv_iload hx hb dX5_order_52 (lv_at hl 0 rfl) ?_
          refine lv_aload_n hx hb dX5_order_54 rfl (lv_at hl 3 rfl) ?_
          refine g_get (C := RX5) (T := TX5) (N := 4) hx hb hts hi5 hown hN hW.1 hk rfl (by decide) 1 (by decide) hfX5_17 (v := .ref row) f2 dX5_order_55 ?_
          refine lv_iload hx hb dX5_order_58 (lv_at hl 0 rfl) ?_
          refine lv_iconst (v := nI 1) hx hb dX5_order_60 (by decide) ?_
          refine lv_isub hx hb dX5_order_61 ?_
          refine g_asi (show _ = nI ((fr + (n + 1)) - 1) from pk_sub (by omega)) ?_
          refine g_aald (j := fr + n) hx hb hN hW.1 hkr (by decide) (show _ = nI (fr + n) from rfl) (by omega) (v := .ref z) hz dX5_order_62 ?_
          refine g_aast (j := fr + (n + 1)) hx hb hN hW hkr (by decide) (hND z hzL).1.1 (show _ = nI (fr + (n + 1)) from rfl) (by omega) dX5_order_63 (fun H locs hW => ?_)
          have hl : lv_has ls 7 [(6, .int (nI (fr + n + 1))), (5, .ref x), (4, .int (nI nx)), (0, .ref T), (1, .int (nI fr)), (2, .int (nI (fr + L.length))), (3, .int (nI ax))] := hl
          refine lv_iinc (v := nI (fr + n)) (lv' := [(6, .int (nI (fr + n))), (5, .ref x), (4, .int (nI nx)), (0, .ref T), (1, .int (nI fr)), (2, .int (nI (fr + L.length))), (3, .int (nI ax))]) hx hb dX5_order_64 hl (k := 0) rfl (dec1s _) (by decide) rfl (fun ls hl => ?_)
          refine lv_goto (tgt := 24) hx hb dX5_order_67 (by decide) ?_
          have q := rowL.shift (v := vRf z) hP (Q := (Q ++ M).map vRf) (by rw [List.length_map, hPl]; exact hQM)
          rw [List.length_map, hPl] at q
          exact ih P (z :: Q) M x nx _ H locs ls hPl (by rw [← hlen, List.length_cons]; omega) (fun y hy => hsub y (by simpa using hy)) hxL (fun y hy => by
            rcases List.mem_cons.mp hy with rfl | hy
            · exact c2
            · exact hQ y hy) q.1 q.2 (fun b i hb => by rw [gU_ne (fun z => hb ⟨z.1, by omega, by omega⟩)]; exact hfr b i hb) hW (lv_sub hl [0, 1, 2, 3, 4, 5, 6] rfl) (by rw [show P ++ z :: Q = P ++ [z] ++ Q by simp]; exact kk)
  have outer : ∀ (M L0 : List Nat) (n : Nat) (F1 : gF) (H : Heap) (locs : List Loc) (ls : Array Slot), L = L0 ++ M → L0.length = n → rowL F1 row fr ((isort (ltA dt ax) [] L0 ++ M).map vRf) → (∀ b i, ¬ (b = row ∧ fr ≤ i ∧ i < fr + L.length) → F1 b i = F b i) → gW Γ (gA K sz) s.heap K F1 H locs → lv_has ls 7 [(4, .int (nI (fr + n))), (0, .ref T), (1, .int (nI fr)), (2, .int (nI (fr + L.length))), (3, .int (nI ax))] → W p l e (gRm 3 0 0) s m args below meth c H locs 0 0 Z (F0 m 5 ls []) := by
    intro M
    induction M with
    | nil =>
      intro L0 n F1 H locs ls hL0 hn hrow hfr hW hl
      have f2 : F1 T 1 = .ref row := (hfr T 1 (fun z => dRT z.1)).trans h1
      have hLn : L.length = n := by rw [hL0, List.append_nil, hn]
      refine lv_iload hx hb dX5_order_5 (lv_at hl 0 rfl) ?_
      refine lv_iload_n hx hb dX5_order_7 rfl (lv_at hl 3 rfl) ?_
      refine lv_icmp_ge (tgt := 85) hx hb dX5_order_8 (by decide) (fun c1 => ?_) (fun c1 => ?_)
      · have c1 : (fr + L.length) ≤ (fr + n) := (nI_leI (by omega) (by omega)).mp c1
        exact hret none _ _ _ _ _ _ hW (⟨rfl, rfl, by rw [List.append_nil] at hL0 hrow; rw [hL0]; exact hrow, hfr⟩) (rt_v dX5_order_85)
      · have c1 : (fr + n) < (fr + L.length) := Nat.not_le.mp (fun z => c1 ((nI_leI (by omega) (by omega)).mpr z))
        exact absurd c1 (by omega)
    | cons x M ih =>
      intro L0 n F1 H locs ls hL0 hn hrow hfr hW hl
      have f2 : F1 T 1 = .ref row := (hfr T 1 (fun z => dRT z.1)).trans h1
      have hLn : L.length = n + (M.length + 1) := by rw [hL0, List.length_append, List.length_cons, hn]
      refine lv_iload hx hb dX5_order_5 (lv_at hl 0 rfl) ?_
      refine lv_iload_n hx hb dX5_order_7 rfl (lv_at hl 3 rfl) ?_
      refine lv_icmp_ge (tgt := 85) hx hb dX5_order_8 (by decide) (fun c1 => ?_) (fun c1 => ?_)
      · have c1 : (fr + L.length) ≤ (fr + n) := (nI_leI (by omega) (by omega)).mp c1
        exact absurd c1 (by omega)
      · have c1 : (fr + n) < (fr + L.length) := Nat.not_le.mp (fun z => c1 ((nI_leI (by omega) (by omega)).mpr z))
        have hS : (isort (ltA dt ax) [] L0).length = n := by rw [isort_len, hn]; exact Nat.zero_add n
        have hxL : x ∈ L := by rw [hL0]; simp
        rw [List.map_append] at hrow
        have hxv : F1 row (fr + n) = .ref x := by
          have := hrow.right.head
          rw [List.length_map, hS] at this
          exact this
        refine lv_aload_n hx hb dX5_order_11 rfl (lv_at hl 1 rfl) ?_
        refine g_get (C := RX5) (T := TX5) (N := 4) hx hb hts hi5 hown hN hW.1 hk rfl (by decide) 1 (by decide) hfX5_17 (v := .ref row) f2 dX5_order_12 ?_
        refine lv_iload hx hb dX5_order_15 (lv_at hl 0 rfl) ?_
        refine g_aald (j := fr + n) hx hb hN hW.1 hkr (by decide) (show _ = nI (fr + n) from rfl) (by omega) (v := .ref x) hxv dX5_order_17 ?_
        refine lv_astore (lv' := [(5, .ref x), (4, .int (nI (fr + n))), (0, .ref T), (1, .int (nI fr)), (2, .int (nI (fr + L.length))), (3, .int (nI ax))]) hx hb dX5_order_18 hl (by decide) rfl (fun ls hl => ?_)
        refine lv_iload hx hb dX5_order_20 (lv_at hl 1 rfl) ?_
        refine lv_istore (lv' := [(6, .int (nI (fr + n))), (5, .ref x), (4, .int (nI (fr + n))), (0, .ref T), (1, .int (nI fr)), (2, .int (nI (fr + L.length))), (3, .int (nI ax))]) hx hb dX5_order_22 hl (by decide) rfl (fun ls hl => ?_)
        refine inner n (isort (ltA dt ax) [] L0) [] M x (fr + n) _ H locs ls hS (by simp; omega) (fun y hy => by
          rw [List.append_nil] at hy
          rw [hL0]
          rcases isort_mem.mp hy with h | h
          · cases h
          · exact List.mem_append_left _ h) hxL (fun y hy => by cases hy) hrow.left (by
          have := hrow.right.tail
          rw [List.length_map, hS] at this
          exact this) hfr hW (lv_sub hl [0, 1, 2, 3, 4, 5, 6] rfl) (fun F2 H locs ls hrow2 hfr2 hW hl => ?_)
        refine lv_iinc (v := nI ((fr + n) + 1)) (lv' := [(4, .int (nI ((fr + n) + 1))), (0, .ref T), (1, .int (nI fr)), (2, .int (nI (fr + L.length))), (3, .int (nI ax))]) hx hb dX5_order_79 hl (k := 0) rfl (inc1 _) (by decide) rfl (fun ls hl => ?_)
        refine lv_goto (tgt := 5) hx hb dX5_order_82 (by decide) ?_
        exact ih (L0 ++ [x]) (n + 1) F2 H locs ls (by rw [hL0]; simp) (by simp [hn]) (by rw [isort_snoc]; rw [List.append_nil] at hrow2; exact hrow2) hfr2 hW (lv_sub hl [0, 1, 2, 3, 4] rfl)
  refine lv_iload_n hx hb dX5_order_0 rfl (lv_at hl 1 rfl) ?_
  refine lv_iconst (v := nI 1) hx hb dX5_order_1 (by decide) ?_
  refine lv_iadd hx hb dX5_order_2 ?_
  refine g_asi (show _ = nI (fr + 1) from (nI_add _ _).trans (by rfl)) ?_
  refine lv_istore (lv' := [(4, .int (nI (fr + 1))), (0, .ref T), (1, .int (nI fr)), (2, .int (nI (fr + L.length))), (3, .int (nI ax))]) hx hb dX5_order_3 hl (by decide) rfl (fun ls hl => ?_)
  rcases L with _ | ⟨x, M⟩
  · have hl : lv_has ls 7 [(4, .int (nI (fr + 1))), (0, .ref T), (1, .int (nI fr)), (2, .int (nI fr)), (3, .int (nI ax))] := hl
    refine lv_iload hx hb dX5_order_5 (lv_at hl 0 rfl) ?_
    refine lv_iload_n hx hb dX5_order_7 rfl (lv_at hl 3 rfl) ?_
    refine lv_icmp_ge (tgt := 85) hx hb dX5_order_8 (by decide) (fun c1 => ?_) (fun c1 => ?_)
    · have c1 : fr ≤ (fr + 1) := (nI_leI (by omega) (by omega)).mp c1
      exact hret none _ _ _ _ _ _ hW (⟨rfl, rfl, rowL.nil, fun _ _ _ => rfl⟩) (rt_v dX5_order_85)
    · have c1 : (fr + 1) < fr := Nat.not_le.mp (fun z => c1 ((nI_leI (by omega) (by omega)).mpr z))
      exact absurd c1 (by omega)
  · exact outer M [x] 1 F _ _ ls rfl rfl hrow (fun _ _ _ => rfl) hW (lv_sub hl [0, 1, 2, 3, 4] rfl)
end
section
set_option maxHeartbeats 4000000 in
set_option maxRecDepth 100000 in
theorem c_build0 (l : Launch) (Γ : gG) (K : gK) (F : gF) (sz : Nat) (T fr dep ax n : Nat) (up : Option Nat) (hk : K T = some (5, 0)) (hfr : fr ≤ 60) : gMM l yX5_build wsX5_build n 0 0 Γ K F sz [.ref T, .int (nI fr), .int (nI fr), .int (nI dep), .int (nI ax), va_rf up] (fun v K' F' => v = some (va_rf none) ∧ K' = K ∧ F' = F) := by
  refine g_mM (cc := cX5_build) (maxL := 9) (ret := (some (.object "NearTree$Node"))) (by decide) rfl (by cases up <;> exact Nat.le_of_ble_eq_true rfl) ?_
  intro p e s m args below meth c ls Z hsz hx hb hts hown hml hnm hN hW hret hl
  have hl : lv_has ls 9 [(0, .ref T), (1, .int (nI fr)), (2, .int (nI fr)), (3, .int (nI dep)), (4, .int (nI ax)), (5, va_rf up)] := by cases up <;> exact hl
  have hown : s.vm.findClass RX5 = some m.cls := hown
  refine lv_iload_n hx hb dX5_build_0 rfl (lv_at hl 1 rfl) ?_
  refine lv_if_lt (tgt := 24) hx hb dX5_build_1 (by decide) (fun c1 => ?_) (fun c1 => ?_)
  · have c1 : False := nI_pos (by omega) c1
    exact c1.elim
  · have c1 : True := trivial
    refine lv_iload_n hx hb dX5_build_4 rfl (lv_at hl 1 rfl) ?_
    refine lv_iload_n hx hb dX5_build_5 rfl (lv_at hl 2 rfl) ?_
    refine lv_icmp_ge (tgt := 24) hx hb dX5_build_6 (by decide) (fun c2 => ?_) (fun c2 => ?_)
    · have c2 : fr ≤ fr := (nI_leI (by omega) (by omega)).mp c2
      refine lv_null hx hb dX5_build_24 ?_
      exact hret (some (va_rf none)) _ _ _ _ _ _ hW (⟨rfl, rfl, rfl⟩) (rt_a dX5_build_25)
    · have c2 : fr < fr := Nat.not_le.mp (fun z => c2 ((nI_leI (by omega) (by omega)).mpr z))
      exact absurd c2 (by omega)

theorem bldG_cons {α : Type} {lt : Nat → α → α → Bool} {d n dep : Nat} {L : List α} {y : α} {ys : List α} (h : (isort (lt (dep % d)) [] L).drop (L.length / 2) = y :: ys) : bldG lt d (n + 1) dep L = tN (bldG lt d n (dep + 1) ((isort (lt (dep % d)) [] L).take (L.length / 2))) y (bldG lt d n (dep + 1) ys) := by
  rw [bldG, h]
/-- a weaker promise -/
theorem g_post {l : Launch} {y : MethodName} {ws : List Cond} {n mc ms : Nat} {Γ : gG} {K : gK} {F : gF} {sz : Nat} {av : List Value} {P P' : Option Value → gK → gF → Prop} (h : gMM l y ws n mc ms Γ K F sz av P) (hp : ∀ v K' F', P v K' F' → P' v K' F') : gMM l y ws n mc ms Γ K F sz av P' := by
  intro p e ha hc hk s m args below hf happ hpre htr
  obtain ⟨t, o, h1, h2, h3, h4⟩ := h p e ha hc hk s m args below hf happ hpre htr
  obtain ⟨⟨v, K', F', a1, a2, a3⟩, h5⟩ := h4
  exact ⟨t, o, h1, h2, h3, ⟨v, K', F', a1, hp v K' F' a2, a3⟩, h5⟩

set_option maxHeartbeats 4000000 in
set_option maxRecDepth 100000 in
/-- Tree.build: the row's part becomes a tree -/
theorem c_build (l : Launch) (Γ : gG) (K : gK) (T row d : Nat) (dt : Nat → gPt) (pl : Nat → Nat) (dd : Nat → Bool) (hk : K T = some (5, 0)) (hkr : K row = some (11, 60)) (hd1 : 0 < d) (hd4 : d ≤ 4) : ∀ (N : Nat) (F : gF) (sz : Nat) (L : List Nat) (fr dep : Nat) (up : Option Nat) (hlen : L.length ≤ N) (hdep : dep + L.length ≤ 120) (h60 : fr + L.length ≤ 60) (h0 : F T 0 = .int (nI d)) (h1 : F T 1 = .ref row) (hrow : rowL F row fr (L.map vRf)) (hND : NDs K F dt pl dd L) (hnd : L.Nodup), gMM l yX5_build wsX5_build (N + 4) 0 0 Γ K F sz [.ref T, .int (nI fr), .int (nI (fr + L.length)), .int (nI dep), .int (nI (dep % d)), va_rf up] (fun v K' F' => v = some (va_rf (tRt (bldG (ltA dt) d N dep L))) ∧ K' = K ∧ CT F' d (bldG (ltA dt) d N dep L) up dep ∧ ∀ b i, ¬ (b = row ∧ fr ≤ i ∧ i < fr + L.length) → ¬ (b ∈ L ∧ 3 ≤ i) → F' b i = F b i) := by
  intro N
  induction N with
  | zero =>
    intro F sz L fr dep up hlen hdep h60 h0 h1 hrow hND hnd
    obtain rfl : L = [] := List.length_eq_zero_iff.mp (Nat.le_zero.mp hlen)
    exact g_post (c_build0 l Γ K F sz T fr dep (dep % d) 4 up hk (by omega)) (fun v K' F' hp => by obtain ⟨rfl, rfl, rfl⟩ := hp; exact ⟨rfl, rfl, trivial, fun _ _ _ _ => rfl⟩)
  | succ N ih =>
    intro F sz L fr dep up hlen hdep h60 h0 h1 hrow hND hnd
    rcases Nat.eq_zero_or_pos L.length with hL0 | hLp
    · obtain rfl : L = [] := List.length_eq_zero_iff.mp hL0
      exact g_post (c_build0 l Γ K F sz T fr dep (dep % d) (N + 1 + 4) up hk (by omega)) (fun v K' F' hp => by obtain ⟨rfl, rfl, rfl⟩ := hp; exact ⟨rfl, rfl, trivial, fun _ _ _ _ => rfl⟩)
    have hax : dep % d < 4 := Nat.lt_of_lt_of_le (Nat.mod_lt _ hd1) hd4
    refine g_mM (cc := cX5_build) (maxL := 9) (ret := (some (.object "NearTree$Node"))) (by decide) rfl (by cases up <;> exact Nat.le_of_ble_eq_true rfl) ?_
    intro p e s m args below meth c ls Z hsz hx hb hts hown hml hnm hN hW hret hl
    have hl : lv_has ls 9 [(0, .ref T), (1, .int (nI fr)), (2, .int (nI (fr + L.length))), (3, .int (nI dep)), (4, .int (nI (dep % d))), (5, va_rf up)] := by cases up <;> exact hl
    have hown : s.vm.findClass RX5 = some m.cls := hown
    have hi2 : ∀ w ∈ wsX20, w ∈ wsX5_build := by decide +kernel
    have hi5 : ∀ w ∈ wsX50, w ∈ wsX5_build := by decide +kernel
    have hfX5_17 : Cond.fieldLink RX5 17 (TX5 1).1 (TX5 1).2.1 (TX5 1).2.2.1 ∈ wsX5_build := by decide +kernel
    have hfX5_29 : Cond.fieldLink RX5 29 (TX2 5).1 (TX2 5).2.1 (TX2 5).2.2.1 ∈ wsX5_build := by decide +kernel
    have hfX5_36 : Cond.fieldLink RX5 36 (TX2 6).1 (TX2 6).2.1 (TX2 6).2.2.1 ∈ wsX5_build := by decide +kernel
    have hfX5_39 : Cond.fieldLink RX5 39 (TX2 3).1 (TX2 3).2.1 (TX2 3).2.2.1 ∈ wsX5_build := by decide +kernel
    have hfX5_42 : Cond.fieldLink RX5 42 (TX2 4).1 (TX2 4).2.1 (TX2 4).2.2.1 ∈ wsX5_build := by decide +kernel
    have hfX5_53 : Cond.fieldLink RX5 53 (TX2 7).1 (TX2 7).2.1 (TX2 7).2.2.1 ∈ wsX5_build := by decide +kernel
    have hfX5_56 : Cond.fieldLink RX5 56 (TX2 8).1 (TX2 8).2.1 (TX2 8).2.2.1 ∈ wsX5_build := by decide +kernel
    refine lv_iload_n hx hb dX5_build_0 rfl (lv_at hl 1 rfl) ?_
    refine lv_if_lt (tgt := 24) hx hb dX5_build_1 (by decide) (fun c1 => ?_) (fun c1 => ?_)
    · have c1 : False := nI_pos (by omega) c1
      exact c1.elim
    · have c1 : True := trivial
      refine lv_iload_n hx hb dX5_build_4 rfl (lv_at hl 1 rfl) ?_
      refine lv_iload_n hx hb dX5_build_5 rfl (lv_at hl 2 rfl) ?_
      refine lv_icmp_ge (tgt := 24) hx hb dX5_build_6 (by decide) (fun c2 => ?_) (fun c2 => ?_)
      · have c2 : (fr + L.length) ≤ fr := (nI_leI (by omega) (by omega)).mp c2
        exact absurd c2 (by omega)
      · have c2 : fr < (fr + L.length) := Nat.not_le.mp (fun z => c2 ((nI_leI (by omega) (by omega)).mpr z))
        refine lv_iload_n hx hb dX5_build_9 rfl (lv_at hl 2 rfl) ?_
        refine lv_aload_n hx hb dX5_build_10 rfl (lv_at hl 0 rfl) ?_
        refine g_get (C := RX5) (T := TX5) (N := 4) hx hb hts hi5 hown hN hW.1 hk rfl (by decide) 1 (by decide) hfX5_17 (v := .ref row) h1 dX5_build_11 ?_
        refine g_alen (t := 3) hx hb hN hW.1 hkr rfl dX5_build_14 ?_
        refine lv_icmp_gt (tgt := 24) hx hb dX5_build_15 (by decide) (fun c3 => ?_) (fun c3 => ?_)
        · have c3 : 60 < (fr + L.length) := (nI_ltI (by omega) (by omega)).mp c3
          exact absurd c3 (by omega)
        · have c3 : (fr + L.length) ≤ 60 := Nat.not_lt.mp (fun z => c3 ((nI_ltI (by omega) (by omega)).mpr z))
          refine lv_iload_n hx hb dX5_build_18 rfl (lv_at hl 3 rfl) ?_
          refine lv_bipush (v := nI 120) hx hb dX5_build_19 (by decide) ?_
          refine lv_icmp_lt (tgt := 26) hx hb dX5_build_21 (by decide) (fun c4 => ?_) (fun c4 => ?_)
          · have c4 : dep < 120 := (nI_ltI (by omega) (by omega)).mp c4
            refine lv_aload_n hx hb dX5_build_26 rfl (lv_at hl 0 rfl) ?_
            refine lv_iload_n hx hb dX5_build_27 rfl (lv_at hl 1 rfl) ?_
            refine lv_iload_n hx hb dX5_build_28 rfl (lv_at hl 2 rfl) ?_
            refine lv_iload hx hb dX5_build_29 (lv_at hl 4 rfl) ?_
            refine g_mV (As := [.int (nI fr), .int (nI (fr + L.length)), .int (nI (dep % d))]) (b := T) (rest := []) hx hb hml hown hts hN hW (c_order l Γ K F _ T row fr (dep % d) L dt pl dd hk hkr h1 hrow hND hax h60) gX5_build_X5_order rfl hk (by decide) rfl (na := 3) rfl (by decide +kernel) ⟨by simp only [gRm]; omega, by simp only [gRm]; omega⟩ ⟨Nat.le_of_ble_eq_true rfl, Nat.le_of_ble_eq_true rfl⟩ rfl hl.1 (Nat.le_of_ble_eq_true rfl) dX5_build_31 (fun v K' F1 H locs hp hW hsz' => ?_)
            obtain ⟨rfl, hK9, hrow1, hfr1⟩ := hp
            subst K'
            show W _ _ _ _ _ _ _ _ _ _ _ _ _ _ _ (F0 m 34 ls [])
            have hp := isort_perm (ltA dt (dep % d)) L []
            rw [List.nil_append] at hp
            generalize hSe : isort (ltA dt (dep % d)) [] L = S at hrow1 hp
            have hSl : S.length = L.length := hp.length_eq
            obtain ⟨y, ys, hdr⟩ : ∃ y ys, S.drop (L.length / 2) = y :: ys := by
              rcases hq : S.drop (L.length / 2) with _ | ⟨y, ys⟩
              · have := List.drop_eq_nil_iff.mp hq
                omega
              · exact ⟨y, ys, rfl⟩
            have hsp : S = S.take (L.length / 2) ++ y :: ys := by rw [← hdr, List.take_append_drop]
            generalize hL1 : S.take (L.length / 2) = L1 at hsp
            have hl1 : L1.length = L.length / 2 := by rw [← hL1, List.length_take, hSl]; omega
            have hlys : ys.length + 1 + L.length / 2 = L.length := by
              have := congrArg List.length hsp
              rw [List.length_append, List.length_cons, hl1, hSl] at this
              omega
            have hnS : (L1 ++ y :: ys).Nodup := hsp ▸ hp.nodup_iff.mpr hnd
            have hmem : ∀ z, z ∈ L1 ∨ z = y ∨ z ∈ ys → z ∈ L := fun z hz => hp.mem_iff.mp (by rw [hsp]; simpa using hz)
            have hyL : y ∈ L := hmem y (Or.inr (Or.inl rfl))
            have hky : K y = some (2, 0) := (hND y hyL).1.1
            have hy1 : y ∉ L1 := fun h => (List.nodup_append.mp hnS).2.2 y h y List.mem_cons_self rfl
            have hy2 : y ∉ ys := (List.nodup_cons.mp (List.nodup_append.mp hnS).2.1).1
            have hdis : ∀ z, z ∈ L1 → z ∉ ys := fun z h1 h2 => (List.nodup_append.mp hnS).2.2 z h1 z (List.mem_cons_of_mem _ h2) rfl
            have hnr : ∀ z, z ∈ L → z ≠ row := fun z hz => kne (hND z hz).1.1 hkr (by decide)
            have hrT : T ≠ row := kne hk hkr (by decide)
            have hyT : y ≠ T := kne hky hk (by decide)
            have hTL : T ∉ L := fun h => kne (hND T h).1.1 hk (by decide) rfl
            rw [hsp, List.map_append, List.map_cons] at hrow1
            have hr1 := hrow1.left
            have hr2 : F1 row (fr + L.length / 2) = .ref y := by
              have := hrow1.right.head
              rw [List.length_map, hl1] at this
              exact this
            have hr3 : rowL F1 row (fr + L.length / 2 + 1) (ys.map vRf) := by
              have := hrow1.right.tail
              rw [List.length_map, hl1] at this
              exact this
            have g0 : F1 T 0 = .int (nI d) := (hfr1 T 0 (fun z => hrT z.1)).trans h0
            have g1 : F1 T 1 = .ref row := (hfr1 T 1 (fun z => hrT z.1)).trans h1
            refine lv_iload_n hx hb dX5_build_34 rfl (lv_at hl 1 rfl) ?_
            refine lv_iload_n hx hb dX5_build_35 rfl (lv_at hl 2 rfl) ?_
            refine lv_iload_n hx hb dX5_build_36 rfl (lv_at hl 1 rfl) ?_
            refine lv_isub hx hb dX5_build_37 ?_
            refine g_asi (show _ = nI ((fr + L.length) - fr) from pk_sub (by omega)) ?_
            refine g_asi (show _ = nI L.length from by rw [Nat.add_sub_cancel_left]) ?_
            refine lv_iconst (v := nI 2) hx hb dX5_build_38 (by decide) ?_
            refine lv_idiv hx hb dX5_build_39 (by decide) ?_
            refine g_asi (show _ = nI (L.length / 2) from pk_div (by omega) (by omega) (by omega)) ?_
            refine lv_iadd hx hb dX5_build_40 ?_
            refine g_asi (show _ = nI (fr + (L.length / 2)) from (nI_add _ _).trans (by rfl)) ?_
            refine lv_istore (lv' := [(6, .int (nI (fr + (L.length / 2)))), (0, .ref T), (1, .int (nI fr)), (2, .int (nI (fr + L.length))), (3, .int (nI dep)), (4, .int (nI (dep % d))), (5, va_rf up)]) hx hb dX5_build_41 hl (by decide) (by generalize up = r9; cases r9 <;> rfl) (fun ls hl => ?_)
            refine lv_aload_n hx hb dX5_build_43 rfl (lv_at hl 1 rfl) ?_
            refine g_get (C := RX5) (T := TX5) (N := 4) hx hb hts hi5 hown hN hW.1 hk rfl (by decide) 1 (by decide) hfX5_17 (v := .ref row) g1 dX5_build_44 ?_
            refine lv_iload hx hb dX5_build_47 (lv_at hl 0 rfl) ?_
            refine g_aald (j := fr + L.length / 2) hx hb hN hW.1 hkr (by decide) (show _ = nI (fr + L.length / 2) from rfl) (by omega) (v := .ref y) hr2 dX5_build_49 ?_
            refine lv_astore (lv' := [(7, .ref y), (6, .int (nI (fr + (L.length / 2)))), (0, .ref T), (1, .int (nI fr)), (2, .int (nI (fr + L.length))), (3, .int (nI dep)), (4, .int (nI (dep % d))), (5, va_rf up)]) hx hb dX5_build_50 hl (by decide) rfl (fun ls hl => ?_)
            refine lv_aload hx hb dX5_build_52 (lv_at hl 0 rfl) ?_
            refine lv_ifnonnull (tgt := 59) hx hb dX5_build_54 (by decide) ?_
            refine lv_aload hx hb dX5_build_59 (lv_at hl 0 rfl) ?_
            refine g_aload (r := up) hx hb dX5_build_61 (lv_at hl 7 rfl) ?_
            refine g_put (C := RX2) (T := TX2) (N := 9) hx hb hts hi2 tyX2 tyX2_ok nmX2 hown hN hW hky rfl (by decide) 6 (by decide) hfX5_36 rfl (va_rf_nar _ _) (va_rf_fit _ _) dX5_build_63 (fun H locs hW => ?_)
            refine lv_aload hx hb dX5_build_66 (lv_at hl 0 rfl) ?_
            refine lv_iload_n hx hb dX5_build_68 rfl (lv_at hl 5 rfl) ?_
            refine g_put (C := RX2) (T := TX2) (N := 9) hx hb hts hi2 tyX2 tyX2_ok nmX2 hown hN hW hky rfl (by decide) 3 (by decide) hfX5_39 rfl rfl rfl dX5_build_69 (fun H locs hW => ?_)
            refine lv_aload hx hb dX5_build_72 (lv_at hl 0 rfl) ?_
            refine lv_iload hx hb dX5_build_74 (lv_at hl 6 rfl) ?_
            refine g_put (C := RX2) (T := TX2) (N := 9) hx hb hts hi2 tyX2 tyX2_ok nmX2 hown hN hW hky rfl (by decide) 4 (by decide) hfX5_42 rfl rfl rfl dX5_build_76 (fun H locs hW => ?_)
            refine lv_aload hx hb dX5_build_79 (lv_at hl 0 rfl) ?_
            refine lv_iload_n hx hb dX5_build_81 rfl (lv_at hl 4 rfl) ?_
            refine lv_iload_n hx hb dX5_build_82 rfl (lv_at hl 3 rfl) ?_
            refine lv_isub hx hb dX5_build_83 ?_
            refine g_asi (show _ = nI ((fr + L.length) - fr) from pk_sub (by omega)) ?_
            refine g_asi (show _ = nI L.length from by rw [Nat.add_sub_cancel_left]) ?_
            refine g_put (C := RX2) (T := TX2) (N := 9) hx hb hts hi2 tyX2 tyX2_ok nmX2 hown hN hW hky rfl (by decide) 5 (by decide) hfX5_29 rfl rfl rfl dX5_build_84 (fun H locs hW => ?_)
            refine lv_aload_n hx hb dX5_build_87 rfl (lv_at hl 2 rfl) ?_
            refine lv_iload hx hb dX5_build_88 (lv_at hl 6 rfl) ?_
            refine g_cV (v := (some (.int (nI ((dep % d + 1) % d))))) (As := [.int (nI (dep % d))]) (b := T) (rest := []) hx hb hml hown hts hN hW.1 (c_axisBehind l Γ K _ T d (dep % d) hk ((gU_k (by decide)).trans ((gU_k (by decide)).trans ((gU_k (by decide)).trans ((gU_k (by decide)).trans g0)))) (Nat.mod_lt _ hd1) hd4) gX5_build_X5_axisBehind rfl hk (by decide) rfl (na := 1) rfl (by decide +kernel) ⟨by simp only [gRm]; omega, by simp only [gRm]; omega⟩ ⟨Nat.zero_le _, Nat.zero_le _⟩ rfl hl.1 (Nat.le_of_ble_eq_true rfl) dX5_build_90 ?_
            show W _ _ _ _ _ _ _ _ _ _ _ _ _ _ _ (F0 m 93 ls [.int (nI ((dep % d + 1) % d))])
            refine g_asi (show _ = nI ((dep + 1) % d) from by rw [Nat.mod_add_mod]) ?_
            obtain ⟨F2, hF2⟩ : ∃ F2, F2 = (gU (gU (gU (gU F1 y 6 (va_rf up)) y 3 (.int (nI dep))) y 4 (.int (nI (dep % d)))) y 5 (.int (nI L.length))) := ⟨_, rfl⟩
            rw [← hF2] at hW
            have y3 : F2 y 3 = .int (nI dep) := by rw [hF2, gU_k (by decide), gU_k (by decide), gU_self]
            have y4 : F2 y 4 = .int (nI (dep % d)) := by rw [hF2, gU_k (by decide), gU_self]
            have y5 : F2 y 5 = .int (nI L.length) := by rw [hF2, gU_self]
            have y6 : F2 y 6 = va_rf up := by rw [hF2, gU_k (by decide), gU_k (by decide), gU_k (by decide), gU_self]
            have n2 : ∀ b j, ¬ (b = y ∧ 3 ≤ j) → F2 b j = F1 b j := fun b j hbj => by
              rw [hF2, gU_ne (fun z => hbj ⟨z.1, by omega⟩), gU_ne (fun z => hbj ⟨z.1, by omega⟩), gU_ne (fun z => hbj ⟨z.1, by omega⟩), gU_ne (fun z => hbj ⟨z.1, by omega⟩)]
            have nd2 : ∀ L', (∀ z ∈ L', z ∈ L) → NDs K F2 dt pl dd L' := fun L' h => NDs_congr (fun b j hbj => by
              have hb : b ≠ row := hbj.elim (fun q => kne q.1 hkr (by decide)) (fun q => kne q hkr (by decide))
              rw [n2 b j (fun z => hbj.elim (fun q => absurd z.2 (by omega)) (fun q => kne q hky (by decide) z.1)), hfr1 b j (fun z => hb z.1)]) (NDs_sub hND h)
            refine lv_istore (lv' := [(8, .int (nI ((dep + 1) % d))), (7, .ref y), (6, .int (nI (fr + (L.length / 2)))), (0, .ref T), (1, .int (nI fr)), (2, .int (nI (fr + L.length))), (3, .int (nI dep)), (4, .int (nI (dep % d))), (5, va_rf up)]) hx hb dX5_build_93 hl (by decide) rfl (fun ls hl => ?_)
            refine lv_aload hx hb dX5_build_95 (lv_at hl 1 rfl) ?_
            refine lv_aload_n hx hb dX5_build_97 rfl (lv_at hl 3 rfl) ?_
            refine lv_iload_n hx hb dX5_build_98 rfl (lv_at hl 4 rfl) ?_
            refine lv_iload hx hb dX5_build_99 (lv_at hl 2 rfl) ?_
            refine lv_iload_n hx hb dX5_build_101 rfl (lv_at hl 6 rfl) ?_
            refine lv_iconst (v := nI 1) hx hb dX5_build_102 (by decide) ?_
            refine lv_iadd hx hb dX5_build_103 ?_
            refine g_asi (show _ = nI (dep + 1) from (nI_add _ _).trans (by rfl)) ?_
            refine lv_iload hx hb dX5_build_104 (lv_at hl 0 rfl) ?_
            refine lv_aload hx hb dX5_build_106 (lv_at hl 1 rfl) ?_
            refine g_mV (As := [.int (nI fr), .int (nI (fr + (L.length / 2))), .int (nI (dep + 1)), .int (nI ((dep + 1) % d)), .ref y]) (b := T) (rest := [.ref y]) hx hb hml hown hts hN hW (by
                have q := ih F2 H.size L1 fr (dep + 1) (some y) (by omega) (by omega) (by omega) ((n2 T 0 (fun z => hyT z.1.symm)).trans g0) ((n2 T 1 (fun z => hyT z.1.symm)).trans g1) (hr1.keep (fun j _ _ => n2 row j (fun z => hnr y hyL z.1.symm))) (nd2 L1 (fun z hz => hmem z (Or.inl hz))) (List.nodup_append.mp hnS).1
                rw [hl1] at q
                exact q) gX5_build_X5_build rfl hk (by decide) rfl (na := 5) rfl (by decide +kernel) ⟨by simp only [gRm]; omega, by simp only [gRm]; omega⟩ ⟨Nat.le_of_ble_eq_true rfl, Nat.le_of_ble_eq_true rfl⟩ rfl hl.1 (Nat.le_of_ble_eq_true rfl) dX5_build_108 (fun v K' F3 H locs hp hW hsz' => ?_)
            obtain ⟨rfl, hK9, hC1, hfr3⟩ := hp
            subst K'
            show W _ _ _ _ _ _ _ _ _ _ _ _ _ _ _ (F0 m 111 ls [va_rf (tRt (bldG (ltA dt) d N (dep + 1) L1)), .ref y])
            refine g_put (C := RX2) (T := TX2) (N := 9) hx hb hts hi2 tyX2 tyX2_ok nmX2 hown hN hW hky rfl (by decide) 7 (by decide) hfX5_53 rfl (va_rf_nar _ _) (va_rf_fit _ _) dX5_build_111 (fun H locs hW => ?_)
            refine lv_aload hx hb dX5_build_114 (lv_at hl 1 rfl) ?_
            refine lv_aload_n hx hb dX5_build_116 rfl (lv_at hl 3 rfl) ?_
            refine lv_iload hx hb dX5_build_117 (lv_at hl 2 rfl) ?_
            refine lv_iconst (v := nI 1) hx hb dX5_build_119 (by decide) ?_
            refine lv_iadd hx hb dX5_build_120 ?_
            refine g_asi (show _ = nI ((fr + (L.length / 2)) + 1) from (nI_add _ _).trans (by rfl)) ?_
            refine lv_iload_n hx hb dX5_build_121 rfl (lv_at hl 5 rfl) ?_
            refine lv_iload_n hx hb dX5_build_122 rfl (lv_at hl 6 rfl) ?_
            refine lv_iconst (v := nI 1) hx hb dX5_build_123 (by decide) ?_
            refine lv_iadd hx hb dX5_build_124 ?_
            refine g_asi (show _ = nI (dep + 1) from (nI_add _ _).trans (by rfl)) ?_
            refine lv_iload hx hb dX5_build_125 (lv_at hl 0 rfl) ?_
            refine lv_aload hx hb dX5_build_127 (lv_at hl 1 rfl) ?_
            have n3 : ∀ b j, ¬ (b = row ∧ fr ≤ j ∧ j < fr + L.length / 2) → ¬ (b ∈ L1 ∧ 3 ≤ j) → F3 b j = F2 b j := hfr3
            obtain ⟨F4, hF4⟩ : ∃ F4, F4 = (gU F3 y 7 (va_rf (tRt (bldG (ltA dt) d N (dep + 1) L1)))) := ⟨_, rfl⟩
            rw [← hF4] at hW
            have n4 : ∀ b j, ¬ (b = y ∧ j = 7) → F4 b j = F3 b j := fun b j h => by rw [hF4, gU_ne h]
            have hTL1 : ∀ j, F4 T j = F1 T j := fun j => by rw [n4 T j (fun z => hyT z.1.symm), n3 T j (fun z => hrT z.1) (fun z => hTL (hmem T (Or.inl z.1))), n2 T j (fun z => hyT z.1.symm)]
            have nd4 : NDs K F4 dt pl dd ys := NDs_congr (fun b j hbj => by
              have hb : b ≠ row := hbj.elim (fun q => kne q.1 hkr (by decide)) (fun q => kne q hkr (by decide))
              rw [n4 b j (fun z => hbj.elim (fun q => absurd z.2 (by omega)) (fun q => kne q hky (by decide) z.1)), n3 b j (fun z => hb z.1) (fun z => hbj.elim (fun q => absurd z.2 (by omega)) (fun q => kne (hND b (hmem b (Or.inl z.1))).1.1 q (by decide) rfl))]) (nd2 ys (fun z hz => hmem z (Or.inr (Or.inr hz))))
            have hto : fr + L.length = fr + L.length / 2 + 1 + ys.length := by omega
            refine g_mV (As := [.int (nI ((fr + (L.length / 2)) + 1)), .int (nI (fr + L.length)), .int (nI (dep + 1)), .int (nI ((dep + 1) % d)), .ref y]) (b := T) (rest := [.ref y]) hx hb hml hown hts hN hW (by
                have q := ih F4 H.size ys (fr + L.length / 2 + 1) (dep + 1) (some y) (by omega) (by omega) (by omega) ((hTL1 0).trans g0) ((hTL1 1).trans g1) (hr3.keep (fun j h1 h2 => by rw [n4 row j (fun z => hnr y hyL z.1.symm), n3 row j (fun z => by omega) (fun z => hnr row (hmem row (Or.inl z.1)) rfl), n2 row j (fun z => hnr y hyL z.1.symm)])) nd4 (List.nodup_cons.mp (List.nodup_append.mp hnS).2.1).2
                rw [← hto] at q
                exact q) gX5_build_X5_build rfl hk (by decide) rfl (na := 5) rfl (by decide +kernel) ⟨by simp only [gRm]; omega, by simp only [gRm]; omega⟩ ⟨Nat.le_of_ble_eq_true rfl, Nat.le_of_ble_eq_true rfl⟩ rfl hl.1 (Nat.le_of_ble_eq_true rfl) dX5_build_129 (fun v K' F5 H locs hp hW hsz' => ?_)
            obtain ⟨rfl, hK9, hC2, hfr5⟩ := hp
            subst K'
            show W _ _ _ _ _ _ _ _ _ _ _ _ _ _ _ (F0 m 132 ls [va_rf (tRt (bldG (ltA dt) d N (dep + 1) ys)), .ref y])
            refine g_put (C := RX2) (T := TX2) (N := 9) hx hb hts hi2 tyX2 tyX2_ok nmX2 hown hN hW hky rfl (by decide) 8 (by decide) hfX5_56 rfl (va_rf_nar _ _) (va_rf_fit _ _) dX5_build_132 (fun H locs hW => ?_)
            refine lv_aload hx hb dX5_build_135 (lv_at hl 1 rfl) ?_
            have n5 : ∀ b j, ¬ (b = row ∧ fr + L.length / 2 + 1 ≤ j ∧ j < fr + L.length) → ¬ (b ∈ ys ∧ 3 ≤ j) → F5 b j = F4 b j := fun b j h1 h2 => hfr5 b j (fun z => h1 ⟨z.1, z.2.1, by omega⟩) h2
            obtain ⟨F6, hF6⟩ : ∃ F6, F6 = (gU F5 y 8 (va_rf (tRt (bldG (ltA dt) d N (dep + 1) ys)))) := ⟨_, rfl⟩
            rw [← hF6] at hW
            have n6 : ∀ b j, ¬ (b = y ∧ j = 8) → F6 b j = F5 b j := fun b j h => by rw [hF6, gU_ne h]
            have yk : ∀ j, j ≠ 7 → j ≠ 8 → F6 y j = F2 y j := fun j h7 h8 => by rw [n6 y j (fun z => h8 z.2), n5 y j (fun z => hnr y hyL z.1) (fun z => hy2 z.1), n4 y j (fun z => h7 z.2), n3 y j (fun z => hnr y hyL z.1) (fun z => hy1 z.1)]
            have y7 : F6 y 7 = va_rf (tRt (bldG (ltA dt) d N (dep + 1) L1)) := by rw [n6 y 7 (fun z => absurd z.2 (by decide)), n5 y 7 (fun z => hnr y hyL z.1) (fun z => hy2 z.1), hF4, gU_self]
            have y8 : F6 y 8 = va_rf (tRt (bldG (ltA dt) d N (dep + 1) ys)) := by rw [hF6, gU_self]
            have hb : bldG (ltA dt) d (N + 1) dep L = tN (bldG (ltA dt) d N (dep + 1) L1) y (bldG (ltA dt) d N (dep + 1) ys) := by
              rw [bldG_cons (y := y) (ys := ys) (by rw [hSe]; exact hdr), hSe, hL1]
            have b1 := bldG_perm (ltA dt) d N (dep + 1) L1 (by omega)
            have b2 := bldG_perm (ltA dt) d N (dep + 1) ys (by omega)
            exact hret (some (va_rf (some y))) _ _ _ _ _ _ hW (by
                rw [hb]
                refine ⟨rfl, rfl, ⟨(yk 3 (by decide) (by decide)).trans y3, (yk 4 (by decide) (by decide)).trans y4, ?_, (yk 6 (by decide) (by decide)).trans y6, y7, y8, ?_, ?_⟩, ?_⟩
                · rw [yk 5 (by decide) (by decide), y5, bldG_sz _ _ _ _ _ (by omega), bldG_sz _ _ _ _ _ (by omega), hl1]
                  congr 2
                  omega
                · refine CT_congr (fun a ha k _ => ?_) hC1
                  have ha := b1.mem_iff.mp ha
                  have hay : a ≠ y := fun z => hy1 (z ▸ ha)
                  rw [n6 a k (fun z => hay z.1), n5 a k (fun z => hnr a (hmem a (Or.inl ha)) z.1) (fun z => hdis a ha z.1), n4 a k (fun z => hay z.1)]
                · refine CT_congr (fun a ha k _ => ?_) hC2
                  have ha := b2.mem_iff.mp ha
                  rw [n6 a k (fun z => hy2 (z.1 ▸ ha))]
                · intro b j h1 h2
                  rw [n6 b j (fun z => h2 ⟨z.1 ▸ hyL, by omega⟩), n5 b j (fun z => h1 ⟨z.1, by omega, by omega⟩) (fun z => h2 ⟨hmem b (Or.inr (Or.inr z.1)), z.2⟩), n4 b j (fun z => h2 ⟨z.1 ▸ hyL, by omega⟩), n3 b j (fun z => h1 ⟨z.1, by omega, by omega⟩) (fun z => h2 ⟨hmem b (Or.inl z.1), z.2⟩), n2 b j (fun z => h2 ⟨z.1 ▸ hyL, z.2⟩), hfr1 b j h1]) (rt_a dX5_build_137)
          · have c4 : 120 ≤ dep := Nat.not_lt.mp (fun z => c4 ((nI_ltI (by omega) (by omega)).mpr z))
            exact absurd c4 (by omega)
end
section
theorem hang_step {F1 : gF} {d s a : Nat} {v : Unit} {l r : TT Nat} {c : cxT Nat} (hC : CT F1 d (.inner s a v l r) (cTop c) c.length) (hPr : PXr F1 d c (some a)) (hPz : PXz F1 c (tSz l + tSz r + 1 + 1)) (hnd : (a :: (tPre l ++ tPre r) ++ cAd c).Nodup) :
    (CT (gU F1 a 5 (.int (nI (tSz l + tSz r + 1 + 1)))) d l (some a) (c.length + 1) ∧ PXr (gU F1 a 5 (.int (nI (tSz l + tSz r + 1 + 1)))) d ((true, a, r) :: c) (tRt l) ∧ PXz (gU F1 a 5 (.int (nI (tSz l + tSz r + 1 + 1)))) ((true, a, r) :: c) (tSz l + 1)) ∧
    (CT (gU F1 a 5 (.int (nI (tSz l + tSz r + 1 + 1)))) d r (some a) (c.length + 1) ∧ PXr (gU F1 a 5 (.int (nI (tSz l + tSz r + 1 + 1)))) d ((false, a, l) :: c) (tRt r) ∧ PXz (gU F1 a 5 (.int (nI (tSz l + tSz r + 1 + 1)))) ((false, a, l) :: c) (tSz r + 1)) := by
  obtain ⟨h1, h2, h3, h4, h5, h6, h7, h8⟩ := hC
  have hn := List.nodup_cons.mp (show (a :: ((tPre l ++ tPre r) ++ cAd c)).Nodup from hnd)
  have na : ∀ z, z ∈ tPre l ∨ z ∈ tPre r ∨ z ∈ cAd c → z ≠ a := fun z hz e => hn.1 (by rw [← e]; simpa [or_assoc] using hz)
  have hcn : (cAd c).Nodup := (List.nodup_append.mp hn.2).2.1
  have cl : CT (gU F1 a 5 (.int (nI (tSz l + tSz r + 1 + 1)))) d l (some a) (c.length + 1) := CT_congr (fun z hz k _ => gU_a (na z (Or.inl hz))) h7
  have cr : CT (gU F1 a 5 (.int (nI (tSz l + tSz r + 1 + 1)))) d r (some a) (c.length + 1) := CT_congr (fun z hz k _ => gU_a (na z (Or.inr (Or.inl hz)))) h8
  have pr : PXr (gU F1 a 5 (.int (nI (tSz l + tSz r + 1 + 1)))) d c (some a) := PXr_congr (fun z hz k _ _ => gU_a (na z (Or.inr (Or.inr hz)))) hcn hPr
  have pz : PXz (gU F1 a 5 (.int (nI (tSz l + tSz r + 1 + 1)))) c (tSz l + tSz r + 1 + 1) := PXz_congr (fun z hz => gU_a (na z (Or.inr (Or.inr (cPath_sub hz))))) hPz
  have k : ∀ j, j ≠ 5 → gU F1 a 5 (.int (nI (tSz l + tSz r + 1 + 1))) a j = F1 a j := fun j hj => gU_k hj
  refine ⟨⟨cl, ⟨by rw [k 3 (by decide), h1], by rw [k 4 (by decide), h2], by rw [k 6 (by decide), h4], by rw [k 7 (by decide), h5]; rfl, by rw [k 8 (by decide), h6]; rfl, cr, pr⟩, ?_⟩, cr, ⟨by rw [k 3 (by decide), h1], by rw [k 4 (by decide), h2], by rw [k 6 (by decide), h4], by rw [k 7 (by decide), h5]; rfl, by rw [k 8 (by decide), h6]; rfl, cl, pr⟩, ?_⟩
  · rw [PXz, show tSz l + 1 + tSz r + 1 = tSz l + tSz r + 1 + 1 by omega]
    exact ⟨gU_self, pz⟩
  · rw [PXz, show tSz r + 1 + tSz l + 1 = tSz l + tSz r + 1 + 1 by omega]
    exact ⟨gU_self, pz⟩
theorem hang_end {F1 F' : gF} {d a x : Nat} {b : Bool} {o : TT Nat} {c : cxT Nat} (hPr : PXr F1 d ((b, a, o) :: c) none) (hPz : PXz F1 ((b, a, o) :: c) 1) (hnd : (cAd ((b, a, o) :: c)).Nodup)
    (ho : ∀ z k, z ≠ x → z ≠ a → F' z k = F1 z k) (ha : ∀ k, k ≠ 7 → k ≠ 8 → F' a k = F1 a k) (h7 : F' a 7 = if b then .ref x else F1 a 7) (h8 : F' a 8 = if b then F1 a 8 else .ref x) (hx : x ∉ cAd ((b, a, o) :: c))
    (x3 : F' x 3 = .int (nI (c.length + 1))) (x4 : F' x 4 = .int (nI ((c.length + 1) % d))) (x5 : F' x 5 = .int (nI 1)) (x6 : F' x 6 = .ref a) (x7 : F' x 7 = .null) (x8 : F' x 8 = .null) : CT F' d (plug ((b, a, o) :: c) (tN tL x tL)) none 0 := by
  obtain ⟨h1, h2, h4, h5, h6, h9, h10⟩ := hPr
  obtain ⟨z1, z2⟩ := hPz
  have hn := List.nodup_cons.mp (show (a :: (tPre o ++ cAd c)).Nodup from hnd)
  have na : ∀ z, z ∈ tPre o ++ cAd c → z ≠ x ∧ z ≠ a := fun z hz => ⟨fun e => hx (by rw [← e]; exact List.mem_cons_of_mem _ hz), fun e => hn.1 (by rw [← e]; exact hz)⟩
  refine CT_plug.mpr ⟨⟨x3, x4, x5, x6, x7, x8, trivial, trivial⟩, ⟨by rw [ha 3 (by decide) (by decide), h1], by rw [ha 4 (by decide) (by decide), h2], by rw [ha 6 (by decide) (by decide), h4], ?_, ?_, CT_congr (fun z hz k _ => ho z k (na z (List.mem_append_left _ hz)).1 (na z (List.mem_append_left _ hz)).2) h9, PXr_congr (fun z hz k _ _ => ho z k (na z (List.mem_append_right _ hz)).1 (na z (List.mem_append_right _ hz)).2) (List.nodup_append.mp hn.2).2.1 h10⟩, ⟨by rw [ha 5 (by decide) (by decide), z1]; rfl, PXz_congr (fun z hz => ho z 5 (na z (List.mem_append_right _ (cPath_sub hz))).1 (na z (List.mem_append_right _ (cPath_sub hz))).2) z2⟩⟩
  · rw [h7]
    cases b
    · exact h5
    · rfl
  · rw [h8]
    cases b
    · rfl
    · exact h6

theorem insG_root {α : Type} {lt : Nat → α → α → Bool} {d dep : Nat} {x : α} {t : TT α} (h : t ≠ tL) : tRt t = tRt (insG lt d x dep t) := by
  cases t with
  | leaf => exact absurd rfl h
  | inner s a v l r =>
    unfold insG
    split <;> rfl

set_option maxHeartbeats 4000000 in
set_option maxRecDepth 100000 in
theorem c_hang (l : Launch) (Γ : gG) (K : gK) (F : gF) (sz : Nat) (T x d : Nat) (tc : TT Nat) (dt : Nat → gPt) (pl : Nat → Nat) (dd : Nat → Bool) (hk : K T = some (5, 0)) (h0 : F T 0 = .int (nI d)) (h2 : F T 2 = va_rf (tRt tc)) (hC : CT F d tc none 0) (hND : NDs K F dt pl dd (x :: tPre tc)) (hxt : x ∉ tPre tc) (hnd : (tPre tc).Nodup) (i3 : F x 3 = .int (nI 0)) (i4 : F x 4 = .int (nI 0)) (i5 : F x 5 = .int (nI 1)) (i6 : F x 6 = .null) (i7 : F x 7 = .null) (i8 : F x 8 = .null) (hd1 : 0 < d) (hd4 : d ≤ 4) : gMM l yX5_hang wsX5_hang 3 0 0 Γ K F sz [.ref T, .ref x] (fun v K' F' => v = none ∧ K' = K ∧ F' T 2 = va_rf (tRt (insG (ltA dt) d x 0 tc)) ∧ CT F' d (insG (ltA dt) d x 0 tc) none 0 ∧ ∀ b j, ¬ (K b = some (2, 0) ∧ 3 ≤ j) → ¬ (b = T ∧ j = 2) → F' b j = F b j) := by
  refine g_mM (cc := cX5_hang) (maxL := 4) (ret := none) (by decide) rfl (Nat.le_of_ble_eq_true rfl) ?_
  intro p e s m args below meth c ls Z hsz hx hb hts hown hml hnm hN hW hret hl
  have hl : lv_has ls 4 [(0, .ref T), (1, .ref x)] := hl
  have hown : s.vm.findClass RX5 = some m.cls := hown
  have hi2 : ∀ w ∈ wsX20, w ∈ wsX5_hang := by decide +kernel
  have hi5 : ∀ w ∈ wsX50, w ∈ wsX5_hang := by decide +kernel
  have hfX5_21 : Cond.fieldLink RX5 21 (TX5 2).1 (TX5 2).2.1 (TX5 2).2.2.1 ∈ wsX5_hang := by decide +kernel
  have hfX5_29 : Cond.fieldLink RX5 29 (TX2 5).1 (TX2 5).2.1 (TX2 5).2.2.1 ∈ wsX5_hang := by decide +kernel
  have hfX5_36 : Cond.fieldLink RX5 36 (TX2 6).1 (TX2 6).2.1 (TX2 6).2.2.1 ∈ wsX5_hang := by decide +kernel
  have hfX5_39 : Cond.fieldLink RX5 39 (TX2 3).1 (TX2 3).2.1 (TX2 3).2.2.1 ∈ wsX5_hang := by decide +kernel
  have hfX5_42 : Cond.fieldLink RX5 42 (TX2 4).1 (TX2 4).2.1 (TX2 4).2.2.1 ∈ wsX5_hang := by decide +kernel
  have hfX5_53 : Cond.fieldLink RX5 53 (TX2 7).1 (TX2 7).2.1 (TX2 7).2.2.1 ∈ wsX5_hang := by decide +kernel
  have hfX5_56 : Cond.fieldLink RX5 56 (TX2 8).1 (TX2 8).2.1 (TX2 8).2.2.1 ∈ wsX5_hang := by decide +kernel
  have hkx : K x = some (2, 0) := (hND x List.mem_cons_self).1.1
  have hroot : ∀ (b : Bool) (a : Nat) (o : TT Nat) (c : cxT Nat), insG (ltA dt) d x 0 tc = plug ((b, a, o) :: c) (tN tL x tL) → tRt tc = tRt (plug ((b, a, o) :: c) (tN tL x tL)) := by
    intro b a o c e
    rw [← e]
    exact insG_root (by
      intro h
      have := congrArg tSz e
      rw [insG_sz, plug_sz, h] at this
      simp [tSz, cAd] at this)
  have loop : ∀ (t : TT Nat) (c0 : cxT Nat) (F1 : gF) (H : Heap) (locs : List Loc) (ls : Array Slot), insG (ltA dt) d x 0 tc = plug c0 (insG (ltA dt) d x c0.length t) → CT F1 d t (cTop c0) c0.length → PXr F1 d c0 (tRt t) → PXz F1 c0 (tSz t + 1) → (∀ b a o c', c0 = (b, a, o) :: c' → b = ltA dt (c'.length % d) x a) → (tPre t ++ cAd c0).Nodup → (∀ z ∈ tPre t ++ cAd c0, z ∈ tPre tc) → (∀ b j, ¬ (b ∈ tPre tc ∧ j = 5) → F1 b j = F b j) → gW Γ (gA K sz) s.heap K F1 H locs → lv_has ls 4 [(3, va_rf (tRt t)), (2, va_rf (cTop c0)), (0, .ref T), (1, .ref x)] → W p l e (gRm 3 0 0) s m args below meth c H locs 0 0 Z (F0 m 7 ls []) := by
    intro t
    induction t with
    | leaf =>
      intro c0 F1 H locs ls hins hC1 hPr hPz hbb hnd1 hsub hfr hW hl
      have ndF : ∀ L', (∀ z ∈ L', z ∈ x :: tPre tc) → ∀ F2 : gF, (∀ b j, ¬ (K b = some (2, 0) ∧ 3 ≤ j) → ¬ (b = T ∧ j = 2) → F2 b j = F b j) → NDs K F2 dt pl dd L' := fun L' h F2 h2 => NDs_congr (fun b j hbj => h2 b j (fun z => hbj.elim (fun q => absurd z.2 (by omega)) (fun q => absurd (q.symm.trans z.1) (by simp))) (fun z => hbj.elim (fun q => kne q.1 hk (by decide) z.1) (fun q => kne q hk (by decide) z.1))) (NDs_sub hND h)
      have hl : lv_has ls 4 [(3, .null), (2, va_rf (cTop c0)), (0, .ref T), (1, .ref x)] := hl
      refine lv_aload_nN hx hb dX5_hang_7 rfl (lv_at hl 0 rfl) ?_
      refine lv_ifnullN (tgt := 32) hx hb dX5_hang_8 (by decide) ?_
      rcases c0 with _ | ⟨⟨b, a, o⟩, c1⟩
      · have hl : lv_has ls 4 [(3, .null), (2, .null), (0, .ref T), (1, .ref x)] := hl
        refine lv_aload_nN hx hb dX5_hang_32 rfl (lv_at hl 1 rfl) ?_
        refine lv_ifnonnullN hx hb dX5_hang_33 ?_
        refine lv_aload_n hx hb dX5_hang_36 rfl (lv_at hl 2 rfl) ?_
        refine lv_aload_n hx hb dX5_hang_37 rfl (lv_at hl 3 rfl) ?_
        refine g_put (C := RX5) (T := TX5) (N := 4) hx hb hts hi5 tyX5 tyX5_ok nmX5 hown hN hW hk rfl (by decide) 2 (by decide) hfX5_21 rfl rfl rfl dX5_hang_38 (fun H locs hW => ?_)
        have xk : ∀ j, gU F1 T 2 (.ref x) x j = F x j := fun j => by rw [gU_a (kne hkx hk (by decide)), hfr x j (fun z => hxt z.1)]
        exact hret none _ _ _ _ _ _ hW (⟨rfl, rfl, by rw [hins]; exact gU_self, by rw [hins]; exact ⟨by rw [xk]; exact i3, by rw [xk, i4, Nat.zero_mod], by rw [xk]; exact i5, by rw [xk]; exact i6, by rw [xk]; exact i7, by rw [xk]; exact i8, trivial, trivial⟩, fun b j b1 b2 => by rw [gU_ne b2]; exact hfr b j (fun z => b1 ⟨(hND b (List.mem_cons_of_mem _ z.1)).1.1, by omega⟩)⟩) (rt_v dX5_hang_41)
      · have hl : lv_has ls 4 [(3, .null), (2, .ref a), (0, .ref T), (1, .ref x)] := hl
        have hat : a ∈ tPre tc := hsub a (List.mem_append_right _ List.mem_cons_self)
        have hka : K a = some (2, 0) := (hND a (List.mem_cons_of_mem _ hat)).1.1
        have hax : a ≠ x := fun e => hxt (e ▸ hat)
        have hbe := hbb b a o c1 rfl
        have xk1 : ∀ j, F1 x j = F x j := fun j => hfr x j (fun z => hxt z.1)
        have p1 : F1 a 3 = .int (nI c1.length) := hPr.1
        have p2 : F1 a 4 = .int (nI (c1.length % d)) := hPr.2.1
        have p0 : F1 T 0 = .int (nI d) := (hfr T 0 (fun z => absurd z.2 (by decide))).trans h0
        have hmd := Nat.mod_lt c1.length hd1
        refine lv_aload_n hx hb dX5_hang_32 rfl (lv_at hl 1 rfl) ?_
        refine lv_ifnonnull (tgt := 42) hx hb dX5_hang_33 (by decide) ?_
        refine lv_aload_n hx hb dX5_hang_42 rfl (lv_at hl 3 rfl) ?_
        refine lv_aload_n hx hb dX5_hang_43 rfl (lv_at hl 1 rfl) ?_
        refine g_put (C := RX2) (T := TX2) (N := 9) hx hb hts hi2 tyX2 tyX2_ok nmX2 hown hN hW (hND x List.mem_cons_self).1.1 rfl (by decide) 6 (by decide) hfX5_36 rfl rfl rfl dX5_hang_44 (fun H locs hW => ?_)
        refine lv_aload_n hx hb dX5_hang_47 rfl (lv_at hl 3 rfl) ?_
        refine lv_aload_n hx hb dX5_hang_48 rfl (lv_at hl 1 rfl) ?_
        refine g_get (C := RX2) (T := TX2) (N := 9) hx hb hts hi2 hown hN hW.1 hka rfl (by decide) 3 (by decide) hfX5_39 (v := .int (nI c1.length)) ((gU_k (by decide)).trans p1) dX5_hang_49 ?_
        refine lv_iconst (v := nI 1) hx hb dX5_hang_52 (by decide) ?_
        refine lv_iadd hx hb dX5_hang_53 ?_
        refine g_asi (show _ = nI (c1.length + 1) from (nI_add _ _).trans (by rfl)) ?_
        refine g_put (C := RX2) (T := TX2) (N := 9) hx hb hts hi2 tyX2 tyX2_ok nmX2 hown hN hW (hND x List.mem_cons_self).1.1 rfl (by decide) 3 (by decide) hfX5_39 rfl rfl rfl dX5_hang_54 (fun H locs hW => ?_)
        refine lv_aload_n hx hb dX5_hang_57 rfl (lv_at hl 3 rfl) ?_
        refine lv_aload_n hx hb dX5_hang_58 rfl (lv_at hl 2 rfl) ?_
        refine lv_aload_n hx hb dX5_hang_59 rfl (lv_at hl 1 rfl) ?_
        refine g_get (C := RX2) (T := TX2) (N := 9) hx hb hts hi2 hown hN hW.1 hka rfl (by decide) 4 (by decide) hfX5_42 (v := .int (nI (c1.length % d))) ((gU_k (by decide)).trans ((gU_k (by decide)).trans p2)) dX5_hang_60 ?_
        refine g_cV (v := (some (.int (nI ((c1.length % d + 1) % d))))) (As := [.int (nI (c1.length % d))]) (b := T) (rest := [.ref x]) hx hb hml hown hts hN hW.1 (c_axisBehind l Γ K _ T d (c1.length % d) hk ((gU_k (by decide)).trans ((gU_k (by decide)).trans p0)) hmd hd4) gX5_hang_X5_axisBehind rfl hk (by decide) rfl (na := 1) rfl (by decide +kernel) ⟨by decide, by decide⟩ ⟨Nat.zero_le _, Nat.zero_le _⟩ rfl hl.1 (Nat.le_of_ble_eq_true rfl) dX5_hang_63 ?_
        show W _ _ _ _ _ _ _ _ _ _ _ _ _ _ _ (F0 m 66 ls [.int (nI ((c1.length % d + 1) % d)), .ref x])
        refine g_asi (show _ = nI ((c1.length + 1) % d) from by rw [Nat.mod_add_mod]) ?_
        refine g_put (C := RX2) (T := TX2) (N := 9) hx hb hts hi2 tyX2 tyX2_ok nmX2 hown hN hW (hND x List.mem_cons_self).1.1 rfl (by decide) 4 (by decide) hfX5_42 rfl rfl rfl dX5_hang_66 (fun H locs hW => ?_)
        obtain ⟨F2, hF2⟩ : ∃ F2, F2 = (gU (gU (gU F1 x 6 (.ref a)) x 3 (.int (nI (c1.length + 1)))) x 4 (.int (nI ((c1.length + 1) % d)))) := ⟨_, rfl⟩
        rw [← hF2] at hW
        have n2 : ∀ b j, b ≠ x → F2 b j = F1 b j := fun b j hb => by rw [hF2, gU_a hb, gU_a hb, gU_a hb]
        have nx : ∀ j, j < 3 ∨ j = 5 ∨ 7 ≤ j → F2 x j = F x j := fun j hj => by rw [hF2, gU_k (by omega), gU_k (by omega), gU_k (by omega), xk1]
        have nd2 := ndF (x :: tPre tc) (fun _ h => h) F2 (fun b j b1 b2 => by
          rcases Nat.decEq b x with e | e
          · rw [n2 b j e]; exact hfr b j (fun z => b1 ⟨(hND b (List.mem_cons_of_mem _ z.1)).1.1, by omega⟩)
          · subst e; exact nx j (Or.inl (Nat.not_le.mp (fun z => b1 ⟨hkx, z⟩))))
        refine lv_aload_n hx hb dX5_hang_69 rfl (lv_at hl 3 rfl) ?_
        refine lv_aload_n hx hb dX5_hang_70 rfl (lv_at hl 1 rfl) ?_
        refine lv_aload_n hx hb dX5_hang_71 rfl (lv_at hl 1 rfl) ?_
        refine g_get (C := RX2) (T := TX2) (N := 9) hx hb hts hi2 hown hN hW.1 hka rfl (by decide) 4 (by decide) hfX5_42 (v := .int (nI (c1.length % d))) ((n2 a 4 hax).trans p2) dX5_hang_72 ?_
        refine g_cV (v := (some (.int (bI (ltA dt (c1.length % d) x a))))) (As := [.ref a, .int (nI (c1.length % d))]) (b := x) (rest := []) hx hb hml hown hts hN hW.1 (c_isLess l Γ K F2 x a (pl x) (pl a) (dt x) (dt a) (c1.length % d) (nd2 x List.mem_cons_self).1 (nd2 a (List.mem_cons_of_mem _ hat)).1 (by omega)) gX5_hang_X2_isLess rfl (hND x List.mem_cons_self).1.1 (by decide) rfl (na := 2) rfl (by decide +kernel) ⟨by decide, by decide⟩ ⟨Nat.zero_le _, Nat.zero_le _⟩ rfl hl.1 (Nat.le_of_ble_eq_true rfl) dX5_hang_75 ?_
        show W _ _ _ _ _ _ _ _ _ _ _ _ _ _ _ (F0 m 78 ls [.int (bI (ltA dt (c1.length % d) x a))])
        refine lv_if_eq (tgt := 89) hx hb dX5_hang_78 (by decide) (fun cz => ?_) (fun cz => ?_)
        · have cz : (ltA dt (c1.length % d) x a) = false := bI_0.mp cz
          rw [cz] at hbe
          subst hbe
          refine lv_aload_n hx hb dX5_hang_89 rfl (lv_at hl 1 rfl) ?_
          refine lv_aload_n hx hb dX5_hang_90 rfl (lv_at hl 3 rfl) ?_
          refine g_put (C := RX2) (T := TX2) (N := 9) hx hb hts hi2 tyX2 tyX2_ok nmX2 hown hN hW hka rfl (by decide) 8 (by decide) hfX5_56 rfl rfl rfl dX5_hang_91 (fun H locs hW => ?_)
          obtain ⟨F3, hF3⟩ : ∃ F3, F3 = (gU F2 a 8 (.ref x)) := ⟨_, rfl⟩
          rw [← hF3] at hW
          have n3 : ∀ b j, ¬ (b = a ∧ j = 8) → F3 b j = F2 b j := fun b j h => by rw [hF3, gU_ne h]
          have hE : CT F3 d (plug ((false, a, o) :: c1) (tN tL x tL)) none 0 := by
            refine hang_end hPr hPz (List.nodup_append.mp hnd1).2.1 (fun z k z1 z2 => by rw [n3 z k (fun q => z2 q.1), n2 z k z1]) (fun k k7 k8 => by rw [n3 a k (fun q => k8 q.2), n2 a k hax]) ?_ ?_ (fun h => hxt (hsub x (List.mem_append_right _ h))) ?_ ?_ ?_ ?_ ?_ ?_
            · rw [n3 a 7 (fun q => absurd q.2 (by decide)), n2 a 7 hax]; rfl
            · rw [hF3, gU_self]; rfl
            · rw [n3 x 3 (fun q => hax q.1.symm), hF2, gU_k (by decide), gU_self]
            · rw [n3 x 4 (fun q => hax q.1.symm), hF2, gU_self]
            · rw [n3 x 5 (fun q => hax q.1.symm), nx 5 (by omega), i5]
            · rw [n3 x 6 (fun q => hax q.1.symm), hF2, gU_k (by decide), gU_k (by decide), gU_self]
            · rw [n3 x 7 (fun q => hax q.1.symm), nx 7 (by omega), i7]
            · rw [n3 x 8 (fun q => hax q.1.symm), nx 8 (by omega), i8]
          exact hret none _ _ _ _ _ _ hW (by
              rw [hins]
              refine ⟨rfl, rfl, ?_, hE, fun b j b1 b2 => ?_⟩
              · rw [n3 T 2 (fun q => kne hk hka (by decide) q.1), n2 T 2 (kne hk hkx (by decide)), hfr T 2 (fun q => absurd q.2 (by decide)), h2, hroot _ _ _ _ hins]; rfl
              · rw [n3 b j (fun q => b1 ⟨by rw [q.1]; exact hka, by omega⟩)]
                rcases Nat.decEq b x with e | e
                · rw [n2 b j e]; exact hfr b j (fun z => b1 ⟨(hND b (List.mem_cons_of_mem _ z.1)).1.1, by omega⟩)
                · subst e; exact nx j (Or.inl (Nat.not_le.mp (fun z => b1 ⟨hkx, z⟩)))) (rt_v dX5_hang_94)
        · have cz : (ltA dt (c1.length % d) x a) = true := bI_n0.mp cz
          rw [cz] at hbe
          subst hbe
          refine lv_aload_n hx hb dX5_hang_81 rfl (lv_at hl 1 rfl) ?_
          refine lv_aload_n hx hb dX5_hang_82 rfl (lv_at hl 3 rfl) ?_
          refine g_put (C := RX2) (T := TX2) (N := 9) hx hb hts hi2 tyX2 tyX2_ok nmX2 hown hN hW hka rfl (by decide) 7 (by decide) hfX5_53 rfl rfl rfl dX5_hang_83 (fun H locs hW => ?_)
          refine lv_goto (tgt := 94) hx hb dX5_hang_86 (by decide) ?_
          obtain ⟨F3, hF3⟩ : ∃ F3, F3 = (gU F2 a 7 (.ref x)) := ⟨_, rfl⟩
          rw [← hF3] at hW
          have n3 : ∀ b j, ¬ (b = a ∧ j = 7) → F3 b j = F2 b j := fun b j h => by rw [hF3, gU_ne h]
          have hE : CT F3 d (plug ((true, a, o) :: c1) (tN tL x tL)) none 0 := by
            refine hang_end hPr hPz (List.nodup_append.mp hnd1).2.1 (fun z k z1 z2 => by rw [n3 z k (fun q => z2 q.1), n2 z k z1]) (fun k k7 k8 => by rw [n3 a k (fun q => k7 q.2), n2 a k hax]) ?_ ?_ (fun h => hxt (hsub x (List.mem_append_right _ h))) ?_ ?_ ?_ ?_ ?_ ?_
            · rw [hF3, gU_self]; rfl
            · rw [n3 a 8 (fun q => absurd q.2 (by decide)), n2 a 8 hax]; rfl
            · rw [n3 x 3 (fun q => hax q.1.symm), hF2, gU_k (by decide), gU_self]
            · rw [n3 x 4 (fun q => hax q.1.symm), hF2, gU_self]
            · rw [n3 x 5 (fun q => hax q.1.symm), nx 5 (by omega), i5]
            · rw [n3 x 6 (fun q => hax q.1.symm), hF2, gU_k (by decide), gU_k (by decide), gU_self]
            · rw [n3 x 7 (fun q => hax q.1.symm), nx 7 (by omega), i7]
            · rw [n3 x 8 (fun q => hax q.1.symm), nx 8 (by omega), i8]
          exact hret none _ _ _ _ _ _ hW (by
              rw [hins]
              refine ⟨rfl, rfl, ?_, hE, fun b j b1 b2 => ?_⟩
              · rw [n3 T 2 (fun q => kne hk hka (by decide) q.1), n2 T 2 (kne hk hkx (by decide)), hfr T 2 (fun q => absurd q.2 (by decide)), h2, hroot _ _ _ _ hins]; rfl
              · rw [n3 b j (fun q => b1 ⟨by rw [q.1]; exact hka, by omega⟩)]
                rcases Nat.decEq b x with e | e
                · rw [n2 b j e]; exact hfr b j (fun z => b1 ⟨(hND b (List.mem_cons_of_mem _ z.1)).1.1, by omega⟩)
                · subst e; exact nx j (Or.inl (Nat.not_le.mp (fun z => b1 ⟨hkx, z⟩)))) (rt_v dX5_hang_94)
    | inner s9 a v9 L R ihl ihr =>
      intro c0 F1 H locs ls hins hC1 hPr hPz hbb hnd1 hsub hfr hW hl
      have ndF : ∀ L', (∀ z ∈ L', z ∈ x :: tPre tc) → ∀ F2 : gF, (∀ b j, ¬ (K b = some (2, 0) ∧ 3 ≤ j) → ¬ (b = T ∧ j = 2) → F2 b j = F b j) → NDs K F2 dt pl dd L' := fun L' h F2 h2 => NDs_congr (fun b j hbj => h2 b j (fun z => hbj.elim (fun q => absurd z.2 (by omega)) (fun q => absurd (q.symm.trans z.1) (by simp))) (fun z => hbj.elim (fun q => kne q.1 hk (by decide) z.1) (fun q => kne q hk (by decide) z.1))) (NDs_sub hND h)
      have hl : lv_has ls 4 [(3, .ref a), (2, va_rf (cTop c0)), (0, .ref T), (1, .ref x)] := hl
      have hat : a ∈ tPre tc := hsub a (List.mem_append_left _ List.mem_cons_self)
      have hka : K a = some (2, 0) := (hND a (List.mem_cons_of_mem _ hat)).1.1
      have hax : a ≠ x := fun e => hxt (e ▸ hat)
      have hst := hang_step hC1 hPr hPz hnd1
      have hmd := Nat.mod_lt c0.length hd1
      have p5 : F1 a 5 = .int (nI (tSz L + tSz R + 1)) := hC1.2.2.1
      refine lv_aload_n hx hb dX5_hang_7 rfl (lv_at hl 0 rfl) ?_
      refine lv_ifnull hx hb dX5_hang_8 ?_
      refine lv_aload_n hx hb dX5_hang_11 rfl (lv_at hl 0 rfl) ?_
      refine lv_astore_n (lv' := [(2, .ref a), (3, .ref a), (0, .ref T), (1, .ref x)]) hx hb dX5_hang_12 rfl hl (by decide) rfl (fun ls hl => ?_)
      refine lv_aload_n hx hb dX5_hang_13 rfl (lv_at hl 0 rfl) ?_
      refine lv_dup hx hb dX5_hang_14 rfl ?_
      refine g_get (C := RX2) (T := TX2) (N := 9) hx hb hts hi2 hown hN hW.1 hka rfl (by decide) 5 (by decide) hfX5_29 (v := .int (nI (tSz L + tSz R + 1))) p5 dX5_hang_15 ?_
      refine lv_iconst (v := nI 1) hx hb dX5_hang_18 (by decide) ?_
      refine lv_iadd hx hb dX5_hang_19 ?_
      refine g_asi (show _ = nI ((tSz L + tSz R + 1) + 1) from (nI_add _ _).trans (by rfl)) ?_
      refine g_put (C := RX2) (T := TX2) (N := 9) hx hb hts hi2 tyX2 tyX2_ok nmX2 hown hN hW hka rfl (by decide) 5 (by decide) hfX5_29 rfl rfl rfl dX5_hang_20 (fun H locs hW => ?_)
      obtain ⟨F2, hF2⟩ : ∃ F2, F2 = (gU F1 a 5 (.int (nI ((tSz L + tSz R + 1) + 1)))) := ⟨_, rfl⟩
      rw [← hF2] at hW hst
      have nfr : ∀ b j, ¬ (b ∈ tPre tc ∧ j = 5) → F2 b j = F b j := fun b j h => by rw [hF2, gU_ne (fun z => h ⟨by rw [z.1]; exact hat, z.2⟩)]; exact hfr b j h
      have nd2 := ndF (x :: tPre tc) (fun _ h => h) F2 (fun b j b1 b2 => nfr b j (fun z => b1 ⟨(hND b (List.mem_cons_of_mem _ z.1)).1.1, by omega⟩))
      have q4 : F2 a 4 = .int (nI (c0.length % d)) := by rw [hF2, gU_k (by decide)]; exact hC1.2.1
      have q7 : F2 a 7 = va_rf (tRt L) := by rw [hF2, gU_k (by decide)]; exact hC1.2.2.2.2.1
      have q8 : F2 a 8 = va_rf (tRt R) := by rw [hF2, gU_k (by decide)]; exact hC1.2.2.2.2.2.1
      refine lv_aload_n hx hb dX5_hang_23 rfl (lv_at hl 0 rfl) ?_
      refine lv_aload_n hx hb dX5_hang_24 rfl (lv_at hl 3 rfl) ?_
      refine g_cV (v := (some (va_rf (if pLess (c0.length % d) (dt x) (dt a) then tRt L else tRt R)))) (As := [.ref x]) (b := a) (rest := []) hx hb hml hown hts hN hW.1 (c_sideOf l Γ K F2 a x (pl a) (pl x) (dt a) (dt x) (c0.length % d) (tRt L) (tRt R) (nd2 a (List.mem_cons_of_mem _ hat)).1 (nd2 x List.mem_cons_self).1 (by omega) q4 q7 q8) gX5_hang_X2_sideOf rfl hka (by decide) rfl (na := 1) rfl (by decide +kernel) ⟨by decide, by decide⟩ ⟨Nat.zero_le _, Nat.zero_le _⟩ rfl hl.1 (Nat.le_of_ble_eq_true rfl) dX5_hang_25 ?_
      show W _ _ _ _ _ _ _ _ _ _ _ _ _ _ _ (F0 m 28 ls [va_rf (if pLess (c0.length % d) (dt x) (dt a) then tRt L else tRt R)])
      refine g_astore_n (r := if pLess (c0.length % d) (dt x) (dt a) then tRt L else tRt R) (lv' := [(3, va_rf (if pLess (c0.length % d) (dt x) (dt a) then tRt L else tRt R)), (2, .ref a), (0, .ref T), (1, .ref x)]) hx hb dX5_hang_28 rfl hl (by decide) rfl (fun ls hl => ?_)
      refine lv_goto (tgt := 7) hx hb dX5_hang_29 (by decide) ?_
      by_cases hq : pLess (c0.length % d) (dt x) (dt a) = true
      · rw [if_pos hq] at hl
        refine ihl ((true, a, R) :: c0) F2 H locs ls ?_ hst.1.1 hst.1.2.1 hst.1.2.2 (fun b a9 o c9 e => by cases e; exact hq.symm) ?_ ?_ nfr hW (lv_sub hl [0, 1, 2, 3] rfl)
        · rw [hins, insG, if_pos (show ltA dt (c0.length % d) x a = true from hq)]; rfl
        · have hp : (tPre L ++ cAd ((true, a, R) :: c0)).Perm (a :: (tPre L ++ tPre R) ++ cAd c0) := by
            show (tPre L ++ a :: (tPre R ++ cAd c0)).Perm (a :: (tPre L ++ tPre R ++ cAd c0))
            rw [List.append_assoc]
            exact List.perm_middle
          exact hp.nodup_iff.mpr hnd1
        · intro z hz
          refine hsub z ?_
          simp only [cAd, tPre, List.mem_append, List.mem_cons] at hz ⊢
          rcases hz with h | h | h | h <;> simp [h]
      · rw [if_neg hq] at hl
        refine ihr ((false, a, L) :: c0) F2 H locs ls ?_ hst.2.1 hst.2.2.1 hst.2.2.2 (fun b a9 o c9 e => by cases e; exact (Bool.not_eq_true _ ▸ hq : pLess _ _ _ = false).symm) ?_ ?_ nfr hW (lv_sub hl [0, 1, 2, 3] rfl)
        · rw [hins, insG, if_neg (show ¬ ltA dt (c0.length % d) x a = true from hq)]; rfl
        · have hp : (tPre R ++ cAd ((false, a, L) :: c0)).Perm (a :: (tPre L ++ tPre R) ++ cAd c0) := by
            show (tPre R ++ a :: (tPre L ++ cAd c0)).Perm (a :: (tPre L ++ tPre R ++ cAd c0))
            refine List.perm_middle.trans (List.Perm.cons a ?_)
            rw [← List.append_assoc]
            exact List.Perm.append_right _ List.perm_append_comm
          exact hp.nodup_iff.mpr hnd1
        · intro z hz
          refine hsub z ?_
          simp only [cAd, tPre, List.mem_append, List.mem_cons] at hz ⊢
          rcases hz with h | h | h | h <;> simp [h]
  refine lv_null hx hb dX5_hang_0 ?_
  refine lv_astore_nN (lv' := [(2, .null), (0, .ref T), (1, .ref x)]) hx hb dX5_hang_1 rfl hl (by decide) rfl (fun ls hl => ?_)
  refine lv_aload_n hx hb dX5_hang_2 rfl (lv_at hl 1 rfl) ?_
  refine g_get (C := RX5) (T := TX5) (N := 4) hx hb hts hi5 hown hN hW.1 hk rfl (by decide) 2 (by decide) hfX5_21 (v := va_rf (tRt tc)) h2 dX5_hang_3 ?_
  refine g_astore_n (r := tRt tc) (lv' := [(3, va_rf (tRt tc)), (2, .null), (0, .ref T), (1, .ref x)]) hx hb dX5_hang_6 rfl hl (by decide) rfl (fun ls hl => ?_)
  exact loop tc [] F _ _ ls rfl hC trivial trivial (fun _ _ _ _ e => by cases e) (by simpa [cAd] using hnd) (fun z hz => by simpa [cAd] using hz) (fun _ _ _ => rfl) hW (lv_sub hl [0, 1, 2, 3] rfl)
end
section
theorem insG_sub1 {lt : Nat → Nat → Nat → Bool} {d x dep b s a : Nat} {v : Unit} {L R tc : TT Nat} : ∀ {t : TT Nat}, b ∈ tPre t → ((∀ z ∈ tPre (Std.DTreeMap.Internal.Impl.inner s a v L R), z ∈ tPre tc) ∧ x ∈ x :: tPre tc) → (t = L ∨ t = insG lt d x dep L) → b ∈ x :: tPre tc := by
  intro t hb h ht
  rcases ht with rfl | rfl
  · exact List.mem_cons_of_mem _ (h.1 b (List.mem_cons_of_mem _ (List.mem_append_left _ hb)))
  · rcases List.mem_cons.mp ((insG_perm lt d x L dep).mem_iff.mp hb) with e | e
    · rw [e]; exact List.mem_cons_self
    · exact List.mem_cons_of_mem _ (h.1 b (List.mem_cons_of_mem _ (List.mem_append_left _ e)))
theorem insG_sub2 {lt : Nat → Nat → Nat → Bool} {d x dep b s a : Nat} {v : Unit} {L R tc : TT Nat} : ∀ {t : TT Nat}, b ∈ tPre t → ((∀ z ∈ tPre (Std.DTreeMap.Internal.Impl.inner s a v L R), z ∈ tPre tc) ∧ x ∈ x :: tPre tc) → (t = R ∨ t = insG lt d x dep R) → b ∈ x :: tPre tc := by
  intro t hb h ht
  rcases ht with rfl | rfl
  · exact List.mem_cons_of_mem _ (h.1 b (List.mem_cons_of_mem _ (List.mem_append_right _ hb)))
  · rcases List.mem_cons.mp ((insG_perm lt d x R dep).mem_iff.mp hb) with e | e
    · rw [e]; exact List.mem_cons_self
    · exact List.mem_cons_of_mem _ (h.1 b (List.mem_cons_of_mem _ (List.mem_append_right _ e)))

set_option maxHeartbeats 4000000 in
set_option maxRecDepth 100000 in
theorem c_firstLeaningAbove (l : Launch) (Γ : gG) (K : gK) (F : gF) (T x d : Nat) (tc : TT Nat) (dt : Nat → gPt) (pl : Nat → Nat) (dd : Nat → Bool) (hk : K T = some (5, 0)) (h2 : F T 2 = va_rf (tRt (insG (ltA dt) d x 0 tc))) (hC : CT F d (insG (ltA dt) d x 0 tc) none 0) (hND : NDs K F dt pl dd (x :: tPre tc)) (hxt : x ∉ tPre tc) (hs : tSz tc ≤ 1000) (hd1 : 0 < d) (hd4 : d ≤ 4) : gMR l yX5_firstLeaningAbove wsX5_firstLeaningAbove 3 Γ K F [.ref T, .ref x] (some (va_rf ((findG (ltA dt) d x [] tc).bind (fun q => tRt q.2)))) := by
  refine g_mR (cc := cX5_firstLeaningAbove) (maxL := 3) (ret := (some (.object "NearTree$Node"))) (by decide) rfl (Nat.le_of_ble_eq_true rfl) ?_
  intro p e s m args below meth c ls Z hx hb hts hown hml hN hP hret hl
  have hl : lv_has ls 3 [(0, .ref T), (1, .ref x)] := hl
  have hown : s.vm.findClass RX5 = some m.cls := hown
  have hi5 : ∀ w ∈ wsX50, w ∈ wsX5_firstLeaningAbove := by decide +kernel
  have hfX5_21 : Cond.fieldLink RX5 21 (TX5 2).1 (TX5 2).2.1 (TX5 2).2.2.1 ∈ wsX5_firstLeaningAbove := by decide +kernel
  have hkx : K x = some (2, 0) := (hND x List.mem_cons_self).1.1
  have hkx2 : x ∈ x :: tPre tc := List.mem_cons_self
  have hall : ∀ b, b ∈ x :: tPre tc → K b = some (2, 0) := fun b hb => (hND b hb).1.1
  generalize hv9 : (findG (ltA dt) d x [] tc).bind (fun q => tRt q.2) = v at hret
  have loop : ∀ (t : TT Nat) (c0 : cxT Nat) (up : Option Nat) (ls : Array Slot), CT F d (insG (ltA dt) d x c0.length t) up c0.length → (∀ z ∈ tPre t, z ∈ tPre tc) → tSz t ≤ 1000 → (findG (ltA dt) d x c0 t).bind (fun q => tRt q.2) = v → lv_has ls 3 [(2, va_rf (tRt (insG (ltA dt) d x c0.length t))), (0, .ref T), (1, .ref x)] → W p l e (gRm 3 0 0) s m args below meth c s.heap [] 0 0 Z (F0 m 5 ls []) := by
    intro t
    induction t with
    | leaf =>
      intro c0 up ls hC1 hsub hs hv hl
      have hl : lv_has ls 3 [(2, .ref x), (0, .ref T), (1, .ref x)] := hl
      refine lv_aload_n hx hb dX5_firstLeaningAbove_5 rfl (lv_at hl 0 rfl) ?_
      refine lv_ifnull hx hb dX5_firstLeaningAbove_6 ?_
      refine lv_aload_n hx hb dX5_firstLeaningAbove_9 rfl (lv_at hl 0 rfl) ?_
      refine lv_aload_n hx hb dX5_firstLeaningAbove_10 rfl (lv_at hl 2 rfl) ?_
      refine lv_acmp_eq (rx := (some x)) (ry := (some x)) (tgt := 32) hx hb dX5_firstLeaningAbove_11 (by decide) (fun c1 => ?_) (fun c1 => ?_)
      · refine lv_null hx hb dX5_firstLeaningAbove_32 ?_
        exact hret (some (va_rf none)) _ _ (by rw [← hv]; rfl) (rt_a dX5_firstLeaningAbove_33)
      · exact absurd rfl c1
    | inner s9 a v9 L R ihl ihr =>
      intro c0 up ls hC1 hsub hs hv hl
      have hat : a ∈ tPre tc := hsub a List.mem_cons_self
      have hka : K a = some (2, 0) := (hND a (List.mem_cons_of_mem _ hat)).1.1
      have hax : a ≠ x := fun e => hxt (e ▸ hat)
      have hmd := Nat.mod_lt c0.length hd1
      have hs : tSz L + tSz R + 1 ≤ 1000 := hs
      by_cases hq : ltA dt (c0.length % d) x a = true
      · rw [insG, if_pos hq] at hC1 hl
        rw [findG, if_pos hq] at hv
        have hl : lv_has ls 3 [(2, .ref a), (0, .ref T), (1, .ref x)] := hl
        obtain ⟨q1, q2, q3, q4, q5, q6, q7, q8⟩ := hC1
        have z1 := insG_sz (ltA dt) d x L (c0.length + 1)
        have z2 := insG_sz (ltA dt) d x R (c0.length + 1)
        refine lv_aload_n hx hb dX5_firstLeaningAbove_5 rfl (lv_at hl 0 rfl) ?_
        refine lv_ifnull hx hb dX5_firstLeaningAbove_6 ?_
        refine lv_aload_n hx hb dX5_firstLeaningAbove_9 rfl (lv_at hl 0 rfl) ?_
        refine lv_aload_n hx hb dX5_firstLeaningAbove_10 rfl (lv_at hl 2 rfl) ?_
        refine lv_acmp_eq (rx := (some a)) (ry := (some x)) (tgt := 32) hx hb dX5_firstLeaningAbove_11 (by decide) (fun c1 => ?_) (fun c1 => ?_)
        · exact absurd (Option.some.inj c1) hax
        · refine lv_aload_n hx hb dX5_firstLeaningAbove_14 rfl (lv_at hl 0 rfl) ?_
          refine g_cV (v := (some (.int (bI (leans (insG (ltA dt) d x (c0.length + 1) L) (R)))))) (As := []) (b := a) (rest := []) hx hb hml hown hts hN hP (c_leans l Γ K F a (tRt (insG (ltA dt) d x (c0.length + 1) L)) (tRt (R)) (tSz (insG (ltA dt) d x (c0.length + 1) L)) (tSz (R)) (tSz (insG (ltA dt) d x (c0.length + 1) L) + tSz (R) + 1) hka q5 q6 q3 tRt_none (fun b h => ⟨hall b (insG_sub1 (lt := ltA dt) (d := d) (dep := c0.length + 1) (tRt_mem h) ⟨hsub, hkx2⟩ (by first | exact Or.inl rfl | exact Or.inr rfl)), CT_root q7 h⟩) tRt_none (fun b h => ⟨hall b (insG_sub2 (lt := ltA dt) (d := d) (dep := c0.length + 1) (tRt_mem h) ⟨hsub, hkx2⟩ (by first | exact Or.inl rfl | exact Or.inr rfl)), CT_root q8 h⟩) (by omega) (by omega) (by omega)) gX5_firstLeaningAbove_X2_leans rfl hka (by decide) rfl (na := 0) rfl (by decide +kernel) ⟨by decide, by decide⟩ ⟨Nat.zero_le _, Nat.zero_le _⟩ rfl hl.1 (Nat.le_of_ble_eq_true rfl) dX5_firstLeaningAbove_15 ?_
          show W _ _ _ _ _ _ _ _ _ _ _ _ _ _ _ (F0 m 18 ls [.int (bI (leans (insG (ltA dt) d x (c0.length + 1) L) (R)))])
          refine lv_if_eq (tgt := 23) hx hb dX5_firstLeaningAbove_18 (by decide) (fun c2 => ?_) (fun c2 => ?_)
          · have c2 : (leans (insG (ltA dt) d x (c0.length + 1) L) (R)) = false := bI_0.mp c2
            refine lv_aload_n hx hb dX5_firstLeaningAbove_23 rfl (lv_at hl 0 rfl) ?_
            refine lv_aload_n hx hb dX5_firstLeaningAbove_24 rfl (lv_at hl 2 rfl) ?_
            refine g_cV (v := (some (va_rf (if pLess (c0.length % d) (dt x) (dt a) then tRt (insG (ltA dt) d x (c0.length + 1) L) else tRt (R))))) (As := [.ref x]) (b := a) (rest := []) hx hb hml hown hts hN hP (c_sideOf l Γ K F a x (pl a) (pl x) (dt a) (dt x) (c0.length % d) (tRt (insG (ltA dt) d x (c0.length + 1) L)) (tRt (R)) (hND a (List.mem_cons_of_mem _ hat)).1 (hND x List.mem_cons_self).1 (by omega) q2 q5 q6) gX5_firstLeaningAbove_X2_sideOf rfl hka (by decide) rfl (na := 1) rfl (by decide +kernel) ⟨by decide, by decide⟩ ⟨Nat.zero_le _, Nat.zero_le _⟩ rfl hl.1 (Nat.le_of_ble_eq_true rfl) dX5_firstLeaningAbove_25 ?_
            show W _ _ _ _ _ _ _ _ _ _ _ _ _ _ _ (F0 m 28 ls [va_rf (if pLess (c0.length % d) (dt x) (dt a) then tRt (insG (ltA dt) d x (c0.length + 1) L) else tRt (R))])
            refine g_astore_n (r := if pLess (c0.length % d) (dt x) (dt a) then tRt (insG (ltA dt) d x (c0.length + 1) L) else tRt (R)) (lv' := [(2, va_rf (if pLess (c0.length % d) (dt x) (dt a) then tRt (insG (ltA dt) d x (c0.length + 1) L) else tRt (R))), (0, .ref T), (1, .ref x)]) hx hb dX5_firstLeaningAbove_28 rfl hl (by decide) rfl (fun ls hl => ?_)
            refine lv_goto (tgt := 5) hx hb dX5_firstLeaningAbove_29 (by decide) ?_
            rw [show (if pLess (c0.length % d) (dt x) (dt a) then tRt (insG (ltA dt) d x (c0.length + 1) L) else tRt (R)) = tRt (insG (ltA dt) d x (c0.length + 1) L) from if_pos hq] at hl
            exact ihl ((true, a, R) :: c0) (some a) ls q7 (fun z hz => hsub z (List.mem_cons_of_mem _ (List.mem_append_left _ hz))) (by omega) (by rw [← hv, if_neg (by rw [c2]; decide)]) (lv_sub hl [0, 1, 2] rfl)
          · have c2 : (leans (insG (ltA dt) d x (c0.length + 1) L) (R)) = true := bI_n0.mp c2
            refine lv_aload_n hx hb dX5_firstLeaningAbove_21 rfl (lv_at hl 0 rfl) ?_
            exact hret (some (va_rf (some a))) _ _ (by rw [← hv, if_pos c2]; rfl) (rt_a dX5_firstLeaningAbove_22)
      · rw [insG, if_neg hq] at hC1 hl
        rw [findG, if_neg hq] at hv
        have hl : lv_has ls 3 [(2, .ref a), (0, .ref T), (1, .ref x)] := hl
        obtain ⟨q1, q2, q3, q4, q5, q6, q7, q8⟩ := hC1
        have z1 := insG_sz (ltA dt) d x L (c0.length + 1)
        have z2 := insG_sz (ltA dt) d x R (c0.length + 1)
        refine lv_aload_n hx hb dX5_firstLeaningAbove_5 rfl (lv_at hl 0 rfl) ?_
        refine lv_ifnull hx hb dX5_firstLeaningAbove_6 ?_
        refine lv_aload_n hx hb dX5_firstLeaningAbove_9 rfl (lv_at hl 0 rfl) ?_
        refine lv_aload_n hx hb dX5_firstLeaningAbove_10 rfl (lv_at hl 2 rfl) ?_
        refine lv_acmp_eq (rx := (some a)) (ry := (some x)) (tgt := 32) hx hb dX5_firstLeaningAbove_11 (by decide) (fun c1 => ?_) (fun c1 => ?_)
        · exact absurd (Option.some.inj c1) hax
        · refine lv_aload_n hx hb dX5_firstLeaningAbove_14 rfl (lv_at hl 0 rfl) ?_
          refine g_cV (v := (some (.int (bI (leans (L) (insG (ltA dt) d x (c0.length + 1) R)))))) (As := []) (b := a) (rest := []) hx hb hml hown hts hN hP (c_leans l Γ K F a (tRt (L)) (tRt (insG (ltA dt) d x (c0.length + 1) R)) (tSz (L)) (tSz (insG (ltA dt) d x (c0.length + 1) R)) (tSz (L) + tSz (insG (ltA dt) d x (c0.length + 1) R) + 1) hka q5 q6 q3 tRt_none (fun b h => ⟨hall b (insG_sub1 (lt := ltA dt) (d := d) (dep := c0.length + 1) (tRt_mem h) ⟨hsub, hkx2⟩ (by first | exact Or.inl rfl | exact Or.inr rfl)), CT_root q7 h⟩) tRt_none (fun b h => ⟨hall b (insG_sub2 (lt := ltA dt) (d := d) (dep := c0.length + 1) (tRt_mem h) ⟨hsub, hkx2⟩ (by first | exact Or.inl rfl | exact Or.inr rfl)), CT_root q8 h⟩) (by omega) (by omega) (by omega)) gX5_firstLeaningAbove_X2_leans rfl hka (by decide) rfl (na := 0) rfl (by decide +kernel) ⟨by decide, by decide⟩ ⟨Nat.zero_le _, Nat.zero_le _⟩ rfl hl.1 (Nat.le_of_ble_eq_true rfl) dX5_firstLeaningAbove_15 ?_
          show W _ _ _ _ _ _ _ _ _ _ _ _ _ _ _ (F0 m 18 ls [.int (bI (leans (L) (insG (ltA dt) d x (c0.length + 1) R)))])
          refine lv_if_eq (tgt := 23) hx hb dX5_firstLeaningAbove_18 (by decide) (fun c2 => ?_) (fun c2 => ?_)
          · have c2 : (leans (L) (insG (ltA dt) d x (c0.length + 1) R)) = false := bI_0.mp c2
            refine lv_aload_n hx hb dX5_firstLeaningAbove_23 rfl (lv_at hl 0 rfl) ?_
            refine lv_aload_n hx hb dX5_firstLeaningAbove_24 rfl (lv_at hl 2 rfl) ?_
            refine g_cV (v := (some (va_rf (if pLess (c0.length % d) (dt x) (dt a) then tRt (L) else tRt (insG (ltA dt) d x (c0.length + 1) R))))) (As := [.ref x]) (b := a) (rest := []) hx hb hml hown hts hN hP (c_sideOf l Γ K F a x (pl a) (pl x) (dt a) (dt x) (c0.length % d) (tRt (L)) (tRt (insG (ltA dt) d x (c0.length + 1) R)) (hND a (List.mem_cons_of_mem _ hat)).1 (hND x List.mem_cons_self).1 (by omega) q2 q5 q6) gX5_firstLeaningAbove_X2_sideOf rfl hka (by decide) rfl (na := 1) rfl (by decide +kernel) ⟨by decide, by decide⟩ ⟨Nat.zero_le _, Nat.zero_le _⟩ rfl hl.1 (Nat.le_of_ble_eq_true rfl) dX5_firstLeaningAbove_25 ?_
            show W _ _ _ _ _ _ _ _ _ _ _ _ _ _ _ (F0 m 28 ls [va_rf (if pLess (c0.length % d) (dt x) (dt a) then tRt (L) else tRt (insG (ltA dt) d x (c0.length + 1) R))])
            refine g_astore_n (r := if pLess (c0.length % d) (dt x) (dt a) then tRt (L) else tRt (insG (ltA dt) d x (c0.length + 1) R)) (lv' := [(2, va_rf (if pLess (c0.length % d) (dt x) (dt a) then tRt (L) else tRt (insG (ltA dt) d x (c0.length + 1) R))), (0, .ref T), (1, .ref x)]) hx hb dX5_firstLeaningAbove_28 rfl hl (by decide) rfl (fun ls hl => ?_)
            refine lv_goto (tgt := 5) hx hb dX5_firstLeaningAbove_29 (by decide) ?_
            rw [show (if pLess (c0.length % d) (dt x) (dt a) then tRt (L) else tRt (insG (ltA dt) d x (c0.length + 1) R)) = tRt (insG (ltA dt) d x (c0.length + 1) R) from if_neg hq] at hl
            exact ihr ((false, a, L) :: c0) (some a) ls q8 (fun z hz => hsub z (List.mem_cons_of_mem _ (List.mem_append_right _ hz))) (by omega) (by rw [← hv, if_neg (by rw [c2]; decide)]) (lv_sub hl [0, 1, 2] rfl)
          · have c2 : (leans (L) (insG (ltA dt) d x (c0.length + 1) R)) = true := bI_n0.mp c2
            refine lv_aload_n hx hb dX5_firstLeaningAbove_21 rfl (lv_at hl 0 rfl) ?_
            exact hret (some (va_rf (some a))) _ _ (by rw [← hv, if_pos c2]; rfl) (rt_a dX5_firstLeaningAbove_22)
  refine lv_aload_n hx hb dX5_firstLeaningAbove_0 rfl (lv_at hl 0 rfl) ?_
  refine g_get (C := RX5) (T := TX5) (N := 4) hx hb hts hi5 hown hN hP hk rfl (by decide) 2 (by decide) hfX5_21 (v := va_rf (tRt (insG (ltA dt) d x 0 tc))) h2 dX5_firstLeaningAbove_1 ?_
  refine g_astore_n (r := tRt (insG (ltA dt) d x 0 tc)) (lv' := [(2, va_rf (tRt (insG (ltA dt) d x 0 tc))), (0, .ref T), (1, .ref x)]) hx hb dX5_firstLeaningAbove_4 rfl hl (by decide) rfl (fun ls hl => ?_)
  exact loop tc [] none ls hC (fun _ h => h) hs hv9 (lv_sub hl [0, 1, 2] rfl)
end
section
theorem plug_root {α : Type} : ∀ (c : cxT α) (q : Bool × α × TT α) (t t' : TT α), tRt (plug (q :: c) t) = tRt (plug (q :: c) t')
  | [], (b, a, o), t, t' => by cases b <;> rfl
  | q' :: c, (b, a, o), t, t' => plug_root c q' _ _
theorem alv_sub {dd : Nat → Bool} {L : List Nat} {a : Nat} (h : a ∈ alv dd L) : a ∈ L := (List.mem_filter.mp h).1
theorem alv_len {dd : Nat → Bool} {L : List Nat} : (alv dd L).length ≤ L.length := List.length_filter_le _ _
def PXu (F : gF) : cxT Nat → Prop
  | [] => True
  | (_, a, _) :: c => F a 6 = va_rf (cTop c) ∧ PXu F c
theorem PXr.u {F : gF} {d : Nat} : ∀ {c : cxT Nat} {r : Option Nat}, PXr F d c r → PXu F c
  | [], _, _ => trivial
  | (_, _, _) :: _, _, H => ⟨H.2.2.1, PXr.u H.2.2.2.2.2.2⟩
theorem PXu_congr {F F' : gF} : ∀ {c : cxT Nat}, (∀ a ∈ cPath c, F' a 6 = F a 6) → PXu F c → PXu F' c
  | [], _, _ => trivial
  | (_, a, _) :: c, h, H => ⟨by rw [h a List.mem_cons_self]; exact H.1, PXu_congr (fun q hq => h q (List.mem_cons_of_mem _ hq)) H.2⟩
theorem cPath_nd : ∀ {c : cxT Nat}, (cAd c).Nodup → (cPath c).Nodup
  | [], _ => List.nodup_nil
  | (_, a, o) :: c, h => by
    have h1 := List.nodup_cons.mp (show (a :: (tPre o ++ cAd c)).Nodup from h)
    exact List.nodup_cons.mpr ⟨fun q => h1.1 (List.mem_append_right _ (cPath_sub q)), cPath_nd (List.nodup_append.mp h1.2).2.1⟩

set_option maxHeartbeats 4000000 in
set_option maxRecDepth 100000 in
theorem c_buildAnew (l : Launch) (Γ : gG) (K : gK) (F : gF) (sz : Nat) (T old row d bp : Nat) (c0 : cxT Nat) (t : TT Nat) (dt : Nat → gPt) (pl : Nat → Nat) (dd : Nat → Bool) (hk : K T = some (5, 0)) (hkr : K row = some (11, 60)) (h0 : F T 0 = .int (nI d)) (h1 : F T 1 = .ref row) (h2 : F T 2 = va_rf (tRt (plug c0 t))) (h3 : F T 3 = .int (nI bp)) (hC : CT F d (plug c0 t) none 0) (hold : tRt t = some old) (hND : NDs K F dt pl dd (tPre (plug c0 t))) (hnd : (tPre (plug c0 t)).Nodup) (hs : tSz (plug c0 t) ≤ 120) (h60 : (alv dd (tPre t)).length ≤ 60) (hd1 : 0 < d) (hd4 : d ≤ 4) : gMM l yX5_buildAnew wsX5_buildAnew 70 0 0 Γ K F sz [.ref T, .ref old] (fun v K' F' => v = none ∧ K' = K ∧ CT F' d (plug c0 (bldG (ltA dt) d 60 c0.length (alv dd (tPre t)))) none 0 ∧ F' T 2 = va_rf (tRt (plug c0 (bldG (ltA dt) d 60 c0.length (alv dd (tPre t))))) ∧ F' T 3 = .int (nI (bp + (alv dd (tPre t)).length)) ∧ ∀ b j, ¬ (K b = some (2, 0) ∧ 3 ≤ j) → ¬ (b = T ∧ 2 ≤ j) → b ≠ row → F' b j = F b j) := by
  refine g_mM (cc := cX5_buildAnew) (maxL := 8) (ret := none) (by decide) rfl (Nat.le_of_ble_eq_true rfl) ?_
  intro p e s m args below meth c ls Z hsz hx hb hts hown hml hnm hN hW hret hl
  have hl : lv_has ls 8 [(0, .ref T), (1, .ref old)] := hl
  have hown : s.vm.findClass RX5 = some m.cls := hown
  have hi2 : ∀ w ∈ wsX20, w ∈ wsX5_buildAnew := by decide +kernel
  have hi5 : ∀ w ∈ wsX50, w ∈ wsX5_buildAnew := by decide +kernel
  have hfX5_21 : Cond.fieldLink RX5 21 (TX5 2).1 (TX5 2).2.1 (TX5 2).2.2.1 ∈ wsX5_buildAnew := by decide +kernel
  have hfX5_29 : Cond.fieldLink RX5 29 (TX2 5).1 (TX2 5).2.1 (TX2 5).2.2.1 ∈ wsX5_buildAnew := by decide +kernel
  have hfX5_36 : Cond.fieldLink RX5 36 (TX2 6).1 (TX2 6).2.1 (TX2 6).2.2.1 ∈ wsX5_buildAnew := by decide +kernel
  have hfX5_39 : Cond.fieldLink RX5 39 (TX2 3).1 (TX2 3).2.1 (TX2 3).2.2.1 ∈ wsX5_buildAnew := by decide +kernel
  have hfX5_42 : Cond.fieldLink RX5 42 (TX2 4).1 (TX2 4).2.1 (TX2 4).2.2.1 ∈ wsX5_buildAnew := by decide +kernel
  have hfX5_53 : Cond.fieldLink RX5 53 (TX2 7).1 (TX2 7).2.1 (TX2 7).2.2.1 ∈ wsX5_buildAnew := by decide +kernel
  have hfX5_56 : Cond.fieldLink RX5 56 (TX2 8).1 (TX2 8).2.1 (TX2 8).2.2.1 ∈ wsX5_buildAnew := by decide +kernel
  have hfX5_70 : Cond.fieldLink RX5 70 (TX5 3).1 (TX5 3).2.1 (TX5 3).2.2.1 ∈ wsX5_buildAnew := by decide +kernel
  obtain ⟨hCs, hPr, hPz⟩ := CT_plug.mp hC
  rw [hold] at hPr
  have hperm := plug_perm c0 t
  have hnd2 : (tPre t ++ cAd c0).Nodup := hperm.nodup_iff.mp hnd
  have hND2 : ∀ a, a ∈ tPre t ∨ a ∈ cAd c0 → ndD K F a (pl a) (dt a) ∧ F a 2 = .int (bI (dd a)) := fun a ha => hND a (hperm.mem_iff.mpr (List.mem_append.mpr ha))
  have hot := tRt_mem hold
  have hko : K old = some (2, 0) := (hND2 old (Or.inl hot)).1.1
  have hsz2 := plug_sz c0 t
  have hcl := cAd_len c0
  have hLl : (alv dd (tPre t)).length ≤ tSz t := by rw [← tPre_len]; exact alv_len
  have hdis : ∀ a, a ∈ tPre t → a ∉ cAd c0 := fun a h1 h2 => (List.nodup_append.mp hnd2).2.2 a h1 a h2 rfl
  have hcn : (cAd c0).Nodup := (List.nodup_append.mp hnd2).2.1
  have hrT : T ≠ row := kne hk hkr (by decide)
  have hnT : ∀ a, K a = some (2, 0) → a ≠ T := fun a h => kne h hk (by decide)
  have hnr : ∀ a, K a = some (2, 0) → a ≠ row := fun a h => kne h hkr (by decide)
  generalize hBe : bldG (ltA dt) d 60 c0.length (alv dd (tPre t)) = B at hret
  have hBs : tSz B = (alv dd (tPre t)).length := by rw [← hBe]; exact bldG_sz _ _ _ _ _ h60
  have hBp : ∀ a, a ∈ tPre B → a ∈ alv dd (tPre t) := fun a h => (bldG_perm (ltA dt) d 60 c0.length _ h60).mem_iff.mp (by rw [hBe]; exact h)
  generalize hlv : (alv dd (tPre t)).length = lv at hret hBs hLl h60
  have loop : ∀ (c2 : cxT Nat) (n : Nat) (F3 : gF) (H : Heap) (locs : List Loc) (ls : Array Slot), PXz F3 c2 n → PXu F3 c2 → (∀ a ∈ cPath c2, K a = some (2, 0)) → (cPath c2).Nodup → tSz t ≤ n → n + (cAd c2).length ≤ 1000 → gW Γ (gA K sz) s.heap K F3 H locs → lv_has ls 8 [(7, va_rf (cTop c2)), (4, .int (nI (tSz t))), (5, .int (nI lv)), (0, .ref T)] →
        (∀ (F4 : gF) (H : Heap) (locs : List Loc) (ls : Array Slot), PXz F4 c2 (n - (tSz t - lv)) → (∀ b j, ¬ (j = 5 ∧ b ∈ cPath c2) → F4 b j = F3 b j) → gW Γ (gA K sz) s.heap K F4 H locs → lv_has ls 8 [(5, .int (nI lv)), (0, .ref T)] → W p l e (gRm 70 0 0) s m args below meth c H locs 0 0 Z (F0 m 124 ls [])) → W p l e (gRm 70 0 0) s m args below meth c H locs 0 0 Z (F0 m 94 ls []) := by
    intro c2
    induction c2 with
    | nil =>
      intro n F3 H locs ls hz hp hka9 hnd9 hn1 hn2 hW hl kk
      have hl : lv_has ls 8 [(7, .null), (4, .int (nI (tSz t))), (5, .int (nI lv)), (0, .ref T)] := hl
      refine lv_aloadN hx hb dX5_buildAnew_94 (lv_at hl 0 rfl) ?_
      refine lv_ifnullN (tgt := 124) hx hb dX5_buildAnew_96 (by decide) ?_
      exact kk F3 H locs ls trivial (fun _ _ _ => rfl) hW (lv_sub hl [2, 3] rfl)
    | cons q c2 ih =>
      obtain ⟨b, a, o⟩ := q
      intro n F3 H locs ls hz hp hka9 hnd9 hn1 hn2 hW hl kk
      have hl : lv_has ls 8 [(7, .ref a), (4, .int (nI (tSz t))), (5, .int (nI lv)), (0, .ref T)] := hl
      have hka := hka9 a List.mem_cons_self
      have hnc := List.nodup_cons.mp hnd9
      have p5 : F3 a 5 = .int (nI (n + tSz o + 1)) := hz.1
      have p6 : F3 a 6 = va_rf (cTop c2) := hp.1
      have hn3 : n + (tSz o + (cAd c2).length + 1) ≤ 1000 := by
        have : (cAd ((b, a, o) :: c2)).length = tSz o + (cAd c2).length + 1 := by simp only [cAd, List.length_cons, List.length_append, tPre_len]
        omega
      refine lv_aload hx hb dX5_buildAnew_94 (lv_at hl 0 rfl) ?_
      refine lv_ifnull hx hb dX5_buildAnew_96 ?_
      refine lv_aload hx hb dX5_buildAnew_99 (lv_at hl 0 rfl) ?_
      refine lv_dup hx hb dX5_buildAnew_101 rfl ?_
      refine g_get (C := RX2) (T := TX2) (N := 9) hx hb hts hi2 hown hN hW.1 hka rfl (by decide) 5 (by decide) hfX5_29 (v := .int (nI (n + tSz o + 1))) p5 dX5_buildAnew_102 ?_
      refine lv_iload hx hb dX5_buildAnew_105 (lv_at hl 1 rfl) ?_
      refine lv_iload hx hb dX5_buildAnew_107 (lv_at hl 2 rfl) ?_
      refine lv_isub hx hb dX5_buildAnew_109 ?_
      refine g_asi (show _ = nI ((tSz t) - lv) from pk_sub (by omega)) ?_
      refine lv_isub hx hb dX5_buildAnew_110 ?_
      refine g_asi (show _ = nI ((n + tSz o + 1) - ((tSz t) - lv)) from pk_sub (by omega)) ?_
      refine g_put (C := RX2) (T := TX2) (N := 9) hx hb hts hi2 tyX2 tyX2_ok nmX2 hown hN hW hka rfl (by decide) 5 (by decide) hfX5_29 rfl rfl rfl dX5_buildAnew_111 (fun H locs hW => ?_)
      refine lv_aload hx hb dX5_buildAnew_114 (lv_at hl 0 rfl) ?_
      refine g_get (C := RX2) (T := TX2) (N := 9) hx hb hts hi2 hown hN hW.1 hka rfl (by decide) 6 (by decide) hfX5_36 (v := va_rf (cTop c2)) ((gU_k (by decide)).trans p6) dX5_buildAnew_116 ?_
      refine g_astore (r := cTop c2) (lv' := [(7, va_rf (cTop c2)), (4, .int (nI (tSz t))), (5, .int (nI lv)), (0, .ref T)]) hx hb dX5_buildAnew_119 hl (by decide) rfl (fun ls hl => ?_)
      refine lv_goto (tgt := 94) hx hb dX5_buildAnew_121 (by decide) ?_
      exact ih (n + tSz o + 1) _ H locs ls (PXz_congr (fun z hz => gU_a (fun e => hnc.1 (by rw [← e]; exact hz))) hz.2) (PXu_congr (fun z hz => gU_a (fun e => hnc.1 (by rw [← e]; exact hz))) hp.2) (fun z hz => hka9 z (List.mem_cons_of_mem _ hz)) hnc.2 (by omega) (by omega) hW (lv_sub hl [0, 1, 2, 3] rfl) (fun F4 H locs ls hz4 hfr4 hW hl => by
        refine kk F4 H locs ls ⟨?_, ?_⟩ (fun b j h => ?_) hW hl
        · rw [hfr4 a 5 (fun q => hnc.1 q.2), gU_self]
          congr 2
          omega
        · rw [show n - (tSz t - lv) + tSz o + 1 = n + tSz o + 1 - (tSz t - lv) by omega]
          exact hz4
        · rw [hfr4 b j (fun q => h ⟨q.1, List.mem_cons_of_mem _ q.2⟩), gU_ne (fun q => h ⟨q.2, by rw [q.1]; exact List.mem_cons_self⟩)])
  have tail : ∀ (F3 : gF) (H : Heap) (locs : List Loc) (ls : Array Slot), PXr F3 d c0 (tRt B) → PXz F3 c0 (tSz t) → CT F3 d B (cTop c0) c0.length → F3 T 2 = va_rf (tRt (plug c0 B)) → F3 T 3 = .int (nI bp) → (∀ b j, ¬ (K b = some (2, 0) ∧ 3 ≤ j) → ¬ (b = T ∧ 2 ≤ j) → b ≠ row → F3 b j = F b j) → gW Γ (gA K sz) s.heap K F3 H locs → lv_has ls 8 [(2, va_rf (cTop c0)), (4, .int (nI (tSz t))), (5, .int (nI lv)), (0, .ref T)] → W p l e (gRm 70 0 0) s m args below meth c H locs 0 0 Z (F0 m 91 ls []) := by
    intro F3 H locs ls r1 r2 r3 r4 r5 hfr hW hl
    refine g_aload_n (r := cTop c0) hx hb dX5_buildAnew_91 rfl (lv_at hl 0 rfl) ?_
    refine g_astore (r := cTop c0) (lv' := [(7, va_rf (cTop c0)), (2, va_rf (cTop c0)), (4, .int (nI (tSz t))), (5, .int (nI lv)), (0, .ref T)]) hx hb dX5_buildAnew_92 hl (by decide) rfl (fun ls hl => ?_)
    refine loop c0 (tSz t) F3 H locs ls r2 r1.u (fun a ha => (hND2 a (Or.inr (cPath_sub ha))).1.1) (cPath_nd hcn) (Nat.le_refl _) (by omega) hW (lv_sub hl [0, 2, 3, 4] rfl) (fun F4 H locs ls hz4 hfr4 hW hl => ?_)
    have hTp : ∀ j, F4 T j = F3 T j := fun j => hfr4 T j (fun q => hnT T (hND2 T (Or.inr (cPath_sub q.2))).1.1 rfl)
    have q3 : F4 T 3 = .int (nI bp) := (hTp 3).trans r5
    refine lv_aload_n hx hb dX5_buildAnew_124 rfl (lv_at hl 1 rfl) ?_
    refine lv_dup hx hb dX5_buildAnew_125 rfl ?_
    refine g_get (C := RX5) (T := TX5) (N := 4) hx hb hts hi5 hown hN hW.1 hk rfl (by decide) 3 (by decide) hfX5_70 (v := .int (nI bp)) q3 dX5_buildAnew_126 ?_
    refine lv_iload hx hb dX5_buildAnew_129 (lv_at hl 0 rfl) ?_
    refine lv_iadd hx hb dX5_buildAnew_131 ?_
    refine g_asi (show _ = nI (bp + lv) from (nI_add _ _).trans (by rfl)) ?_
    refine g_put (C := RX5) (T := TX5) (N := 4) hx hb hts hi5 tyX5 tyX5_ok nmX5 hown hN hW hk rfl (by decide) 3 (by decide) hfX5_70 rfl rfl rfl dX5_buildAnew_132 (fun H locs hW => ?_)
    have ne : ∀ b j, b ≠ T → ¬ (j = 5 ∧ b ∈ cPath c0) → gU F4 T 3 (.int (nI (bp + lv))) b j = F3 b j := fun b j h1 h2 => by rw [gU_a h1, hfr4 b j h2]
    have hz5 : PXz F4 c0 (tSz B) := by rw [hBs]; rw [show tSz t - (tSz t - lv) = lv by omega] at hz4; exact hz4
    exact hret none _ _ _ _ _ _ hW (by
        refine ⟨rfl, rfl, CT_plug.mpr ⟨CT_congr (fun a ha k _ => ?_) r3, PXr_congr (fun a ha k hk3 hor => ?_) hcn r1, PXz_congr (fun a ha => ?_) hz5⟩, ?_, ?_, fun b j b1 b2 b3 => ?_⟩
        · have hat := alv_sub (hBp a ha)
          exact ne a k (hnT a (hND2 a (Or.inl hat)).1.1) (fun q => hdis a hat (cPath_sub q.2))
        · exact ne a k (hnT a (hND2 a (Or.inr ha)).1.1) (fun q => hor.elim (fun h => h q.1) (fun h => h q.2))
        · exact gU_a (hnT a (hND2 a (Or.inr (cPath_sub ha))).1.1)
        · rw [gU_k (by decide), hTp 2]; exact r4
        · exact gU_self
        · rw [gU_ne (fun q => b2 ⟨q.1, by omega⟩), hfr4 b j (fun q => b1 ⟨(hND2 b (Or.inr (cPath_sub q.2))).1.1, by omega⟩)]
          exact hfr b j b1 b2 b3) (rt_v dX5_buildAnew_135)
  refine lv_aload_n hx hb dX5_buildAnew_0 rfl (lv_at hl 1 rfl) ?_
  refine lv_ifnonnull (tgt := 5) hx hb dX5_buildAnew_1 (by decide) ?_
  have old3 : F old 3 = .int (nI c0.length) ∧ F old 4 = .int (nI (c0.length % d)) ∧ F old 6 = va_rf (cTop c0) := by
    cases t with
    | leaf => cases hold
    | inner s9 a v9 l9 r9 => cases hold; exact ⟨hCs.1, hCs.2.1, hCs.2.2.2.1⟩
  refine lv_aload_n hx hb dX5_buildAnew_5 rfl (lv_at hl 1 rfl) ?_
  refine g_get (C := RX2) (T := TX2) (N := 9) hx hb hts hi2 hown hN hW.1 hko rfl (by decide) 6 (by decide) hfX5_36 (v := va_rf (cTop c0)) old3.2.2 dX5_buildAnew_6 ?_
  refine g_astore_n (r := cTop c0) (lv' := [(2, va_rf (cTop c0)), (0, .ref T), (1, .ref old)]) hx hb dX5_buildAnew_9 rfl hl (by decide) rfl (fun ls hl => ?_)
  rcases c0 with _ | ⟨⟨b, a, o⟩, c1⟩
  · have hl : lv_has ls 8 [(2, .null), (0, .ref T), (1, .ref old)] := hl
    refine lv_aload_nN hx hb dX5_buildAnew_10 rfl (lv_at hl 0 rfl) ?_
    refine lv_ifnullN (tgt := 26) hx hb dX5_buildAnew_11 (by decide) ?_
    refine lv_iconst (v := nI 0) hx hb dX5_buildAnew_26 (by decide) ?_
    refine lv_istore_n (lv' := [(3, .int (nI 0)), (2, .null), (0, .ref T), (1, .ref old)]) hx hb dX5_buildAnew_27 rfl hl (by decide) rfl (fun ls hl => ?_)
    refine lv_aload_n hx hb dX5_buildAnew_28 rfl (lv_at hl 3 rfl) ?_
    refine g_get (C := RX2) (T := TX2) (N := 9) hx hb hts hi2 hown hN hW.1 hko rfl (by decide) 5 (by decide) hfX5_29 (v := .int (nI (tSz t))) (CT_root hCs hold) dX5_buildAnew_29 ?_
    refine lv_istore (lv' := [(4, .int (nI (tSz t))), (3, .int (nI 0)), (2, .null), (0, .ref T), (1, .ref old)]) hx hb dX5_buildAnew_32 hl (by decide) rfl (fun ls hl => ?_)
    refine lv_aload_n hx hb dX5_buildAnew_34 rfl (lv_at hl 3 rfl) ?_
    refine lv_aload_n hx hb dX5_buildAnew_35 rfl (lv_at hl 4 rfl) ?_
    refine g_mV (As := [.ref old]) (b := T) (rest := []) hx hb hml hown hts hN hW (c_gatherLive l Γ K F _ T old row d t _ _ dt pl dd hk hko hkr h1 hCs hold (fun a ha => hND2 a (Or.inl ha)) (by omega) (by rw [hlv]; exact h60)) gX5_buildAnew_X5_gatherLive rfl hk (by decide) rfl (na := 1) rfl (by decide +kernel) ⟨by decide, by decide⟩ ⟨Nat.le_of_ble_eq_true rfl, Nat.le_of_ble_eq_true rfl⟩ rfl hl.1 (Nat.le_of_ble_eq_true rfl) dX5_buildAnew_36 (fun v K' F1 H locs hp hW hsz' => ?_)
    obtain ⟨rfl, hK9, hrow1, hfr1⟩ := hp
    subst K'
    show W _ _ _ _ _ _ _ _ _ _ _ _ _ _ _ (F0 m 39 ls [.int (nI (alv dd (tPre t)).length)])
    refine g_asi (show _ = nI lv from by rw [hlv]) ?_
    have t0 : F1 T 0 = .int (nI d) := (hfr1 T 0 hrT).trans h0
    have t1 : F1 T 1 = .ref row := (hfr1 T 1 hrT).trans h1
    have nd1 : NDs K F1 dt pl dd (alv dd (tPre t)) := NDs_congr (fun b j hbj => hfr1 b j (hbj.elim (fun q => hnr b q.1) (fun q => kne q hkr (by decide)))) (fun z hz => hND2 z (Or.inl (alv_sub hz)))
    have o3 : F1 old 3 = .int (nI (([] : cxT Nat)).length) := (hfr1 old 3 (hnr old hko)).trans old3.1
    have o4 : F1 old 4 = .int (nI ((([] : cxT Nat)).length % d)) := (hfr1 old 4 (hnr old hko)).trans old3.2.1
    refine lv_istore (lv' := [(5, .int (nI lv)), (4, .int (nI (tSz t))), (3, .int (nI 0)), (2, .null), (0, .ref T), (1, .ref old)]) hx hb dX5_buildAnew_39 hl (by decide) rfl (fun ls hl => ?_)
    refine lv_aload_n hx hb dX5_buildAnew_41 rfl (lv_at hl 4 rfl) ?_
    refine lv_iconst (v := nI 0) hx hb dX5_buildAnew_42 (by decide) ?_
    refine lv_iload hx hb dX5_buildAnew_43 (lv_at hl 0 rfl) ?_
    refine lv_aload_n hx hb dX5_buildAnew_45 rfl (lv_at hl 5 rfl) ?_
    refine g_get (C := RX2) (T := TX2) (N := 9) hx hb hts hi2 hown hN hW.1 hko rfl (by decide) 3 (by decide) hfX5_39 (v := .int (nI (([] : cxT Nat)).length)) o3 dX5_buildAnew_46 ?_
    refine lv_aload_n hx hb dX5_buildAnew_49 rfl (lv_at hl 5 rfl) ?_
    refine g_get (C := RX2) (T := TX2) (N := 9) hx hb hts hi2 hown hN hW.1 hko rfl (by decide) 4 (by decide) hfX5_42 (v := .int (nI ((([] : cxT Nat)).length % d))) o4 dX5_buildAnew_50 ?_
    refine lv_aload_nN hx hb dX5_buildAnew_53 rfl (lv_at hl 3 rfl) ?_
    refine g_mV (As := [.int (nI 0), .int (nI lv), .int (nI (([] : cxT Nat)).length), .int (nI ((([] : cxT Nat)).length % d)), .null]) (b := T) (rest := []) hx hb hml hown hts hN hW (by
        have q := c_build l Γ K T row d dt pl dd hk hkr hd1 hd4 60 F1 H.size (alv dd (tPre t)) 0 (([] : cxT Nat)).length (cTop (([] : cxT Nat))) (by rw [hlv]; exact h60) (by rw [hlv]; omega) (by rw [hlv]; omega) t0 t1 hrow1 nd1 (List.Pairwise.filter _ (List.nodup_append.mp hnd2).1)
        rw [hlv, Nat.zero_add, hBe] at q
        exact q) gX5_buildAnew_X5_build rfl hk (by decide) rfl (na := 5) rfl (by decide +kernel) ⟨by decide, by decide⟩ ⟨Nat.le_of_ble_eq_true rfl, Nat.le_of_ble_eq_true rfl⟩ rfl hl.1 (Nat.le_of_ble_eq_true rfl) dX5_buildAnew_54 (fun v K' F2 H locs hp hW hsz' => ?_)
    obtain ⟨rfl, hK9, hCB, hfr2⟩ := hp
    subst K'
    show W _ _ _ _ _ _ _ _ _ _ _ _ _ _ _ (F0 m 57 ls [va_rf (tRt B)])
    have n2 : ∀ b j, b ≠ row → ¬ (b ∈ alv dd (tPre t) ∧ 3 ≤ j) → F2 b j = F b j := fun b j h1 h2 => by rw [hfr2 b j (fun q => h1 q.1) h2, hfr1 b j h1]
    have nL : ∀ b, b ∈ alv dd (tPre t) → K b = some (2, 0) := fun b hb => (hND2 b (Or.inl (alv_sub hb))).1.1
    have nT : ∀ j, F2 T j = F T j := fun j => n2 T j hrT (fun q => hnT T (nL T q.1) rfl)
    have nc : ∀ z j, z ∈ cAd (([] : cxT Nat)) → F2 z j = F z j := fun z j hz => n2 z j (hnr z (hND2 z (Or.inr hz)).1.1) (fun q => hdis z (alv_sub q.1) hz)
    have nfr : ∀ b j, ¬ (K b = some (2, 0) ∧ 3 ≤ j) → b ≠ row → F2 b j = F b j := fun b j h1 h2 => n2 b j h2 (fun q => h1 ⟨nL b q.1, q.2⟩)
    refine g_astore (r := tRt B) (lv' := [(6, va_rf (tRt B)), (5, .int (nI lv)), (4, .int (nI (tSz t))), (3, .int (nI 0)), (2, .null), (0, .ref T), (1, .ref old)]) hx hb dX5_buildAnew_57 hl (by decide) rfl (fun ls hl => ?_)
    refine lv_aload_nN hx hb dX5_buildAnew_59 rfl (lv_at hl 4 rfl) ?_
    refine lv_ifnonnullN hx hb dX5_buildAnew_60 ?_
    refine lv_aload_n hx hb dX5_buildAnew_63 rfl (lv_at hl 5 rfl) ?_
    refine g_aload (r := tRt B) hx hb dX5_buildAnew_64 (lv_at hl 0 rfl) ?_
    refine g_put (C := RX5) (T := TX5) (N := 4) hx hb hts hi5 tyX5 tyX5_ok nmX5 hown hN hW hk rfl (by decide) 2 (by decide) hfX5_21 rfl (va_rf_nar _ _) (va_rf_fit _ _) dX5_buildAnew_66 (fun H locs hW => ?_)
    refine lv_goto (tgt := 91) hx hb dX5_buildAnew_69 (by decide) ?_
    refine tail _ H locs ls trivial trivial ?_ gU_self ?_ (fun b j b1 b2 b3 => ?_) hW (lv_sub hl [4, 2, 1, 5] rfl)
    · exact CT_congr (fun z hz k _ => gU_a (hnT z (nL z (hBp z hz)))) hCB
    · rw [gU_k (by decide), nT 3]; exact h3
    · rw [gU_ne (fun q => b2 ⟨q.1, by omega⟩)]; exact nfr b j b1 b3
  · have hl : lv_has ls 8 [(2, .ref a), (0, .ref T), (1, .ref old)] := hl
    obtain ⟨p3, p4, p6, p7, p8, pC, pR⟩ := id hPr
    have hac : a ∈ cAd ((b, a, o) :: c1) := List.mem_cons_self
    have hka : K a = some (2, 0) := (hND2 a (Or.inr hac)).1.1
    have hno : ∀ z, z ∈ tPre o → z ∈ cAd ((b, a, o) :: c1) := fun z hz => List.mem_cons_of_mem _ (List.mem_append_left _ hz)
    refine lv_aload_n hx hb dX5_buildAnew_10 rfl (lv_at hl 0 rfl) ?_
    refine lv_ifnull hx hb dX5_buildAnew_11 ?_
    cases b
    · refine lv_aload_n hx hb dX5_buildAnew_14 rfl (lv_at hl 0 rfl) ?_
      refine g_get (C := RX2) (T := TX2) (N := 9) hx hb hts hi2 hown hN hW.1 hka rfl (by decide) 7 (by decide) hfX5_53 (v := va_rf (tRt o)) p7 dX5_buildAnew_15 ?_
      refine lv_aload_n hx hb dX5_buildAnew_18 rfl (lv_at hl 2 rfl) ?_
      refine lv_acmp_ne (rx := tRt o) (ry := (some old)) (tgt := 26) hx hb dX5_buildAnew_19 (by decide) (fun cb => ?_) (fun cb => ?_)
      · refine lv_iconst (v := nI 0) hx hb dX5_buildAnew_26 (by decide) ?_
        refine lv_istore_n (lv' := [(3, .int (nI 0)), (2, .ref a), (0, .ref T), (1, .ref old)]) hx hb dX5_buildAnew_27 rfl hl (by decide) rfl (fun ls hl => ?_)
        refine lv_aload_n hx hb dX5_buildAnew_28 rfl (lv_at hl 3 rfl) ?_
        refine g_get (C := RX2) (T := TX2) (N := 9) hx hb hts hi2 hown hN hW.1 hko rfl (by decide) 5 (by decide) hfX5_29 (v := .int (nI (tSz t))) (CT_root hCs hold) dX5_buildAnew_29 ?_
        refine lv_istore (lv' := [(4, .int (nI (tSz t))), (3, .int (nI 0)), (2, .ref a), (0, .ref T), (1, .ref old)]) hx hb dX5_buildAnew_32 hl (by decide) rfl (fun ls hl => ?_)
        refine lv_aload_n hx hb dX5_buildAnew_34 rfl (lv_at hl 3 rfl) ?_
        refine lv_aload_n hx hb dX5_buildAnew_35 rfl (lv_at hl 4 rfl) ?_
        refine g_mV (As := [.ref old]) (b := T) (rest := []) hx hb hml hown hts hN hW (c_gatherLive l Γ K F _ T old row d t _ _ dt pl dd hk hko hkr h1 hCs hold (fun a ha => hND2 a (Or.inl ha)) (by omega) (by rw [hlv]; exact h60)) gX5_buildAnew_X5_gatherLive rfl hk (by decide) rfl (na := 1) rfl (by decide +kernel) ⟨by decide, by decide⟩ ⟨Nat.le_of_ble_eq_true rfl, Nat.le_of_ble_eq_true rfl⟩ rfl hl.1 (Nat.le_of_ble_eq_true rfl) dX5_buildAnew_36 (fun v K' F1 H locs hp hW hsz' => ?_)
        obtain ⟨rfl, hK9, hrow1, hfr1⟩ := hp
        subst K'
        show W _ _ _ _ _ _ _ _ _ _ _ _ _ _ _ (F0 m 39 ls [.int (nI (alv dd (tPre t)).length)])
        refine g_asi (show _ = nI lv from by rw [hlv]) ?_
        have t0 : F1 T 0 = .int (nI d) := (hfr1 T 0 hrT).trans h0
        have t1 : F1 T 1 = .ref row := (hfr1 T 1 hrT).trans h1
        have nd1 : NDs K F1 dt pl dd (alv dd (tPre t)) := NDs_congr (fun b j hbj => hfr1 b j (hbj.elim (fun q => hnr b q.1) (fun q => kne q hkr (by decide)))) (fun z hz => hND2 z (Or.inl (alv_sub hz)))
        have o3 : F1 old 3 = .int (nI (((false, a, o) :: c1)).length) := (hfr1 old 3 (hnr old hko)).trans old3.1
        have o4 : F1 old 4 = .int (nI ((((false, a, o) :: c1)).length % d)) := (hfr1 old 4 (hnr old hko)).trans old3.2.1
        refine lv_istore (lv' := [(5, .int (nI lv)), (4, .int (nI (tSz t))), (3, .int (nI 0)), (2, .ref a), (0, .ref T), (1, .ref old)]) hx hb dX5_buildAnew_39 hl (by decide) rfl (fun ls hl => ?_)
        refine lv_aload_n hx hb dX5_buildAnew_41 rfl (lv_at hl 4 rfl) ?_
        refine lv_iconst (v := nI 0) hx hb dX5_buildAnew_42 (by decide) ?_
        refine lv_iload hx hb dX5_buildAnew_43 (lv_at hl 0 rfl) ?_
        refine lv_aload_n hx hb dX5_buildAnew_45 rfl (lv_at hl 5 rfl) ?_
        refine g_get (C := RX2) (T := TX2) (N := 9) hx hb hts hi2 hown hN hW.1 hko rfl (by decide) 3 (by decide) hfX5_39 (v := .int (nI (((false, a, o) :: c1)).length)) o3 dX5_buildAnew_46 ?_
        refine lv_aload_n hx hb dX5_buildAnew_49 rfl (lv_at hl 5 rfl) ?_
        refine g_get (C := RX2) (T := TX2) (N := 9) hx hb hts hi2 hown hN hW.1 hko rfl (by decide) 4 (by decide) hfX5_42 (v := .int (nI ((((false, a, o) :: c1)).length % d))) o4 dX5_buildAnew_50 ?_
        refine lv_aload_n hx hb dX5_buildAnew_53 rfl (lv_at hl 3 rfl) ?_
        refine g_mV (As := [.int (nI 0), .int (nI lv), .int (nI (((false, a, o) :: c1)).length), .int (nI ((((false, a, o) :: c1)).length % d)), .ref a]) (b := T) (rest := []) hx hb hml hown hts hN hW (by
            have q := c_build l Γ K T row d dt pl dd hk hkr hd1 hd4 60 F1 H.size (alv dd (tPre t)) 0 (((false, a, o) :: c1)).length (cTop (((false, a, o) :: c1))) (by rw [hlv]; exact h60) (by rw [hlv]; omega) (by rw [hlv]; omega) t0 t1 hrow1 nd1 (List.Pairwise.filter _ (List.nodup_append.mp hnd2).1)
            rw [hlv, Nat.zero_add, hBe] at q
            exact q) gX5_buildAnew_X5_build rfl hk (by decide) rfl (na := 5) rfl (by decide +kernel) ⟨by decide, by decide⟩ ⟨Nat.le_of_ble_eq_true rfl, Nat.le_of_ble_eq_true rfl⟩ rfl hl.1 (Nat.le_of_ble_eq_true rfl) dX5_buildAnew_54 (fun v K' F2 H locs hp hW hsz' => ?_)
        obtain ⟨rfl, hK9, hCB, hfr2⟩ := hp
        subst K'
        show W _ _ _ _ _ _ _ _ _ _ _ _ _ _ _ (F0 m 57 ls [va_rf (tRt B)])
        have n2 : ∀ b j, b ≠ row → ¬ (b ∈ alv dd (tPre t) ∧ 3 ≤ j) → F2 b j = F b j := fun b j h1 h2 => by rw [hfr2 b j (fun q => h1 q.1) h2, hfr1 b j h1]
        have nL : ∀ b, b ∈ alv dd (tPre t) → K b = some (2, 0) := fun b hb => (hND2 b (Or.inl (alv_sub hb))).1.1
        have nT : ∀ j, F2 T j = F T j := fun j => n2 T j hrT (fun q => hnT T (nL T q.1) rfl)
        have nc : ∀ z j, z ∈ cAd (((false, a, o) :: c1)) → F2 z j = F z j := fun z j hz => n2 z j (hnr z (hND2 z (Or.inr hz)).1.1) (fun q => hdis z (alv_sub q.1) hz)
        have nfr : ∀ b j, ¬ (K b = some (2, 0) ∧ 3 ≤ j) → b ≠ row → F2 b j = F b j := fun b j h1 h2 => n2 b j h2 (fun q => h1 ⟨nL b q.1, q.2⟩)
        refine g_astore (r := tRt B) (lv' := [(6, va_rf (tRt B)), (5, .int (nI lv)), (4, .int (nI (tSz t))), (3, .int (nI 0)), (2, .ref a), (0, .ref T), (1, .ref old)]) hx hb dX5_buildAnew_57 hl (by decide) rfl (fun ls hl => ?_)
        refine lv_aload_n hx hb dX5_buildAnew_59 rfl (lv_at hl 4 rfl) ?_
        refine lv_ifnonnull (tgt := 72) hx hb dX5_buildAnew_60 (by decide) ?_
        refine lv_iload_n hx hb dX5_buildAnew_72 rfl (lv_at hl 3 rfl) ?_
        refine lv_if_eq (tgt := 85) hx hb dX5_buildAnew_73 (by decide) (fun cd => ?_) (fun cd => ?_)
        · have cd : 0 = 0 := (nI_eq0 (by omega)).mp cd
          refine lv_aload_n hx hb dX5_buildAnew_85 rfl (lv_at hl 4 rfl) ?_
          refine g_aload (r := tRt B) hx hb dX5_buildAnew_86 (lv_at hl 0 rfl) ?_
          refine g_put (C := RX2) (T := TX2) (N := 9) hx hb hts hi2 tyX2 tyX2_ok nmX2 hown hN hW hka rfl (by decide) 8 (by decide) hfX5_56 rfl (va_rf_nar _ _) (va_rf_fit _ _) dX5_buildAnew_88 (fun H locs hW => ?_)
          have hax : ∀ z, z ∈ tPre o ++ cAd c1 → z ≠ a := fun z hz e => (List.nodup_cons.mp (show (a :: (tPre o ++ cAd c1)).Nodup from hcn)).1 (e ▸ hz)
          have ga : ∀ j, j ≠ 8 → gU F2 a 8 (va_rf (tRt B)) a j = F a j := fun j hj => by rw [gU_k hj, nc a j hac]
          have gn : ∀ z j, z ∈ tPre o ++ cAd c1 → gU F2 a 8 (va_rf (tRt B)) z j = F z j := fun z j hz => by rw [gU_a (hax z hz), nc z j (List.mem_cons_of_mem _ hz)]
          refine tail _ H locs ls ⟨(ga 3 (by decide)).trans p3, (ga 4 (by decide)).trans p4, (ga 6 (by decide)).trans p6, ?_, ?_, CT_congr (fun z hz k _ => gn z k (List.mem_append_left _ hz)) pC, PXr_congr (fun z hz k _ _ => gn z k (List.mem_append_right _ hz)) (List.nodup_append.mp (List.nodup_cons.mp (show (a :: (tPre o ++ cAd c1)).Nodup from hcn)).2).2.1 pR⟩ ⟨(ga 5 (by decide)).trans hPz.1, PXz_congr (fun z hz => gn z 5 (List.mem_append_right _ (cPath_sub hz))) hPz.2⟩ ?_ ?_ ?_ (fun b j b1 b2 b3 => ?_) hW (lv_sub hl [4, 2, 1, 5] rfl)
          · exact (ga 7 (by decide)).trans p7
          · exact gU_self
          · exact CT_congr (fun z hz k _ => gU_a (fun e => hdis z (alv_sub (hBp z hz)) (by rw [e]; exact hac))) hCB
          · rw [gU_a (Ne.symm (hnT a hka)), nT 2, h2, plug_root c1 _ t B]
          · rw [gU_a (Ne.symm (hnT a hka)), nT 3]; exact h3
          · rw [gU_ne (fun q => b1 ⟨by rw [q.1]; exact hka, by omega⟩)]; exact nfr b j b1 b3
        · have cd : ¬ 0 = 0 := fun z => cd ((nI_eq0 (by omega)).mpr z)
          exact absurd cd (by decide)
      · exact absurd (tRt_mem cb) (fun h => hdis old hot (hno old h))
    · refine lv_aload_n hx hb dX5_buildAnew_14 rfl (lv_at hl 0 rfl) ?_
      refine g_get (C := RX2) (T := TX2) (N := 9) hx hb hts hi2 hown hN hW.1 hka rfl (by decide) 7 (by decide) hfX5_53 (v := va_rf (some old)) p7 dX5_buildAnew_15 ?_
      refine lv_aload_n hx hb dX5_buildAnew_18 rfl (lv_at hl 2 rfl) ?_
      refine lv_acmp_ne (rx := some old) (ry := (some old)) (tgt := 26) hx hb dX5_buildAnew_19 (by decide) (fun cb => ?_) (fun cb => ?_)
      · exact absurd rfl cb
      · refine lv_iconst (v := nI 1) hx hb dX5_buildAnew_22 (by decide) ?_
        refine lv_goto (tgt := 27) hx hb dX5_buildAnew_23 (by decide) ?_
        refine lv_istore_n (lv' := [(3, .int (nI 1)), (2, .ref a), (0, .ref T), (1, .ref old)]) hx hb dX5_buildAnew_27 rfl hl (by decide) rfl (fun ls hl => ?_)
        refine lv_aload_n hx hb dX5_buildAnew_28 rfl (lv_at hl 3 rfl) ?_
        refine g_get (C := RX2) (T := TX2) (N := 9) hx hb hts hi2 hown hN hW.1 hko rfl (by decide) 5 (by decide) hfX5_29 (v := .int (nI (tSz t))) (CT_root hCs hold) dX5_buildAnew_29 ?_
        refine lv_istore (lv' := [(4, .int (nI (tSz t))), (3, .int (nI 1)), (2, .ref a), (0, .ref T), (1, .ref old)]) hx hb dX5_buildAnew_32 hl (by decide) rfl (fun ls hl => ?_)
        refine lv_aload_n hx hb dX5_buildAnew_34 rfl (lv_at hl 3 rfl) ?_
        refine lv_aload_n hx hb dX5_buildAnew_35 rfl (lv_at hl 4 rfl) ?_
        refine g_mV (As := [.ref old]) (b := T) (rest := []) hx hb hml hown hts hN hW (c_gatherLive l Γ K F _ T old row d t _ _ dt pl dd hk hko hkr h1 hCs hold (fun a ha => hND2 a (Or.inl ha)) (by omega) (by rw [hlv]; exact h60)) gX5_buildAnew_X5_gatherLive rfl hk (by decide) rfl (na := 1) rfl (by decide +kernel) ⟨by decide, by decide⟩ ⟨Nat.le_of_ble_eq_true rfl, Nat.le_of_ble_eq_true rfl⟩ rfl hl.1 (Nat.le_of_ble_eq_true rfl) dX5_buildAnew_36 (fun v K' F1 H locs hp hW hsz' => ?_)
        obtain ⟨rfl, hK9, hrow1, hfr1⟩ := hp
        subst K'
        show W _ _ _ _ _ _ _ _ _ _ _ _ _ _ _ (F0 m 39 ls [.int (nI (alv dd (tPre t)).length)])
        refine g_asi (show _ = nI lv from by rw [hlv]) ?_
        have t0 : F1 T 0 = .int (nI d) := (hfr1 T 0 hrT).trans h0
        have t1 : F1 T 1 = .ref row := (hfr1 T 1 hrT).trans h1
        have nd1 : NDs K F1 dt pl dd (alv dd (tPre t)) := NDs_congr (fun b j hbj => hfr1 b j (hbj.elim (fun q => hnr b q.1) (fun q => kne q hkr (by decide)))) (fun z hz => hND2 z (Or.inl (alv_sub hz)))
        have o3 : F1 old 3 = .int (nI (((true, a, o) :: c1)).length) := (hfr1 old 3 (hnr old hko)).trans old3.1
        have o4 : F1 old 4 = .int (nI ((((true, a, o) :: c1)).length % d)) := (hfr1 old 4 (hnr old hko)).trans old3.2.1
        refine lv_istore (lv' := [(5, .int (nI lv)), (4, .int (nI (tSz t))), (3, .int (nI 1)), (2, .ref a), (0, .ref T), (1, .ref old)]) hx hb dX5_buildAnew_39 hl (by decide) rfl (fun ls hl => ?_)
        refine lv_aload_n hx hb dX5_buildAnew_41 rfl (lv_at hl 4 rfl) ?_
        refine lv_iconst (v := nI 0) hx hb dX5_buildAnew_42 (by decide) ?_
        refine lv_iload hx hb dX5_buildAnew_43 (lv_at hl 0 rfl) ?_
        refine lv_aload_n hx hb dX5_buildAnew_45 rfl (lv_at hl 5 rfl) ?_
        refine g_get (C := RX2) (T := TX2) (N := 9) hx hb hts hi2 hown hN hW.1 hko rfl (by decide) 3 (by decide) hfX5_39 (v := .int (nI (((true, a, o) :: c1)).length)) o3 dX5_buildAnew_46 ?_
        refine lv_aload_n hx hb dX5_buildAnew_49 rfl (lv_at hl 5 rfl) ?_
        refine g_get (C := RX2) (T := TX2) (N := 9) hx hb hts hi2 hown hN hW.1 hko rfl (by decide) 4 (by decide) hfX5_42 (v := .int (nI ((((true, a, o) :: c1)).length % d))) o4 dX5_buildAnew_50 ?_
        refine lv_aload_n hx hb dX5_buildAnew_53 rfl (lv_at hl 3 rfl) ?_
        refine g_mV (As := [.int (nI 0), .int (nI lv), .int (nI (((true, a, o) :: c1)).length), .int (nI ((((true, a, o) :: c1)).length % d)), .ref a]) (b := T) (rest := []) hx hb hml hown hts hN hW (by
            have q := c_build l Γ K T row d dt pl dd hk hkr hd1 hd4 60 F1 H.size (alv dd (tPre t)) 0 (((true, a, o) :: c1)).length (cTop (((true, a, o) :: c1))) (by rw [hlv]; exact h60) (by rw [hlv]; omega) (by rw [hlv]; omega) t0 t1 hrow1 nd1 (List.Pairwise.filter _ (List.nodup_append.mp hnd2).1)
            rw [hlv, Nat.zero_add, hBe] at q
            exact q) gX5_buildAnew_X5_build rfl hk (by decide) rfl (na := 5) rfl (by decide +kernel) ⟨by decide, by decide⟩ ⟨Nat.le_of_ble_eq_true rfl, Nat.le_of_ble_eq_true rfl⟩ rfl hl.1 (Nat.le_of_ble_eq_true rfl) dX5_buildAnew_54 (fun v K' F2 H locs hp hW hsz' => ?_)
        obtain ⟨rfl, hK9, hCB, hfr2⟩ := hp
        subst K'
        show W _ _ _ _ _ _ _ _ _ _ _ _ _ _ _ (F0 m 57 ls [va_rf (tRt B)])
        have n2 : ∀ b j, b ≠ row → ¬ (b ∈ alv dd (tPre t) ∧ 3 ≤ j) → F2 b j = F b j := fun b j h1 h2 => by rw [hfr2 b j (fun q => h1 q.1) h2, hfr1 b j h1]
        have nL : ∀ b, b ∈ alv dd (tPre t) → K b = some (2, 0) := fun b hb => (hND2 b (Or.inl (alv_sub hb))).1.1
        have nT : ∀ j, F2 T j = F T j := fun j => n2 T j hrT (fun q => hnT T (nL T q.1) rfl)
        have nc : ∀ z j, z ∈ cAd (((true, a, o) :: c1)) → F2 z j = F z j := fun z j hz => n2 z j (hnr z (hND2 z (Or.inr hz)).1.1) (fun q => hdis z (alv_sub q.1) hz)
        have nfr : ∀ b j, ¬ (K b = some (2, 0) ∧ 3 ≤ j) → b ≠ row → F2 b j = F b j := fun b j h1 h2 => n2 b j h2 (fun q => h1 ⟨nL b q.1, q.2⟩)
        refine g_astore (r := tRt B) (lv' := [(6, va_rf (tRt B)), (5, .int (nI lv)), (4, .int (nI (tSz t))), (3, .int (nI 1)), (2, .ref a), (0, .ref T), (1, .ref old)]) hx hb dX5_buildAnew_57 hl (by decide) rfl (fun ls hl => ?_)
        refine lv_aload_n hx hb dX5_buildAnew_59 rfl (lv_at hl 4 rfl) ?_
        refine lv_ifnonnull (tgt := 72) hx hb dX5_buildAnew_60 (by decide) ?_
        refine lv_iload_n hx hb dX5_buildAnew_72 rfl (lv_at hl 3 rfl) ?_
        refine lv_if_eq (tgt := 85) hx hb dX5_buildAnew_73 (by decide) (fun cd => ?_) (fun cd => ?_)
        · have cd : 1 = 0 := (nI_eq0 (by omega)).mp cd
          exact absurd cd (by decide)
        · have cd : ¬ 1 = 0 := fun z => cd ((nI_eq0 (by omega)).mpr z)
          refine lv_aload_n hx hb dX5_buildAnew_76 rfl (lv_at hl 4 rfl) ?_
          refine g_aload (r := tRt B) hx hb dX5_buildAnew_77 (lv_at hl 0 rfl) ?_
          refine g_put (C := RX2) (T := TX2) (N := 9) hx hb hts hi2 tyX2 tyX2_ok nmX2 hown hN hW hka rfl (by decide) 7 (by decide) hfX5_53 rfl (va_rf_nar _ _) (va_rf_fit _ _) dX5_buildAnew_79 (fun H locs hW => ?_)
          refine lv_goto (tgt := 91) hx hb dX5_buildAnew_82 (by decide) ?_
          have hax : ∀ z, z ∈ tPre o ++ cAd c1 → z ≠ a := fun z hz e => (List.nodup_cons.mp (show (a :: (tPre o ++ cAd c1)).Nodup from hcn)).1 (e ▸ hz)
          have ga : ∀ j, j ≠ 7 → gU F2 a 7 (va_rf (tRt B)) a j = F a j := fun j hj => by rw [gU_k hj, nc a j hac]
          have gn : ∀ z j, z ∈ tPre o ++ cAd c1 → gU F2 a 7 (va_rf (tRt B)) z j = F z j := fun z j hz => by rw [gU_a (hax z hz), nc z j (List.mem_cons_of_mem _ hz)]
          refine tail _ H locs ls ⟨(ga 3 (by decide)).trans p3, (ga 4 (by decide)).trans p4, (ga 6 (by decide)).trans p6, ?_, ?_, CT_congr (fun z hz k _ => gn z k (List.mem_append_left _ hz)) pC, PXr_congr (fun z hz k _ _ => gn z k (List.mem_append_right _ hz)) (List.nodup_append.mp (List.nodup_cons.mp (show (a :: (tPre o ++ cAd c1)).Nodup from hcn)).2).2.1 pR⟩ ⟨(ga 5 (by decide)).trans hPz.1, PXz_congr (fun z hz => gn z 5 (List.mem_append_right _ (cPath_sub hz))) hPz.2⟩ ?_ ?_ ?_ (fun b j b1 b2 b3 => ?_) hW (lv_sub hl [4, 2, 1, 5] rfl)
          · exact gU_self
          · exact (ga 8 (by decide)).trans p8
          · exact CT_congr (fun z hz k _ => gU_a (fun e => hdis z (alv_sub (hBp z hz)) (by rw [e]; exact hac))) hCB
          · rw [gU_a (Ne.symm (hnT a hka)), nT 2, h2, plug_root c1 _ t B]
          · rw [gU_a (Ne.symm (hnT a hka)), nT 3]; exact h3
          · rw [gU_ne (fun q => b1 ⟨by rw [q.1]; exact hka, by omega⟩)]; exact nfr b j b1 b3
end
section
def lastD (S : List (Nat × Int64)) : Int64 := match S.getLast? with
  | some x => x.2
  | none => 0
def shut (k : Nat) (S : List (Nat × Int64)) (g : Int64) : Bool := decide (k ≤ S.length ∧ (S.length = 0 ∨ lastD S < g))
/-- A SEARCH: the list and how many were looked at -/
def srchG {α : Type} (lb : α → gPt × Bool) (k d : Nat) (q : Nat → Int32) : TT α → Nat → List (Nat × Int64) × Nat → List (Nat × Int64) × Nat
  | .leaf, _, st => st
  | .inner _ a _ l r, dep, st =>
    if q (dep % d) - (lb a).1.2 (dep % d) < 0 then
      if shut k (srchG lb k d q l (dep + 1) (if (lb a).2 then st.1 else offL k ((lb a).1.1, pDist q (lb a).1.2) st.1, st.2 + 1)).1 (sqI (q (dep % d) - (lb a).1.2 (dep % d))) then srchG lb k d q l (dep + 1) (if (lb a).2 then st.1 else offL k ((lb a).1.1, pDist q (lb a).1.2) st.1, st.2 + 1)
      else srchG lb k d q r (dep + 1) (srchG lb k d q l (dep + 1) (if (lb a).2 then st.1 else offL k ((lb a).1.1, pDist q (lb a).1.2) st.1, st.2 + 1))
    else
      if shut k (srchG lb k d q r (dep + 1) (if (lb a).2 then st.1 else offL k ((lb a).1.1, pDist q (lb a).1.2) st.1, st.2 + 1)).1 (sqI (q (dep % d) - (lb a).1.2 (dep % d))) then srchG lb k d q r (dep + 1) (if (lb a).2 then st.1 else offL k ((lb a).1.1, pDist q (lb a).1.2) st.1, st.2 + 1)
      else srchG lb k d q l (dep + 1) (srchG lb k d q r (dep + 1) (if (lb a).2 then st.1 else offL k ((lb a).1.1, pDist q (lb a).1.2) st.1, st.2 + 1))
theorem lsR.lastd {K : gK} {F : gF} {h ai ad lim : Nat} {S : List (Nat × Int64)} (H : lsR K F h ai ad S lim) (h0 : 0 < S.length) : F ad (S.length - 1) = .long (lastD S) := by
  obtain ⟨P, z, rfl, hn⟩ := snoc_of (show S.length = (S.length - 1) + 1 by omega)
  have h5 := H.2.2.2.2.2.2.2.2.1
  rw [List.map_append] at h5
  have := rowL.last (v := vDi z) h5
  rw [List.length_map, Nat.zero_add] at this
  rw [show (P ++ [z]).length - 1 = P.length by simp, this]
  simp [vDi, lastD]
def lkP (K : gK) (F : gF) (s h pq : Nat) (q : Nat → Int32) (d : Nat) (dt : Nat → gPt) (pl : Nat → Nat) (dd : Nat → Bool) (t : TT Nat) (up : Option Nat) (dep : Nat) : Prop :=
  F s 0 = .ref pq ∧ F s 1 = .ref h ∧ (∀ i, i < 4 → F pq i = .int (q i)) ∧ NDs K F dt pl dd (tPre t) ∧ CT F d t up dep
def frS (s h ai ad : Nat) (F F' : gF) : Prop := ∀ b j, b ≠ h → b ≠ ai → b ≠ ad → ¬ (b = s ∧ j = 2) → F' b j = F b j
theorem frS.trans {s h ai ad : Nat} {F F1 F2 : gF} (h1 : frS s h ai ad F F1) (h2 : frS s h ai ad F1 F2) : frS s h ai ad F F2 := fun b j a1 a2 a3 a4 => (h2 b j a1 a2 a3 a4).trans (h1 b j a1 a2 a3 a4)
theorem lkP_congr {K : gK} {F F' : gF} {s h ai ad pq d : Nat} {q : Nat → Int32} {dt : Nat → gPt} {pl : Nat → Nat} {dd : Nat → Bool} {t : TT Nat} {up : Option Nat} {dep : Nat} (hks : K s = some (4, 0)) (hkh : K h = some (1, 0)) (hka : K ai = some (8, 100)) (hkd : K ad = some (9, 100)) (hkq : K pq = some (3, 0)) (hf : frS s h ai ad F F') (H : lkP K F s h pq q d dt pl dd t up dep) : lkP K F' s h pq q d dt pl dd t up dep := by
  obtain ⟨h1, h2, h3, h4, h5⟩ := H
  have hs : ∀ j, j ≠ 2 → F' s j = F s j := fun j hj => hf s j (kne hks hkh (by decide)) (kne hks hka (by decide)) (kne hks hkd (by decide)) (fun z => hj z.2)
  have hn : ∀ a j, K a = some (2, 0) → F' a j = F a j := fun a j ha => hf a j (kne ha hkh (by decide)) (kne ha hka (by decide)) (kne ha hkd (by decide)) (fun z => kne ha hks (by decide) z.1)
  have hp : ∀ a j, K a = some (3, 0) → F' a j = F a j := fun a j ha => hf a j (kne ha hkh (by decide)) (kne ha hka (by decide)) (kne ha hkd (by decide)) (fun z => kne ha hks (by decide) z.1)
  exact ⟨by rw [hs 0 (by decide), h1], by rw [hs 1 (by decide), h2], fun i hi => by rw [hp pq i hkq]; exact h3 i hi, NDs_congr (fun b j hb => hb.elim (fun z => hn b j z.1) (fun z => hp b j z)) h4, CT_congr (fun a ha k _ => hn a k (h4 a ha).1.1) h5⟩

set_option maxHeartbeats 4000000 in
set_option maxRecDepth 100000 in
/-- Search.lookAt -/
theorem c_lookAt (l : Launch) (Γ : gG) (K : gK) (s9 h ai ad pq : Nat) (q : Nat → Int32) (k d : Nat) (dt : Nat → gPt) (pl : Nat → Nat) (dd : Nat → Bool) (hks : K s9 = some (4, 0)) (hkh : K h = some (1, 0)) (hka : K ai = some (8, 100)) (hkd : K ad = some (9, 100)) (hkq : K pq = some (3, 0)) (hd1 : 0 < d) (hd4 : d ≤ 4) : ∀ (t : TT Nat) (F : gF) (sz : Nat) (up : Option Nat) (dep : Nat) (S : List (Nat × Int64)) (n : Nat) (hP9 : lkP K F s9 h pq q d dt pl dd t up dep) (hL : lsR K F h ai ad S k) (hn9 : F s9 2 = .int (nI n)) (hdep : dep + tSz t ≤ 120), gMM l yX4_lookAt wsX4_lookAt (tSz t + 3) 0 0 Γ K F sz [.ref s9, va_rf (tRt t), .int (nI dep)] (fun v K' F' => v = none ∧ K' = K ∧ lsR K F' h ai ad (srchG (fun a => (dt a, dd a)) k d q t dep (S, n)).1 k ∧ F' s9 2 = .int (nI (srchG (fun a => (dt a, dd a)) k d q t dep (S, n)).2) ∧ frS s9 h ai ad F F') := by
  intro t
  induction t with
  | leaf =>
    intro F sz up dep S n hP9 hL hn9 hdep
    refine g_mM (cc := cX4_lookAt) (maxL := 4) (ret := none) (by decide) rfl (Nat.le_of_ble_eq_true rfl) ?_
    intro p e s m args below meth c ls Z hsz hx hb hts hown hml hnm hN hW hret hl
    have hl : lv_has ls 4 [(0, .ref s9), (1, .null), (2, .int (nI dep))] := hl
    have hown : s.vm.findClass RX4 = some m.cls := hown
    refine lv_aload_nN hx hb dX4_lookAt_0 rfl (lv_at hl 1 rfl) ?_
    refine lv_ifnullN (tgt := 10) hx hb dX4_lookAt_1 (by decide) ?_
    exact hret none _ _ _ _ _ _ hW (⟨rfl, rfl, hL, hn9, fun _ _ _ _ _ _ => rfl⟩) (rt_v dX4_lookAt_10)
  | inner s8 a v8 L R ihl ihr =>
    intro F sz up dep S n hP9 hL hn9 hdep
    refine g_mM (cc := cX4_lookAt) (maxL := 4) (ret := none) (by decide) rfl (Nat.le_of_ble_eq_true rfl) ?_
    intro p e s m args below meth c ls Z hsz hx hb hts hown hml hnm hN hW hret hl
    have hl : lv_has ls 4 [(0, .ref s9), (1, .ref a), (2, .int (nI dep))] := hl
    have hown : s.vm.findClass RX4 = some m.cls := hown
    have hi2 : ∀ w ∈ wsX20, w ∈ wsX4_lookAt := by decide +kernel
    have hi4 : ∀ w ∈ wsX40, w ∈ wsX4_lookAt := by decide +kernel
    have hfX4_9 : Cond.fieldLink RX4 9 (TX4 0).1 (TX4 0).2.1 (TX4 0).2.2.1 ∈ wsX4_lookAt := by decide +kernel
    have hfX4_15 : Cond.fieldLink RX4 15 (TX4 1).1 (TX4 1).2.1 (TX4 1).2.2.1 ∈ wsX4_lookAt := by decide +kernel
    have hfX4_19 : Cond.fieldLink RX4 19 (TX4 2).1 (TX4 2).2.1 (TX4 2).2.2.1 ∈ wsX4_lookAt := by decide +kernel
    have hfX4_27 : Cond.fieldLink RX4 27 (TX2 2).1 (TX2 2).2.1 (TX2 2).2.2.1 ∈ wsX4_lookAt := by decide +kernel
    have hfX4_33 : Cond.fieldLink RX4 33 (TX2 0).1 (TX2 0).2.1 (TX2 0).2.2.1 ∈ wsX4_lookAt := by decide +kernel
    have hfX4_36 : Cond.fieldLink RX4 36 (TX2 1).1 (TX2 1).2.1 (TX2 1).2.2.1 ∈ wsX4_lookAt := by decide +kernel
    have hfX4_49 : Cond.fieldLink RX4 49 (TX2 4).1 (TX2 4).2.1 (TX2 4).2.2.1 ∈ wsX4_lookAt := by decide +kernel
    have hfX4_56 : Cond.fieldLink RX4 56 (TX2 7).1 (TX2 7).2.1 (TX2 7).2.2.1 ∈ wsX4_lookAt := by decide +kernel
    have hfX4_60 : Cond.fieldLink RX4 60 (TX2 8).1 (TX2 8).2.1 (TX2 8).2.2.1 ∈ wsX4_lookAt := by decide +kernel
    obtain ⟨g1, g2, g3, g4, g5⟩ := id hP9
    have hka9 := (g4 a List.mem_cons_self).1
    have hdd := (g4 a List.mem_cons_self).2
    obtain ⟨e1, e2, e3, e4, e5, e6, e7, e8⟩ := id g5
    have hax : dep % d < 4 := Nat.lt_of_lt_of_le (Nat.mod_lt _ hd1) hd4
    have hdep : dep + (tSz L + tSz R + 1) ≤ 120 := hdep
    generalize hS1 : (if dd a then S else offL k ((dt a).1, pDist q (dt a).2) S) = S1 at hret
    generalize hgap : q (dep % d) - (dt a).2 (dep % d) = gap at hret
    have cont : ∀ (F2 : gF) (H : Heap) (locs : List Loc) (ls : Array Slot), lsR K F2 h ai ad S1 k → F2 s9 2 = .int (nI (n + 1)) → frS s9 h ai ad F F2 → gW Γ (gA K sz) s.heap K F2 H locs → lv_has ls 4 [(0, .ref s9), (1, .ref a), (2, .int (nI dep))] → W p l e (gRm (tSz L + tSz R + 1 + 3) 0 0) s m args below meth c H locs 0 0 Z (F0 m 50 ls []) := by
      intro F2 H locs ls hL2 hn2 hf2 hW hl
      obtain ⟨k1, k2, k3, k4, k5⟩ := lkP_congr hks hkh hka hkd hkq hf2 hP9
      obtain ⟨u1, u2, u3, u4, u5, u6, u7, u8⟩ := id k5
      have hka2 := (k4 a List.mem_cons_self).1
      refine lv_aload_n hx hb dX4_lookAt_50 rfl (lv_at hl 0 rfl) ?_
      refine g_get (C := RX4) (T := TX4) (N := 3) hx hb hts hi4 hown hN hW.1 hks rfl (by decide) 0 (by decide) hfX4_9 (v := .ref pq) k1 dX4_lookAt_51 ?_
      refine lv_aload_n hx hb dX4_lookAt_54 rfl (lv_at hl 1 rfl) ?_
      refine g_get (C := RX2) (T := TX2) (N := 9) hx hb hts hi2 hown hN hW.1 hka9.1 rfl (by decide) 4 (by decide) hfX4_49 (v := .int (nI (dep % d))) u2 dX4_lookAt_55 ?_
      refine g_cV (v := (some (.int (q (dep % d))))) (As := [.int (nI (dep % d))]) (b := pq) (rest := []) hx hb hml hown hts hN hW.1 (c_number l Γ K F2 pq q (dep % d) hkq k3 hax) gX4_lookAt_X3_number rfl hkq (by decide) rfl (na := 1) rfl (by decide +kernel) ⟨by simp only [gRm]; omega, by simp only [gRm]; omega⟩ ⟨Nat.zero_le _, Nat.zero_le _⟩ rfl hl.1 (Nat.le_of_ble_eq_true rfl) dX4_lookAt_58 ?_
      show W _ _ _ _ _ _ _ _ _ _ _ _ _ _ _ (F0 m 61 ls [.int (q (dep % d))])
      refine lv_aload_n hx hb dX4_lookAt_61 rfl (lv_at hl 1 rfl) ?_
      refine g_get (C := RX2) (T := TX2) (N := 9) hx hb hts hi2 hown hN hW.1 hka9.1 rfl (by decide) 1 (by decide) hfX4_36 (v := .ref (pl a)) hka2.2.2.2.1 dX4_lookAt_62 ?_
      refine lv_aload_n hx hb dX4_lookAt_65 rfl (lv_at hl 1 rfl) ?_
      refine g_get (C := RX2) (T := TX2) (N := 9) hx hb hts hi2 hown hN hW.1 hka9.1 rfl (by decide) 4 (by decide) hfX4_49 (v := .int (nI (dep % d))) u2 dX4_lookAt_66 ?_
      refine g_cV (v := (some (.int ((dt a).2 (dep % d))))) (As := [.int (nI (dep % d))]) (b := pl a) (rest := [.int (q (dep % d))]) hx hb hml hown hts hN hW.1 (c_number l Γ K F2 (pl a) (dt a).2 (dep % d) hka2.2.1 hka2.2.2.2.2.1 hax) gX4_lookAt_X3_number rfl hka9.2.1 (by decide) rfl (na := 1) rfl (by decide +kernel) ⟨by simp only [gRm]; omega, by simp only [gRm]; omega⟩ ⟨Nat.zero_le _, Nat.zero_le _⟩ rfl hl.1 (Nat.le_of_ble_eq_true rfl) dX4_lookAt_69 ?_
      show W _ _ _ _ _ _ _ _ _ _ _ _ _ _ _ (F0 m 72 ls [.int ((dt a).2 (dep % d)), .int (q (dep % d))])
      refine lv_isub hx hb dX4_lookAt_72 ?_
      refine g_asi (show _ = gap from hgap) ?_
      refine lv_istore_n (lv' := [(3, .int gap), (0, .ref s9), (1, .ref a), (2, .int (nI dep))]) hx hb dX4_lookAt_73 rfl hl (by decide) rfl (fun ls hl => ?_)
      refine lv_aload_n hx hb dX4_lookAt_74 rfl (lv_at hl 1 rfl) ?_
      refine lv_iload_n hx hb dX4_lookAt_75 rfl (lv_at hl 0 rfl) ?_
      refine lv_if_ge (tgt := 86) hx hb dX4_lookAt_76 (by decide) (fun c1 => ?_) (fun c1 => ?_)
      · refine lv_aload_n hx hb dX4_lookAt_86 rfl (lv_at hl 2 rfl) ?_
        refine g_get (C := RX2) (T := TX2) (N := 9) hx hb hts hi2 hown hN hW.1 hka9.1 rfl (by decide) 8 (by decide) hfX4_60 (v := va_rf (tRt R)) u6 dX4_lookAt_87 ?_
        refine lv_iload_n hx hb dX4_lookAt_90 rfl (lv_at hl 3 rfl) ?_
        refine lv_iconst (v := nI 1) hx hb dX4_lookAt_91 (by decide) ?_
        refine lv_iadd hx hb dX4_lookAt_92 ?_
        refine g_asi (show _ = nI (dep + 1) from (nI_add _ _).trans (by rfl)) ?_
        refine g_mV (As := [va_rf (tRt R), .int (nI (dep + 1))]) (b := s9) (rest := []) hx hb hml hown hts hN hW (ihr F2 H.size (some a) (dep + 1) S1 (n + 1) ⟨k1, k2, k3, NDs_sub k4 (fun z hz => List.mem_cons_of_mem _ (List.mem_append_right _ hz)), u8⟩ hL2 hn2 (by omega)) gX4_lookAt_X4_lookAt rfl hks (by decide) rfl (na := 2) rfl (by decide +kernel) ⟨by simp only [gRm]; omega, by simp only [gRm]; omega⟩ ⟨Nat.le_of_ble_eq_true rfl, Nat.le_of_ble_eq_true rfl⟩ rfl hl.1 (Nat.le_of_ble_eq_true rfl) dX4_lookAt_93 (fun v K' F3 H locs hp hW hsz' => ?_)
        obtain ⟨rfl, hK9, hL3, hn3, hf3⟩ := hp
        subst K'
        show W _ _ _ _ _ _ _ _ _ _ _ _ _ _ _ (F0 m 96 ls [])
        generalize hst : srchG (fun a => (dt a, dd a)) k d q R (dep + 1) (S1, n + 1) = st at hL3 hn3
        obtain ⟨S2, n2⟩ := st
        have hf4 := hf2.trans hf3
        obtain ⟨m1, m2, m3, m4, m5⟩ := lkP_congr hks hkh hka hkd hkq hf4 hP9
        obtain ⟨w1, w2, w3, w4, w5, w6, w7, w8⟩ := id m5
        obtain ⟨-, -, -, b0, b1, b2, b3, -, -, b6, b7, -⟩ := id hL3
        have hsp : srchG (fun a => (dt a, dd a)) k d q (Std.DTreeMap.Internal.Impl.inner s8 a v8 L R) dep (S, n) = if shut k S2 (sqI gap) then (S2, n2) else srchG (fun a => (dt a, dd a)) k d q L (dep + 1) (S2, n2) := by
          rw [srchG]
          simp only []
          rw [hS1, hgap, if_neg (Int32.not_lt.mpr c1), hst]
        refine lv_aload_n hx hb dX4_lookAt_96 rfl (lv_at hl 1 rfl) ?_
        refine g_get (C := RX4) (T := TX4) (N := 3) hx hb hts hi4 hown hN hW.1 hks rfl (by decide) 1 (by decide) hfX4_15 (v := .ref h) m2 dX4_lookAt_97 ?_
        refine lv_iload_n hx hb dX4_lookAt_100 rfl (lv_at hl 0 rfl) ?_
        refine lv_i2l (v := gap.toInt64) hx hb dX4_lookAt_101 rfl ?_
        refine g_cS (v := (some (.long (sqI gap)))) (As := [.long gap.toInt64]) (rest := [.ref h]) hx hb hml hown hts hN hW.1 (c_square l Γ K F3 gap.toInt64) gX4_lookAt_X3_square rfl (na := 1) rfl (by decide +kernel) ⟨by simp only [gRm]; omega, by simp only [gRm]; omega⟩ ⟨Nat.zero_le _, Nat.zero_le _⟩ rfl hl.1 (Nat.le_of_ble_eq_true rfl) dX4_lookAt_102 ?_
        show W _ _ _ _ _ _ _ _ _ _ _ _ _ _ _ (F0 m 105 ls [.long (sqI gap), .ref h])
        refine g_cV (v := (some (.int (bI (shut k S2 (sqI gap)))))) (As := [.long (sqI gap)]) (b := h) (rest := []) hx hb hml hown hts hN hW.1 (c_shutsOut l Γ K F3 h ad S2.length k (lastD S2) (sqI gap) hkh hkd b1 b2 b3 (Nat.le_trans b6 b7) b7 hL3.lastd) gX4_lookAt_X1_shutsOut rfl hkh (by decide) rfl (na := 1) rfl (by decide +kernel) ⟨by simp only [gRm]; omega, by simp only [gRm]; omega⟩ ⟨Nat.zero_le _, Nat.zero_le _⟩ rfl hl.1 (Nat.le_of_ble_eq_true rfl) dX4_lookAt_105 ?_
        show W _ _ _ _ _ _ _ _ _ _ _ _ _ _ _ (F0 m 108 ls [.int (bI (shut k S2 (sqI gap)))])
        refine lv_if_ne (tgt := 133) hx hb dX4_lookAt_108 (by decide) (fun c2 => ?_) (fun c2 => ?_)
        · have c2 : (shut k S2 (sqI gap)) = true := bI_n0.mp c2
          rw [hsp, if_pos c2] at hret
          exact hret none _ _ _ _ _ _ hW (⟨rfl, rfl, hL3, hn3, hf4⟩) (rt_v dX4_lookAt_133)
        · have c2 : (shut k S2 (sqI gap)) = false := bI_0.mp c2
          rw [hsp, if_neg (by rw [c2]; decide)] at hret
          refine lv_aload_n hx hb dX4_lookAt_111 rfl (lv_at hl 1 rfl) ?_
          refine lv_iload_n hx hb dX4_lookAt_112 rfl (lv_at hl 0 rfl) ?_
          refine lv_if_ge (tgt := 123) hx hb dX4_lookAt_113 (by decide) (fun c3 => ?_) (fun c3 => ?_)
          · refine lv_aload_n hx hb dX4_lookAt_123 rfl (lv_at hl 2 rfl) ?_
            refine g_get (C := RX2) (T := TX2) (N := 9) hx hb hts hi2 hown hN hW.1 hka9.1 rfl (by decide) 7 (by decide) hfX4_56 (v := va_rf (tRt L)) w5 dX4_lookAt_124 ?_
            refine lv_iload_n hx hb dX4_lookAt_127 rfl (lv_at hl 3 rfl) ?_
            refine lv_iconst (v := nI 1) hx hb dX4_lookAt_128 (by decide) ?_
            refine lv_iadd hx hb dX4_lookAt_129 ?_
            refine g_asi (show _ = nI (dep + 1) from (nI_add _ _).trans (by rfl)) ?_
            refine g_mV (As := [va_rf (tRt L), .int (nI (dep + 1))]) (b := s9) (rest := []) hx hb hml hown hts hN hW (ihl F3 H.size (some a) (dep + 1) S2 n2 ⟨m1, m2, m3, NDs_sub m4 (fun z hz => List.mem_cons_of_mem _ (List.mem_append_left _ hz)), w7⟩ hL3 hn3 (by omega)) gX4_lookAt_X4_lookAt rfl hks (by decide) rfl (na := 2) rfl (by decide +kernel) ⟨by simp only [gRm]; omega, by simp only [gRm]; omega⟩ ⟨Nat.le_of_ble_eq_true rfl, Nat.le_of_ble_eq_true rfl⟩ rfl hl.1 (Nat.le_of_ble_eq_true rfl) dX4_lookAt_130 (fun v K' F5 H locs hp hW hsz' => ?_)
            obtain ⟨rfl, hK9, hL5, hn5, hf5⟩ := hp
            subst K'
            show W _ _ _ _ _ _ _ _ _ _ _ _ _ _ _ (F0 m 133 ls [])
            exact hret none _ _ _ _ _ _ hW (⟨rfl, rfl, hL5, hn5, hf4.trans hf5⟩) (rt_v dX4_lookAt_133)
          · exact absurd c1 c3
      · refine lv_aload_n hx hb dX4_lookAt_79 rfl (lv_at hl 2 rfl) ?_
        refine g_get (C := RX2) (T := TX2) (N := 9) hx hb hts hi2 hown hN hW.1 hka9.1 rfl (by decide) 7 (by decide) hfX4_56 (v := va_rf (tRt L)) u5 dX4_lookAt_80 ?_
        refine lv_goto (tgt := 90) hx hb dX4_lookAt_83 (by decide) ?_
        refine lv_iload_n hx hb dX4_lookAt_90 rfl (lv_at hl 3 rfl) ?_
        refine lv_iconst (v := nI 1) hx hb dX4_lookAt_91 (by decide) ?_
        refine lv_iadd hx hb dX4_lookAt_92 ?_
        refine g_asi (show _ = nI (dep + 1) from (nI_add _ _).trans (by rfl)) ?_
        refine g_mV (As := [va_rf (tRt L), .int (nI (dep + 1))]) (b := s9) (rest := []) hx hb hml hown hts hN hW (ihl F2 H.size (some a) (dep + 1) S1 (n + 1) ⟨k1, k2, k3, NDs_sub k4 (fun z hz => List.mem_cons_of_mem _ (List.mem_append_left _ hz)), u7⟩ hL2 hn2 (by omega)) gX4_lookAt_X4_lookAt rfl hks (by decide) rfl (na := 2) rfl (by decide +kernel) ⟨by simp only [gRm]; omega, by simp only [gRm]; omega⟩ ⟨Nat.le_of_ble_eq_true rfl, Nat.le_of_ble_eq_true rfl⟩ rfl hl.1 (Nat.le_of_ble_eq_true rfl) dX4_lookAt_93 (fun v K' F3 H locs hp hW hsz' => ?_)
        obtain ⟨rfl, hK9, hL3, hn3, hf3⟩ := hp
        subst K'
        show W _ _ _ _ _ _ _ _ _ _ _ _ _ _ _ (F0 m 96 ls [])
        generalize hst : srchG (fun a => (dt a, dd a)) k d q L (dep + 1) (S1, n + 1) = st at hL3 hn3
        obtain ⟨S2, n2⟩ := st
        have hf4 := hf2.trans hf3
        obtain ⟨m1, m2, m3, m4, m5⟩ := lkP_congr hks hkh hka hkd hkq hf4 hP9
        obtain ⟨w1, w2, w3, w4, w5, w6, w7, w8⟩ := id m5
        obtain ⟨-, -, -, b0, b1, b2, b3, -, -, b6, b7, -⟩ := id hL3
        have hsp : srchG (fun a => (dt a, dd a)) k d q (Std.DTreeMap.Internal.Impl.inner s8 a v8 L R) dep (S, n) = if shut k S2 (sqI gap) then (S2, n2) else srchG (fun a => (dt a, dd a)) k d q R (dep + 1) (S2, n2) := by
          rw [srchG]
          simp only []
          rw [hS1, hgap, if_pos (Int32.not_le.mp c1), hst]
        refine lv_aload_n hx hb dX4_lookAt_96 rfl (lv_at hl 1 rfl) ?_
        refine g_get (C := RX4) (T := TX4) (N := 3) hx hb hts hi4 hown hN hW.1 hks rfl (by decide) 1 (by decide) hfX4_15 (v := .ref h) m2 dX4_lookAt_97 ?_
        refine lv_iload_n hx hb dX4_lookAt_100 rfl (lv_at hl 0 rfl) ?_
        refine lv_i2l (v := gap.toInt64) hx hb dX4_lookAt_101 rfl ?_
        refine g_cS (v := (some (.long (sqI gap)))) (As := [.long gap.toInt64]) (rest := [.ref h]) hx hb hml hown hts hN hW.1 (c_square l Γ K F3 gap.toInt64) gX4_lookAt_X3_square rfl (na := 1) rfl (by decide +kernel) ⟨by simp only [gRm]; omega, by simp only [gRm]; omega⟩ ⟨Nat.zero_le _, Nat.zero_le _⟩ rfl hl.1 (Nat.le_of_ble_eq_true rfl) dX4_lookAt_102 ?_
        show W _ _ _ _ _ _ _ _ _ _ _ _ _ _ _ (F0 m 105 ls [.long (sqI gap), .ref h])
        refine g_cV (v := (some (.int (bI (shut k S2 (sqI gap)))))) (As := [.long (sqI gap)]) (b := h) (rest := []) hx hb hml hown hts hN hW.1 (c_shutsOut l Γ K F3 h ad S2.length k (lastD S2) (sqI gap) hkh hkd b1 b2 b3 (Nat.le_trans b6 b7) b7 hL3.lastd) gX4_lookAt_X1_shutsOut rfl hkh (by decide) rfl (na := 1) rfl (by decide +kernel) ⟨by simp only [gRm]; omega, by simp only [gRm]; omega⟩ ⟨Nat.zero_le _, Nat.zero_le _⟩ rfl hl.1 (Nat.le_of_ble_eq_true rfl) dX4_lookAt_105 ?_
        show W _ _ _ _ _ _ _ _ _ _ _ _ _ _ _ (F0 m 108 ls [.int (bI (shut k S2 (sqI gap)))])
        refine lv_if_ne (tgt := 133) hx hb dX4_lookAt_108 (by decide) (fun c2 => ?_) (fun c2 => ?_)
        · have c2 : (shut k S2 (sqI gap)) = true := bI_n0.mp c2
          rw [hsp, if_pos c2] at hret
          exact hret none _ _ _ _ _ _ hW (⟨rfl, rfl, hL3, hn3, hf4⟩) (rt_v dX4_lookAt_133)
        · have c2 : (shut k S2 (sqI gap)) = false := bI_0.mp c2
          rw [hsp, if_neg (by rw [c2]; decide)] at hret
          refine lv_aload_n hx hb dX4_lookAt_111 rfl (lv_at hl 1 rfl) ?_
          refine lv_iload_n hx hb dX4_lookAt_112 rfl (lv_at hl 0 rfl) ?_
          refine lv_if_ge (tgt := 123) hx hb dX4_lookAt_113 (by decide) (fun c3 => ?_) (fun c3 => ?_)
          · exact absurd c3 c1
          · refine lv_aload_n hx hb dX4_lookAt_116 rfl (lv_at hl 2 rfl) ?_
            refine g_get (C := RX2) (T := TX2) (N := 9) hx hb hts hi2 hown hN hW.1 hka9.1 rfl (by decide) 8 (by decide) hfX4_60 (v := va_rf (tRt R)) w6 dX4_lookAt_117 ?_
            refine lv_goto (tgt := 127) hx hb dX4_lookAt_120 (by decide) ?_
            refine lv_iload_n hx hb dX4_lookAt_127 rfl (lv_at hl 3 rfl) ?_
            refine lv_iconst (v := nI 1) hx hb dX4_lookAt_128 (by decide) ?_
            refine lv_iadd hx hb dX4_lookAt_129 ?_
            refine g_asi (show _ = nI (dep + 1) from (nI_add _ _).trans (by rfl)) ?_
            refine g_mV (As := [va_rf (tRt R), .int (nI (dep + 1))]) (b := s9) (rest := []) hx hb hml hown hts hN hW (ihr F3 H.size (some a) (dep + 1) S2 n2 ⟨m1, m2, m3, NDs_sub m4 (fun z hz => List.mem_cons_of_mem _ (List.mem_append_right _ hz)), w8⟩ hL3 hn3 (by omega)) gX4_lookAt_X4_lookAt rfl hks (by decide) rfl (na := 2) rfl (by decide +kernel) ⟨by simp only [gRm]; omega, by simp only [gRm]; omega⟩ ⟨Nat.le_of_ble_eq_true rfl, Nat.le_of_ble_eq_true rfl⟩ rfl hl.1 (Nat.le_of_ble_eq_true rfl) dX4_lookAt_130 (fun v K' F5 H locs hp hW hsz' => ?_)
            obtain ⟨rfl, hK9, hL5, hn5, hf5⟩ := hp
            subst K'
            show W _ _ _ _ _ _ _ _ _ _ _ _ _ _ _ (F0 m 133 ls [])
            exact hret none _ _ _ _ _ _ hW (⟨rfl, rfl, hL5, hn5, hf4.trans hf5⟩) (rt_v dX4_lookAt_133)
    refine lv_aload_n hx hb dX4_lookAt_0 rfl (lv_at hl 1 rfl) ?_
    refine lv_ifnull hx hb dX4_lookAt_1 ?_
    refine lv_iload_n hx hb dX4_lookAt_4 rfl (lv_at hl 2 rfl) ?_
    refine lv_bipush (v := nI 120) hx hb dX4_lookAt_5 (by decide) ?_
    refine lv_icmp_lt (tgt := 11) hx hb dX4_lookAt_7 (by decide) (fun c0 => ?_) (fun c0 => ?_)
    · have c0 : dep < 120 := (nI_ltI (by omega) (by omega)).mp c0
      refine lv_aload_n hx hb dX4_lookAt_11 rfl (lv_at hl 0 rfl) ?_
      refine lv_dup hx hb dX4_lookAt_12 rfl ?_
      refine g_get (C := RX4) (T := TX4) (N := 3) hx hb hts hi4 hown hN hW.1 hks rfl (by decide) 2 (by decide) hfX4_19 (v := .int (nI n)) hn9 dX4_lookAt_13 ?_
      refine lv_iconst (v := nI 1) hx hb dX4_lookAt_16 (by decide) ?_
      refine lv_iadd hx hb dX4_lookAt_17 ?_
      refine g_asi (show _ = nI (n + 1) from (nI_add _ _).trans (by rfl)) ?_
      refine g_put (C := RX4) (T := TX4) (N := 3) hx hb hts hi4 tyX4 tyX4_ok nmX4 hown hN hW hks rfl (by decide) 2 (by decide) hfX4_19 rfl rfl rfl dX4_lookAt_18 (fun H locs hW => ?_)
      obtain ⟨F1, hF1⟩ : ∃ F1, F1 = (gU F s9 2 (.int (nI (n + 1)))) := ⟨_, rfl⟩
      rw [← hF1] at hW
      have hf1 : frS s9 h ai ad F F1 := fun b j _ _ _ hb => by rw [hF1, gU_ne hb]
      have hn1 : F1 s9 2 = .int (nI (n + 1)) := by rw [hF1, gU_self]
      have hL1 : lsR K F1 h ai ad S k := by
        obtain ⟨b0, b1, b2, b3, b4, b5, b6, b7, b8, b9, b10, b11⟩ := hL
        have na : h ≠ s9 := kne hkh hks (by decide)
        have nb : ai ≠ s9 := kne hka hks (by decide)
        have nc : ad ≠ s9 := kne hkd hks (by decide)
        rw [hF1]
        exact ⟨b0, b1, b2, by rw [gU_a na, b3], by rw [gU_a na, b4], by rw [gU_a na, b5], by rw [gU_a na, b6], b7.up (Or.inl (Ne.symm nb)), b8.up (Or.inl (Ne.symm nc)), b9, b10, b11⟩
      obtain ⟨k1, k2, k3, k4, k5⟩ := lkP_congr hks hkh hka hkd hkq hf1 hP9
      have hka2 := (k4 a List.mem_cons_self).1
      refine lv_aload_n hx hb dX4_lookAt_21 rfl (lv_at hl 1 rfl) ?_
      refine g_get (C := RX2) (T := TX2) (N := 9) hx hb hts hi2 hown hN hW.1 hka9.1 rfl (by decide) 2 (by decide) hfX4_27 (v := .int (bI (dd a))) (k4 a List.mem_cons_self).2 dX4_lookAt_22 ?_
      refine lv_if_ne (tgt := 50) hx hb dX4_lookAt_25 (by decide) (fun c1 => ?_) (fun c1 => ?_)
      · have c1 : (dd a) = true := bI_n0.mp c1
        exact cont F1 H locs ls (by rw [← hS1, if_pos c1]; exact hL1) hn1 hf1 hW (lv_sub hl [0, 1, 2] rfl)
      · have c1 : (dd a) = false := bI_0.mp c1
        refine lv_aload_n hx hb dX4_lookAt_28 rfl (lv_at hl 0 rfl) ?_
        refine g_get (C := RX4) (T := TX4) (N := 3) hx hb hts hi4 hown hN hW.1 hks rfl (by decide) 1 (by decide) hfX4_15 (v := .ref h) k2 dX4_lookAt_29 ?_
        refine lv_aload_n hx hb dX4_lookAt_32 rfl (lv_at hl 1 rfl) ?_
        refine g_get (C := RX2) (T := TX2) (N := 9) hx hb hts hi2 hown hN hW.1 hka9.1 rfl (by decide) 0 (by decide) hfX4_33 (v := .int (nI (dt a).1)) hka2.2.2.1 dX4_lookAt_33 ?_
        refine lv_aload_n hx hb dX4_lookAt_36 rfl (lv_at hl 0 rfl) ?_
        refine g_get (C := RX4) (T := TX4) (N := 3) hx hb hts hi4 hown hN hW.1 hks rfl (by decide) 0 (by decide) hfX4_9 (v := .ref pq) k1 dX4_lookAt_37 ?_
        refine lv_aload_n hx hb dX4_lookAt_40 rfl (lv_at hl 1 rfl) ?_
        refine g_get (C := RX2) (T := TX2) (N := 9) hx hb hts hi2 hown hN hW.1 hka9.1 rfl (by decide) 1 (by decide) hfX4_36 (v := .ref (pl a)) hka2.2.2.2.1 dX4_lookAt_41 ?_
        refine g_cV (v := (some (.long (pDist q (dt a).2)))) (As := [.ref (pl a)]) (b := pq) (rest := [.int (nI (dt a).1), .ref h]) hx hb hml hown hts hN hW.1 (c_distanceTo l Γ K F1 pq (pl a) q (dt a).2 hkq k3 hka2.2.1 hka2.2.2.2.2.1) gX4_lookAt_X3_distanceTo rfl hkq (by decide) rfl (na := 1) rfl (by decide +kernel) ⟨by simp only [gRm]; omega, by simp only [gRm]; omega⟩ ⟨Nat.zero_le _, Nat.zero_le _⟩ rfl hl.1 (Nat.le_of_ble_eq_true rfl) dX4_lookAt_44 ?_
        show W _ _ _ _ _ _ _ _ _ _ _ _ _ _ _ (F0 m 47 ls [.long (pDist q (dt a).2), .int (nI (dt a).1), .ref h])
        refine g_mV (As := [.int (nI (dt a).1), .long (pDist q (dt a).2)]) (b := h) (rest := []) hx hb hml hown hts hN hW (c_offer l Γ K F1 H.size h ai ad ((dt a).1, pDist q (dt a).2) S k hL1 hka2.2.2.2.2.2) gX4_lookAt_X1_offer rfl hkh (by decide) rfl (na := 2) rfl (by decide +kernel) ⟨by simp only [gRm]; omega, by simp only [gRm]; omega⟩ ⟨Nat.le_of_ble_eq_true rfl, Nat.le_of_ble_eq_true rfl⟩ rfl hl.1 (Nat.le_of_ble_eq_true rfl) dX4_lookAt_47 (fun v K' F2 H locs hp hW hsz' => ?_)
        obtain ⟨rfl, hK9, hL2, hfr2⟩ := hp
        subst K'
        show W _ _ _ _ _ _ _ _ _ _ _ _ _ _ _ (F0 m 50 ls [])
        exact cont F2 H locs ls (by rw [← hS1, if_neg (by rw [c1]; decide)]; exact hL2) ((hfr2 s9 2 (kne hks hkh (by decide)) (kne hks hka (by decide)) (kne hks hkd (by decide))).trans hn1) (hf1.trans (fun b j a1 a2 a3 _ => hfr2 b j a1 a2 a3)) hW (lv_sub hl [0, 1, 2] rfl)
    · have c0 : 120 ≤ dep := Nat.not_lt.mp (fun z => c0 ((nI_ltI (by omega) (by omega)).mpr z))
      exact absurd c0 (by omega)

set_option maxHeartbeats 4000000 in
set_option maxRecDepth 100000 in
theorem c_start (l : Launch) (Γ : gG) (K : gK) (F : gF) (sz : Nat) (s9 h ai ad pq : Nat) (q : Nat → Int32) (k d : Nat) (dt : Nat → gPt) (pl : Nat → Nat) (dd : Nat → Bool) (hks : K s9 = some (4, 0)) (hkh : K h = some (1, 0)) (hka : K ai = some (8, 100)) (hkd : K ad = some (9, 100)) (hkq : K pq = some (3, 0)) (hd1 : 0 < d) (hd4 : d ≤ 4) (t : TT Nat) (S : List (Nat × Int64)) (r0 : Option Nat) (hr0 : r0 = tRt t) (hP9 : lkP K F s9 h pq q d dt pl dd t none 0) (hL : lsR K F h ai ad S k) (hs : tSz t ≤ 120) : gMM l yX4_start wsX4_start (tSz t + 4) 0 0 Γ K F sz [.ref s9, va_rf r0] (fun v K' F' => v = none ∧ K' = K ∧ lsR K F' h ai ad (srchG (fun a => (dt a, dd a)) k d q t 0 (S, 0)).1 k ∧ F' s9 2 = .int (nI (srchG (fun a => (dt a, dd a)) k d q t 0 (S, 0)).2) ∧ frS s9 h ai ad F F') := by
  refine g_mM (cc := cX4_start) (maxL := 2) (ret := none) (by decide) rfl (by cases r0 <;> exact Nat.le_of_ble_eq_true rfl) ?_
  intro p e s m args below meth c ls Z hsz hx hb hts hown hml hnm hN hW hret hl
  have hl : lv_has ls 2 [(0, .ref s9), (1, va_rf r0)] := by cases r0 <;> exact hl
  have hown : s.vm.findClass RX4 = some m.cls := hown
  have hi4 : ∀ w ∈ wsX40, w ∈ wsX4_start := by decide +kernel
  have hfX4_19 : Cond.fieldLink RX4 19 (TX4 2).1 (TX4 2).2.1 (TX4 2).2.2.1 ∈ wsX4_start := by decide +kernel
  refine lv_aload_n hx hb dX4_start_0 rfl (lv_at hl 0 rfl) ?_
  refine lv_iconst (v := nI 0) hx hb dX4_start_1 (by decide) ?_
  refine g_put (C := RX4) (T := TX4) (N := 3) hx hb hts hi4 tyX4 tyX4_ok nmX4 hown hN hW hks rfl (by decide) 2 (by decide) hfX4_19 rfl rfl rfl dX4_start_2 (fun H locs hW => ?_)
  obtain ⟨F1, hF1⟩ : ∃ F1, F1 = (gU F s9 2 (.int (nI 0))) := ⟨_, rfl⟩
  rw [← hF1] at hW
  have hf1 : frS s9 h ai ad F F1 := fun b j _ _ _ hb => by rw [hF1, gU_ne hb]
  have hn1 : F1 s9 2 = .int (nI 0) := by rw [hF1, gU_self]
  have hL1 : lsR K F1 h ai ad S k := by
    obtain ⟨b0, b1, b2, b3, b4, b5, b6, b7, b8, b9, b10, b11⟩ := hL
    have na : h ≠ s9 := kne hkh hks (by decide)
    have nb : ai ≠ s9 := kne hka hks (by decide)
    have nc : ad ≠ s9 := kne hkd hks (by decide)
    rw [hF1]
    exact ⟨b0, b1, b2, by rw [gU_a na, b3], by rw [gU_a na, b4], by rw [gU_a na, b5], by rw [gU_a na, b6], b7.up (Or.inl (Ne.symm nb)), b8.up (Or.inl (Ne.symm nc)), b9, b10, b11⟩
  refine lv_aload_n hx hb dX4_start_5 rfl (lv_at hl 0 rfl) ?_
  refine g_aload_n (r := r0) hx hb dX4_start_6 rfl (lv_at hl 1 rfl) ?_
  refine lv_iconst (v := nI 0) hx hb dX4_start_7 (by decide) ?_
  refine g_mV (As := [va_rf r0, .int (nI 0)]) (b := s9) (rest := []) hx hb hml hown hts hN hW (by
      have q9 := c_lookAt l Γ K s9 h ai ad pq q k d dt pl dd hks hkh hka hkd hkq hd1 hd4 t F1 H.size none 0 S 0 (lkP_congr hks hkh hka hkd hkq hf1 hP9) hL1 hn1 (by omega)
      rw [← hr0] at q9
      exact q9) gX4_start_X4_lookAt rfl hks (by decide) rfl (na := 2) rfl (by decide +kernel) ⟨by simp only [gRm]; omega, by simp only [gRm]; omega⟩ ⟨Nat.le_of_ble_eq_true rfl, Nat.le_of_ble_eq_true rfl⟩ rfl hl.1 (Nat.le_of_ble_eq_true rfl) dX4_start_8 (fun v K' F2 H locs hp hW hsz' => ?_)
  obtain ⟨rfl, hK9, hL2, hn2, hf2⟩ := hp
  subst K'
  show W _ _ _ _ _ _ _ _ _ _ _ _ _ _ _ (F0 m 11 ls [])
  exact hret none _ _ _ _ _ _ hW (⟨rfl, rfl, hL2, hn2, hf1.trans hf2⟩) (rt_v dX4_start_11)
end
