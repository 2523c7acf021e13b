/-! methods that may throw, before they have written anything -/
abbrev nIAE : String := "java/lang/IllegalArgumentException"
abbrev nISE : String := "java/lang/IllegalStateException"
abbrev nIOB : String := "java/lang/IndexOutOfBoundsException"
abbrev xNm : List String := ["java/lang/RuntimeException", "java/lang/Exception"]
def gXW : List Cond := [.castable nIAE nIAE, .castable nISE nISE, .castable nIOB nIOB, .declares (Bundle.initS "java/lang/RuntimeException"), .declares (Bundle.initS "java/lang/Exception"), .declares (Bundle.initS Bundle.tN)]
def gStr : List (Nat × String) := [(61, "put: the id or a number that counts is out of range"), (71, "put: the id is live, or no more points can be"), (96, "drop: the id is out of range"), (98, "drop: the id is not live"), (118, "at: the id or the axis is out of range"), (120, "at: the id is not live"), (130, "nearest: k or a number that counts is out of range"), (152, "within: most or a number that counts is out of range"), (170, "listed: no such place in the list"), (177, "distance: no such place in the list"), (186, "inBox: an axis does not count"), (192, "pair: what is out of range"), (194, "pair: fewer than two points are live"), (210, "parts: most is below 0"), (223, "node: the id or what is out of range"), (225, "node: the id is not live"), (241, "walk: no such node"), (249, "count: what is out of range")]
def xOK (cls : String) (ik ic : Nat) : Prop := Bundle.fit cls = true ∧ (∀ w ∈ (vx_atS RX6 ic cls xNm).filter (fun w => !goodWord w), w ∈ gXW) ∧ ∀ w ∈ Cond.classLink RX6 ik cls :: Cond.initialized cls :: vx_atS RX6 ic cls xNm, vx_ot w = true
theorem x_IAE : xOK nIAE 59 63 := ⟨by decide +kernel, by decide +kernel, by decide +kernel⟩
theorem x_ISE : xOK nISE 69 73 := ⟨by decide +kernel, by decide +kernel, by decide +kernel⟩
theorem x_IOB : xOK nIOB 168 172 := ⟨by decide +kernel, by decide +kernel, by decide +kernel⟩
def gTH (A : Nat → Prop) (U : State) (H : Heap) : Prop := vx_Zq Bundle.tN "UNASSIGNED_STACK" Bundle.steD A U H ∧ vx_Zq Bundle.tN "SUPPRESSED_SENTINEL" Bundle.listD A U H ∧ (∀ w ∈ gXW, va_Nw w U) ∧ ∀ q ∈ gStr, ∃ sa, vk_R RX6 q.1 q.2 sa U
theorem gXW_warm {s U : State} (hW : s.WarmedH U.vm) (h : ∀ w ∈ gXW, va_Nw w s) : ∀ w ∈ gXW, va_Nw w U := by
  intro w hw
  have hs := h w hw
  simp only [gXW, List.mem_cons, List.not_mem_nil, or_false] at hw
  rcases hw with rfl | rfl | rfl | rfl | rfl | rfl
  · exact va_Nw.warmC hW hs
  · exact va_Nw.warmC hW hs
  · exact va_Nw.warmC hW hs
  · exact va_Nw.warmD hW hs
  · exact va_Nw.warmD hW hs
  · exact va_Nw.warmD hW hs
theorem gTH.warm {A : Nat → Prop} {s U : State} {H : Heap} (hW : s.WarmedH U.vm) (h : gTH A s H) : gTH A U H := ⟨vx_Zq.moved hW.alike h.1, vx_Zq.moved hW.alike h.2.1, gXW_warm hW h.2.2.1, fun q hq => by
  obtain ⟨sa, hsa⟩ := h.2.2.2 q hq
  exact ⟨sa, vk_R.warm hW hsa⟩⟩
theorem gTH.same {A : Nat → Prop} {s U : State} {H : Heap} (hv : s.vm = U.vm) (h : gTH A s H) : gTH A U H := gTH.warm (by rw [← hv]; exact State.WarmedH.refl s) h
theorem gTH.kept {A : Nat → Prop} {s : State} {H H1 : Heap} (hq : ∀ a : Nat, a < H.size → ¬ A a → H1[a]? = H[a]?) (h : gTH A s H) : gTH A s H1 := ⟨h.1.kept hq, h.2.1.kept hq, h.2.2⟩
theorem gTH.narrow {A B : Nat → Prop} {s : State} {H : Heap} (hAB : ∀ q, B q → A q) (h : gTH A s H) : gTH B s H := ⟨h.1.narrow hAB, h.2.1.narrow hAB, h.2.2⟩
def gPreX (Γ : gG) (K : gK) (F : gF) (sz : Nat) (av : List Value) : Array Value → State → Prop := va_Pc av (fun U => U.heap.size = sz ∧ gP Γ K F U.heap ∧ gN Γ U ∧ gTH (gA K sz) U U.heap)
def gX (Γ : gG) (K : gK) (F : gF) (A : Nat → Prop) (px : String → Prop) : String → State → State → Prop := fun E st t => px E ∧ gP Γ K F t.heap ∧ va_F A st t
abbrev gMX (l : Launch) (y : MethodName) (ws : List Cond) (n mc ms : Nat) (Γ : gG) (K : gK) (F : gF) (sz : Nat) (av : List Value) (post : Option Value → gK → gF → Prop) (px : String → Prop) : Prop := vx_Met l y ws (gRm n mc ms) (gPreX Γ K F sz av) (gQ Γ (gA K sz) post) (gX Γ K F (gA K sz) px) mc ms (gA K sz)
theorem gPreX_blind {Γ : gG} {K : gK} {F : gF} {sz : Nat} {av : List Value} : FrameBlind (gPreX Γ K F sz av) := fun a U g mk q => by
  obtain ⟨q0, q1, qP, qK, qT⟩ := q
  exact ⟨q0, q1, qP, va_K.moved (u := U) (U := U.calling g mk a) (Vm.Alike.refl U.vm) qK, gTH.same (s := U) (U := U.calling g mk a) rfl qT⟩
def gThr (p : Program) (l : Launch) (e : Env) (n mc ms maxL : Nat) (s : State) (m : MethodId) (args : Array Value) (below : List Frame) (meth : Method) (c : Code) (cc : ByteArray) (ws : List Cond) (Γ : gG) (K : gK) (F : gF) (sz : Nat) (px : String → Prop) (Z : State → Prop) : Prop :=
  ∀ (cls text : String) (ik is ic pc : Nat) (H : Heap) (locs : List Loc) (ls : Array Slot), px cls → xOK cls ik ic → (is, text) ∈ gStr → Cond.classLink RX6 ik cls ∈ ws → Cond.initialized cls ∈ ws → (∀ w ∈ (vx_atS RX6 ic cls xNm).filter goodWord, w ∈ ws) →
    decode cc pc = .ok (.new ik, 3) → decode cc (pc + 3) = .ok (.dup, 1) → decode cc (pc + 4) = .ok (.ldc is, 2) → decode cc (pc + 6) = .ok (.invokespecial ic, 3) → decode cc (pc + 9) = .ok (.athrow, 1) →
    6 ≤ n → 1 ≤ mc → 6 ≤ ms → gW Γ (gA K sz) s.heap K F H locs → ls.size = maxL → W p l e (gRm n mc ms) s m args below meth c H locs 0 0 Z (F0 m pc ls [])
theorem g_mX {l : Launch} {y : MethodName} {ws ws' : List Cond} {n mc ms : Nat} {cc : ByteArray} {maxL : Nat} {ret : Option FieldType} {Γ : gG} {K : gK} {F : gF} {sz : Nat} {av : List Value} {post : Option Value → gK → gF → Prop} {px : String → Prop}
    (hfl : l.stackTraces = false) (hyc : y.cls = RX6) (hy : plainName y.cls = true) (hw : ws = Cond.code y cc maxL ret :: ws') (ha : (lg_sl av).length ≤ maxL)
    (body : ∀ (p : Program) (e : Env) (s : State) (m : MethodId) (args : Array Value) (below : List Frame) (meth : Method) (c : Code) (ls : Array Slot) (Z : State → Prop), s.heap.size = sz → p.tables.exec = Jvm.exec → c.code = cc → (∀ w ∈ ws, w.before args s = true) → s.vm.findClass RX6 = some m.cls → c.maxLocals = maxL → gN Γ s → gW Γ (gA K sz) s.heap K F s.heap [] →
      (∀ (v' : Option Value) (K' : gK) (F' : gF) (H : Heap) (locs : List Loc) (cells slots pc : Nat) (ls : Array Slot), cells ≤ mc → slots ≤ ms → gW Γ (gA K sz) s.heap K' F' H locs → post v' K' F' → Rets cc ret v' pc → W p l e (gRm n mc ms) s m args below meth c H locs cells slots Z (F0 m pc ls v'.toList)) →
      gThr p l e n mc ms maxL s m args below meth c cc ws Γ K F sz px Z → lv_has ls maxL (lv_args 0 av) →
      W p l e (gRm n mc ms) s m args below meth c s.heap [] 0 0 Z (F0 m 0 ls [])) : gMX l y ws n mc ms Γ K F sz av post px := by
  refine vx_ofW (cc := cc) (maxL := maxL) (ret := ret) hy hw ?_
  intro p e s m args below meth c s₁ B hml htab hv
  obtain ⟨rfl, rfl, hP, hN, hT⟩ := hv
  have hl := lv_entry av (n := maxL) ha
  have hts := atoms_spec (ws := ws) B.pre
  have hown : s.vm.findClass RX6 = some m.cls := hyc ▸ findClass_of_methodNamed B.named
  rw [lg_entry_eq]
  refine body p e s m _ below meth c _ _ rfl B.exec B.bytes hts hown hml hN (gW.start hP) (fun v' K' F' H locs cells slots pc ls hc hs hW' hp hR => ?_) ?_ hl
  · refine W.widen hc hs ?_
    exact vx_ret (g_end B.exec B.bytes B.returns B.notSynchronized (fun t ht _ => ⟨_, K', F', rfl, hp, by rw [ht]; exact hW'.1, hW'.2.2.1, hW'.2.1.F ht⟩) hW'.2.1.2.2 hR)
  · intro cls text ik is ic pc H locs ls hpx hok hst hk hini hat d0 d3 d4 d6 d9 hn1 hmc hms hW hsz
    obtain ⟨sa, hsa⟩ := hT.2.2.2 _ hst
    refine vx_throwS (names := xNm) (A := gA K s.heap.size) B.exec B.bytes hfl hown hok.1 (by decide +kernel) (hts _ hk) (hts _ hini) hsa ?_ hok.2.2 hT.1 hT.2.1 hW.2.1 (hsz.trans hml.symm) d0 d3 d4 d6 d9 (fun x hx => (htab x hx).elim) (show 2 + 3 < n by omega) (show 0 + (13 * (2 + 1) + 43) ≤ 40 * n by omega) (by simp only [headSpec, gRm]; omega) (by simp only [headSpec, gRm]; omega) B.notSynchronized ?_ hW.2.1.2.2 (by omega) (by omega)
    · exact vx_hat (B := gXW) (fun w hw' => hts w (hat w hw')) hok.2.1 (fun w hw' => va_Nw.use (by
        simp only [gXW, List.mem_cons, List.not_mem_nil, or_false] at hw'
        rcases hw' with rfl | rfl | rfl | rfl | rfl | rfl <;> rfl) (hT.2.2.1 w hw'))
    · intro t _ hz hq
      refine ⟨hpx, hW.1.kept (fun a k ha => hq a (hW.1 a k ha).lt), Nat.le_trans hW.2.1.1 hz, fun q h1 h2 => ?_⟩
      rw [hq q (Nat.lt_of_lt_of_le h1 hW.2.1.1)]
      exact hW.2.1.2.1 q h1 h2
