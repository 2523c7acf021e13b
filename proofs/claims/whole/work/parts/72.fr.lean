/-! calls in a part of the world: the rest stays -/
def kMg (K K1 K' : gK) : gK := fun a => match K' a with
  | some k => some k
  | none => match K1 a with
    | none => K a
    | some _ => none
def fMg (F F' : gF) (K' : gK) : gF := fun a => match K' a with
  | some _ => F' a
  | none => F a
theorem kMg_new {K K1 K' : gK} {a : Nat} {k : Nat × Nat} (h : K' a = some k) : kMg K K1 K' a = some k := by unfold kMg; rw [h]
theorem kMg_old {K K1 K' : gK} {a : Nat} (h : K' a = none) (h1 : K1 a = none) : kMg K K1 K' a = K a := by unfold kMg; rw [h, h1]
theorem fMg_new {F F' : gF} {K' : gK} {a i : Nat} {k : Nat × Nat} (h : K' a = some k) : fMg F F' K' a i = F' a i := by unfold fMg; rw [h]
theorem fMg_old {F F' : gF} {K' : gK} {a i : Nat} (h : K' a = none) : fMg F F' K' a i = F a i := by unfold fMg; rw [h]
theorem kMg_cases {K K1 K' : gK} {a : Nat} {k : Nat × Nat} (h : kMg K K1 K' a = some k) : K' a = some k ∨ (K' a = none ∧ K1 a = none ∧ K a = some k) := by
  unfold kMg at h
  cases h1 : K' a with
  | some k1 => rw [h1] at h; exact Or.inl h
  | none =>
    rw [h1] at h
    cases h2 : K1 a with
    | some k2 => rw [h2] at h; cases h
    | none => rw [h2] at h; exact Or.inr ⟨rfl, rfl, h⟩
theorem kMg_P {Γ : gG} {K K1 K' : gK} {F F' : gF} {H H1 : Heap} (hP : gP Γ K F H) (hP' : gP Γ K' F' H1) (hk : ∀ q : Nat, q < H.size → ¬ gA K1 H.size q → H1[q]? = H[q]?) : gP Γ (kMg K K1 K') (fMg F F' K') H1 := by
  intro a k h
  rcases kMg_cases h with h1 | ⟨h1, h2, h3⟩
  · rw [show fMg F F' K' a = F' a from funext (fun i => fMg_new h1)]; exact hP' a k h1
  · rw [show fMg F F' K' a = F a from funext (fun i => fMg_old h1)]
    have hl := (hP a k h3).lt
    exact (hP a k h3).kept (hk a hl (fun z => z.elim (fun ⟨q, hq⟩ => by rw [h2] at hq; cases hq) (fun z => by omega)))
theorem gW.sub {Γ : gG} {A : Nat → Prop} {H0 H : Heap} {K K' : gK} {F : gF} {locs : List Loc} (hW : gW Γ A H0 K F H locs) (h : ∀ a k, K' a = some k → K a = some k) : gW Γ A H0 K' F H locs := ⟨fun a k hk => hW.1 a k (h a k hk), hW.2.1, fun a k hk => hW.2.2.1 a k (h a k hk), hW.2.2.2⟩
section GFr
variable {p : Program} {l : Launch} {e : Env} {R : Room} {s : State} {m : MethodId} {args : Array Value} {below : List Frame} {meth : Method} {c : Code} {H : Heap} {locs : List Loc} {cells slots : Nat} {Q : State → Prop}
variable {cc : ByteArray} {pc : Nat} {ls : Array Slot} {rest st0 As : List Value} {Γ : gG} {A : Nat → Prop} {b : Nat} {K K1 : gK} {F : gF} {H0 : Heap}
theorem g_callMF {post : Option Value → gK → gF → Prop} {av : Array Value} {mc ms : Nat} (hr : va_Run p l e R s m args below meth c H locs cells slots mc ms (F0 m pc ls st0) rest (gQ Γ (gA K1 H.size) post av) (gA K1 H.size)) (hW : gW Γ A H0 K F H locs) (hsub : ∀ a k, K1 a = some k → K a = some k)
    (kk : ∀ (v : Option Value) (K' : gK) (F' : gF) (H1 : Heap) (locs1 : List Loc), post v K' F' → (∀ (a : Nat) (k : Nat × Nat), K' a = some k → gA K1 H.size a) → gW Γ A H0 (kMg K K1 K') (fMg F F' K') H1 locs1 → H.size ≤ H1.size → W p l e R s m args below meth c H1 locs1 (cells + mc) (slots + ms) Q (F0 m (pc + 3) ls (v.toList ++ rest))) : W p l e R s m args below meth c H locs cells slots Q (F0 m pc ls st0) := by
  intro T hT X
  obtain ⟨v', st₀, t, T', L, h0, X', hL, e1, e2, ⟨v, K', F', hv, hp, hP', hA', hz, hk⟩, st⟩ := hr T hT X
  cases hv
  have hAA : ∀ q, gA K1 H.size q → A q := fun q h => h.elim (fun ⟨k, hk⟩ => hW.2.2.1 q k (hsub q k hk)) (fun h => hW.2.2.2 q (Nat.le_trans hW.2.1.1 h))
  rw [h0] at hz hk
  obtain ⟨t2, a1, b1⟩ := kk v' K' F' T'.heap (locs ++ L) hp hA' ⟨kMg_P hW.1 (by rw [e1]; exact hP') (fun q h1 h2 => by rw [e1]; exact hk q h1 h2), ⟨Nat.le_trans hW.2.1.1 (by rw [e1]; exact hz), fun q h1 h2 => by rw [e1, hk q (Nat.lt_of_lt_of_le h1 hW.2.1.1) (fun z => h2 (hAA q z))]; exact hW.2.1.2.1 q h1 h2, fun q hq => by
      rcases List.mem_append.mp hq with h | h
      · exact hW.2.1.2.2 q h
      · exact hAA _ (hL q h)⟩, fun a k hk' => by
      rcases kMg_cases hk' with h1 | h1
      · exact hAA a (hA' a k h1)
      · exact hW.2.2.1 a k h1.2.2, hW.2.2.2⟩ (by rw [e1]; exact hz) T' rfl X'
  exact ⟨t2, st t2 a1, b1⟩
theorem g_callX {post : Option Value → gK → gF → Prop} {px : String → Prop} {av : Array Value} {mc ms : Nat} (hr : vx_Run p l e R s m args below meth c H locs cells slots mc ms (F0 m pc ls st0) rest (gQ Γ (gA K1 H.size) post av) (gX Γ K1 F (gA K1 H.size) px) (gA K1 H.size)) (hW : gW Γ A H0 K F H locs) (hsub : ∀ a k, K1 a = some k → K a = some k)
    (kx : ∀ (E : String) (ce : Cell) (q9 : Addr) (H1 : Heap) (locs1 : List Loc), px E → gW Γ A H0 K F H1 locs1 → H.size ≤ H1.size → H1[q9]? = some ce → ce.vm = .none → s.vm.findClass E = some ce.cls → vx_W p l e R s m args below meth c H1 locs1 (cells + mc) (slots + ms) Q (F0 m pc ls rest) q9)
    (kk : ∀ (v : Option Value) (K' : gK) (F' : gF) (H1 : Heap) (locs1 : List Loc), post v K' F' → (∀ (a : Nat) (k : Nat × Nat), K' a = some k → gA K1 H.size a) → gW Γ A H0 (kMg K K1 K') (fMg F F' K') H1 locs1 → H.size ≤ H1.size → W p l e R s m args below meth c H1 locs1 (cells + mc) (slots + ms) Q (F0 m (pc + 3) ls (v.toList ++ rest))) : W p l e R s m args below meth c H locs cells slots Q (F0 m pc ls st0) := by
  have hAA : ∀ q, gA K1 H.size q → A q := fun q h => h.elim (fun ⟨k, hk⟩ => hW.2.2.1 q k (hsub q k hk)) (fun h => hW.2.2.2 q (Nat.le_trans hW.2.1.1 h))
  intro T hT X
  rcases hr T hT X with ⟨v', st₀, t, T', L, h0, X', hL, e1, e2, ⟨v, K', F', hv, hp, hP', hA', hz, hk⟩, st⟩ | ⟨q, st₀, t, T', L, E, ce, h0, X', hL, e1, e2, ⟨hp, hP', hz, hk⟩, hce, hcv, hcl, st⟩
  · cases hv
    rw [h0] at hz hk
    obtain ⟨t2, a1, b1⟩ := kk v' K' F' T'.heap (locs ++ L) hp hA' ⟨kMg_P hW.1 (by rw [e1]; exact hP') (fun q h1 h2 => by rw [e1]; exact hk q h1 h2), ⟨Nat.le_trans hW.2.1.1 (by rw [e1]; exact hz), fun q h1 h2 => by rw [e1, hk q (Nat.lt_of_lt_of_le h1 hW.2.1.1) (fun z => h2 (hAA q z))]; exact hW.2.1.2.1 q h1 h2, fun q hq => by
        rcases List.mem_append.mp hq with h | h
        · exact hW.2.1.2.2 q h
        · exact hAA _ (hL q h)⟩, fun a k hk' => by
        rcases kMg_cases hk' with h1 | h1
        · exact hAA a (hA' a k h1)
        · exact hW.2.2.1 a k h1.2.2, hW.2.2.2⟩ (by rw [e1]; exact hz) T' rfl X'
    exact ⟨t2, st t2 a1, b1⟩
  · rw [h0] at hz hk
    obtain ⟨t2, a1, b1⟩ := kx E ce q T'.heap (locs ++ L) hp ⟨fun a k ha => by
        cases h1 : K1 a with
        | some k1 =>
          have := hsub a k1 h1
          rw [ha] at this
          cases this
          rw [e1]; exact hP' a k h1
        | none =>
          have hl := (hW.1 a k ha).lt
          exact (hW.1 a k ha).kept (by rw [e1]; exact hk a hl (fun z => z.elim (fun ⟨q2, hq2⟩ => by rw [h1] at hq2; cases hq2) (fun z => by omega))), ⟨Nat.le_trans hW.2.1.1 (by rw [e1]; exact hz), fun q h1 h2 => by rw [e1, hk q (Nat.lt_of_lt_of_le h1 hW.2.1.1) (fun z => h2 (hAA q z))]; exact hW.2.1.2.1 q h1 h2, fun q hq => by
        rcases List.mem_append.mp hq with h | h
        · exact hW.2.1.2.2 q h
        · exact hAA _ (hL q h)⟩, hW.2.2.1, hW.2.2.2⟩ (by rw [e1]; exact hz) (by rw [e1]; exact hce) hcv hcl T' rfl X'
    exact ⟨t2, st.trans a1, b1⟩
theorem g_xV {own C : String} {T : u_T} {N ci index nL maxL n na mc ms : Nat} {y : MethodName} {bytes : ByteArray} {ret : Option FieldType} {Ts ws ws' : List Cond} {post : Option Value → gK → gF → Prop} {px : String → Prop}
    (hx : p.tables.exec = Jvm.exec) (hb : c.code = cc) (hml : c.maxLocals = nL) (hown : s.vm.findClass own = some m.cls) (hts : ∀ w ∈ Ts, w.before args s = true) (hN : gN Γ s) (hW : gW Γ A H0 K F H locs) (hsub : ∀ a k, K1 a = some k → K a = some k) (hTH : gTH (gA K1 H.size) s H)
    (hM : gMX l y ws n mc ms Γ K1 F H.size (.ref b :: As) post px) (hG : GoodIn Ts (wsV own index C y ws)) (hw : ws = Cond.code y bytes maxL ret :: ws') (hk : K1 b = some (ci, 0)) (h8 : ci < 8) (hc : vwCl[ci]? = some (C, T, N)) (hn : As.length = na)
    (hd : y.cls = C ∧ y.cls ≠ "java/lang/invoke/MethodHandle" ∧ y.cls ≠ "java/lang/invoke/VarHandle" ∧ (parseMethodDescriptor y.desc).map (fun d => d.parameters.length) = some na) (hR : n + 1 ≤ R.frames ∧ 8 + (maxL + 11) + 40 * n ≤ R.locals) (hcs : cells + mc ≤ R.cells ∧ slots + ms ≤ R.slots)
    (hst : st0 = As.reverse ++ .ref b :: rest) (hsz : ls.size = nL) (hrm : (rest.map fun v => v.category).sum ≤ 8) (hdg : decode cc pc = .ok (.invokevirtual index, 3))
    (kx : ∀ (E : String) (ce : Cell) (q9 : Addr) (H1 : Heap) (locs1 : List Loc), px E → gW Γ A H0 K F H1 locs1 → H.size ≤ H1.size → H1[q9]? = some ce → ce.vm = .none → s.vm.findClass E = some ce.cls → vx_W p l e R s m args below meth c H1 locs1 (cells + mc) (slots + ms) Q (F0 m pc ls rest) q9)
    (kk : ∀ (v : Option Value) (K' : gK) (F' : gF) (H1 : Heap) (locs1 : List Loc), post v K' F' → (∀ (a : Nat) (k : Nat × Nat), K' a = some k → gA K1 H.size a) → gW Γ A H0 (kMg K K1 K') (fMg F F' K') H1 locs1 → H.size ≤ H1.size → W p l e R s m args below meth c H1 locs1 (cells + mc) (slots + ms) Q (F0 m (pc + 3) ls (v.toList ++ rest))) : W p l e R s m args below meth c H locs cells slots Q (F0 m pc ls st0) :=
  g_callX (vx_runV ⟨hx, hb, hml, hown, hts⟩ hM (cwV na hts hG hw rfl rfl hd hR) ⟨gPreX_blind, g_recv hN (hW.sub hsub).1 hk h8 hc, fun U hU hW' => ⟨rfl, by rw [hU], by rw [hU]; exact (hW.sub hsub).1, va_K.moved hW'.alike hN, gTH.warm hW' (by rw [hU]; exact hTH)⟩⟩ rfl hn hsz hst (lv_room hrm) hdg hcs) hW hsub kx kk
theorem g_mVF {own C : String} {T : u_T} {N ci index nL maxL n na mc ms : Nat} {y : MethodName} {bytes : ByteArray} {ret : Option FieldType} {Ts ws ws' : List Cond} {post : Option Value → gK → gF → Prop}
    (hx : p.tables.exec = Jvm.exec) (hb : c.code = cc) (hml : c.maxLocals = nL) (hown : s.vm.findClass own = some m.cls) (hts : ∀ w ∈ Ts, w.before args s = true) (hN : gN Γ s) (hW : gW Γ A H0 K F H locs) (hsub : ∀ a k, K1 a = some k → K a = some k)
    (hM : gMM l y ws n mc ms Γ K1 F H.size (.ref b :: As) post) (hG : GoodIn Ts (wsV own index C y ws)) (hw : ws = Cond.code y bytes maxL ret :: ws') (hk : K1 b = some (ci, 0)) (h8 : ci < 8) (hc : vwCl[ci]? = some (C, T, N)) (hn : As.length = na)
    (hd : y.cls = C ∧ y.cls ≠ "java/lang/invoke/MethodHandle" ∧ y.cls ≠ "java/lang/invoke/VarHandle" ∧ (parseMethodDescriptor y.desc).map (fun d => d.parameters.length) = some na) (hR : n + 1 ≤ R.frames ∧ 8 + (maxL + 11) + 40 * n ≤ R.locals) (hcs : cells + mc ≤ R.cells ∧ slots + ms ≤ R.slots)
    (hst : st0 = As.reverse ++ .ref b :: rest) (hsz : ls.size = nL) (hrm : (rest.map fun v => v.category).sum ≤ 8) (hdg : decode cc pc = .ok (.invokevirtual index, 3))
    (kk : ∀ (v : Option Value) (K' : gK) (F' : gF) (H1 : Heap) (locs1 : List Loc), post v K' F' → (∀ (a : Nat) (k : Nat × Nat), K' a = some k → gA K1 H.size a) → gW Γ A H0 (kMg K K1 K') (fMg F F' K') H1 locs1 → H.size ≤ H1.size → W p l e R s m args below meth c H1 locs1 (cells + mc) (slots + ms) Q (F0 m (pc + 3) ls (v.toList ++ rest))) : W p l e R s m args below meth c H locs cells slots Q (F0 m pc ls st0) :=
  g_callMF (va_runV ⟨hx, hb, hml, hown, hts⟩ hM (cwV na hts hG hw rfl rfl hd hR) ⟨gPreM_blind, g_recv hN (hW.sub hsub).1 hk h8 hc, fun U hU hW' => ⟨rfl, by rw [hU], by rw [hU]; exact (hW.sub hsub).1, va_K.moved hW'.alike hN⟩⟩ rfl hn hsz hst (lv_room hrm) hdg hcs) hW hsub kk
theorem g_mIF {own : String} {index nL maxL n na mc ms : Nat} {y : MethodName} {bytes : ByteArray} {Ts ws ws' : List Cond} {post : Option Value → gK → gF → Prop}
    (hx : p.tables.exec = Jvm.exec) (hb : c.code = cc) (hml : c.maxLocals = nL) (hown : s.vm.findClass own = some m.cls) (hts : ∀ w ∈ Ts, w.before args s = true) (hN : gN Γ s) (hW : gW Γ A H0 K F H locs) (hsub : ∀ a k, K1 a = some k → K a = some k)
    (hM : gMM l y ws n mc ms Γ K1 F H.size (.ref b :: As) post) (hG : GoodIn Ts ws) (hw : ws = Cond.code y bytes maxL none :: ws') (hini : Cond.initialized y.cls ∈ Ts) (hl : Cond.methodLink own index y ∈ Ts) (hin : Cond.instanceMethod y ∈ Ts) (hy1 : y.name = "<init>") (hn : As.length = na)
    (hd : y.cls ≠ "java/lang/invoke/MethodHandle" ∧ y.cls ≠ "java/lang/invoke/VarHandle" ∧ (parseMethodDescriptor y.desc).map (fun d => d.parameters.length) = some na) (hR : n + 1 ≤ R.frames ∧ 8 + (maxL + 11) + 40 * n ≤ R.locals) (hcs : cells + mc ≤ R.cells ∧ slots + ms ≤ R.slots)
    (hst : st0 = As.reverse ++ .ref b :: rest) (hsz : ls.size = nL) (hrm : (rest.map fun v => v.category).sum ≤ 8) (hdg : decode cc pc = .ok (.invokespecial index, 3))
    (kk : ∀ (v : Option Value) (K' : gK) (F' : gF) (H1 : Heap) (locs1 : List Loc), post v K' F' → (∀ (a : Nat) (k : Nat × Nat), K' a = some k → gA K1 H.size a) → gW Γ A H0 (kMg K K1 K') (fMg F F' K') H1 locs1 → H.size ≤ H1.size → W p l e R s m args below meth c H1 locs1 (cells + mc) (slots + ms) Q (F0 m (pc + 3) ls (v.toList ++ rest))) : W p l e R s m args below meth c H locs cells slots Q (F0 m pc ls st0) :=
  g_callMF (va_runI ⟨hx, hb, hml, hown, hts⟩ hM (cwI na hts hG hw rfl rfl (hts _ hini) (hts _ hl) (hts _ hin) hy1 hd hR) ⟨gPreM_blind, fun U hU hW' => ⟨rfl, by rw [hU], by rw [hU]; exact (hW.sub hsub).1, va_K.moved hW'.alike hN⟩⟩ rfl hn hsz hst (lv_room hrm) hdg hcs) hW hsub kk
end GFr
/-- the law's own methods: they catch what the class throws -/
def gPreL (Γ : gG) (K : gK) (F : gF) (sz : Nat) (av : List Value) : Array Value → State → Prop := va_Pc av (fun U => U.heap.size = sz ∧ gP Γ K F U.heap ∧ gN Γ U ∧ gTH (gA K sz) U U.heap ∧ va_Nc nISE nIAE U)
abbrev gML (l : Launch) (y : MethodName) (ws : List Cond) (n mc ms : Nat) (Γ : gG) (K : gK) (F : gF) (sz : Nat) (av : List Value) (post : Option Value → gK → gF → Prop) : Prop := vx_Met l y ws (gRm n mc ms) (gPreL Γ K F sz av) (gQ Γ (gA K sz) post) (gX Γ K F (gA K sz) (fun _ => False)) mc ms (gA K sz)
theorem gPreL_blind {Γ : gG} {K : gK} {F : gF} {sz : Nat} {av : List Value} : FrameBlind (gPreL Γ K F sz av) := fun a U g mk q => by
  obtain ⟨q0, q1, qP, qK, qT, qN⟩ := q
  exact ⟨q0, q1, qP, va_K.moved (u := U) (U := U.calling g mk a) (Vm.Alike.refl U.vm) qK, gTH.same (s := U) (U := U.calling g mk a) rfl qT, va_Nc.moved (u := U) (U := U.calling g mk a) (Vm.Alike.refl U.vm) qN⟩
theorem g_mL {l : Launch} {y : MethodName} {ws ws' : List Cond} {n mc ms : Nat} {cc : ByteArray} {maxL : Nat} {ret : Option FieldType} {hh : List (Nat × Nat × Nat × Nat)} {Γ : gG} {K : gK} {F : gF} {sz : Nat} {av : List Value} {post : Option Value → gK → gF → Prop}
    (hy : plainName y.cls = true) (hw : ws = Cond.codeWith y cc maxL ret hh :: ws') (ha : (lg_sl av).length ≤ maxL)
    (body : ∀ (p : Program) (e : Env) (s : State) (m : MethodId) (args : Array Value) (below : List Frame) (meth : Method) (c : Code) (ls : Array Slot) (Z : State → Prop), s.heap.size = sz → p.tables.exec = Jvm.exec → c.code = cc → (∀ w ∈ ws, w.before args s = true) → s.vm.findClass y.cls = some m.cls → c.maxLocals = maxL → c.exceptionTable.toList = tableOf hh → gN Γ s → gTH (gA K sz) s s.heap → va_Nc nISE nIAE s → gW Γ (gA K sz) s.heap K F s.heap [] →
      (∀ (v' : Option Value) (K' : gK) (F' : gF) (H : Heap) (locs : List Loc) (cells slots pc : Nat) (ls : Array Slot), cells ≤ mc → slots ≤ ms → gW Γ (gA K sz) s.heap K' F' H locs → post v' K' F' → Rets cc ret v' pc → W p l e (gRm n mc ms) s m args below meth c H locs cells slots Z (F0 m pc ls v'.toList)) → lv_has ls maxL (lv_args 0 av) →
      W p l e (gRm n mc ms) s m args below meth c s.heap [] 0 0 Z (F0 m 0 ls [])) : gML l y ws n mc ms Γ K F sz av post := by
  refine vx_ofWH (cc := cc) (maxL := maxL) (ret := ret) (hh := hh) hy hw ?_
  intro p e s m args below meth c s₁ B hml hv
  obtain ⟨rfl, rfl, hP, hN, hT, hNc⟩ := hv
  have hl := lv_entry av (n := maxL) ha
  have hts := atoms_spec (ws := ws) B.pre
  rw [lg_entry_eq]
  refine body p e s m _ below meth c _ _ rfl B.exec B.bytes hts (findClass_of_methodNamed B.named) hml (vx_table (x := y) B (hts _ (by rw [hw]; exact List.mem_cons_self))) hN hT hNc (gW.start hP) (fun v' K' F' H locs cells slots pc ls hc hs hW' hp hR => ?_) hl
  refine W.widen hc hs ?_
  exact vx_ret (g_end B.exec B.bytes B.returns B.notSynchronized (fun t ht _ => ⟨_, K', F', rfl, hp, by rw [ht]; exact hW'.1, hW'.2.2.1, hW'.2.1.F ht⟩) hW'.2.1.2.2 hR)
section GLaw
variable {p : Program} {l : Launch} {e : Env} {R : Room} {s : State} {m : MethodId} {args : Array Value} {below : List Frame} {meth : Method} {c : Code} {H : Heap} {locs : List Loc} {cells slots : Nat} {Q : State → Prop}
variable {cc : ByteArray} {pc : Nat} {ls : Array Slot} {rest st0 As : List Value} {Γ : gG} {A : Nat → Prop} {b : Nat} {K K1 : gK} {F : gF} {H0 : Heap}
theorem g_lS {own : String} {index nL maxL n na mc ms : Nat} {y : MethodName} {bytes : ByteArray} {ret : Option FieldType} {hh : List (Nat × Nat × Nat × Nat)} {Ts ws ws' : List Cond} {post : Option Value → gK → gF → Prop}
    (hx : p.tables.exec = Jvm.exec) (hb : c.code = cc) (hml : c.maxLocals = nL) (hown : s.vm.findClass own = some m.cls) (hts : ∀ w ∈ Ts, w.before args s = true) (hN : gN Γ s) (hW : gW Γ A H0 K F H locs) (hsub : ∀ a k, K1 a = some k → K a = some k) (hTH : gTH (gA K1 H.size) s H) (hNc : va_Nc nISE nIAE s)
    (hM : gML l y ws n mc ms Γ K1 F H.size As post) (hG : GoodIn Ts (va_wsS own index y ws)) (hw : ws = Cond.codeWith y bytes maxL ret hh :: ws') (hn : As.length = na)
    (hd : y.cls ≠ "java/lang/invoke/MethodHandle" ∧ y.cls ≠ "java/lang/invoke/VarHandle" ∧ (parseMethodDescriptor y.desc).map (fun d => d.parameters.length) = some na) (hR : n + 1 ≤ R.frames ∧ 8 + (maxL + 11) + 40 * n ≤ R.locals) (hcs : cells + mc ≤ R.cells ∧ slots + ms ≤ R.slots)
    (hst : st0 = As.reverse ++ rest) (hsz : ls.size = nL) (hrm : (rest.map fun v => v.category).sum ≤ 8) (hdg : decode cc pc = .ok (.invokestatic index, 3))
    (kk : ∀ (v : Option Value) (K' : gK) (F' : gF) (H1 : Heap) (locs1 : List Loc), post v K' F' → (∀ (a : Nat) (k : Nat × Nat), K' a = some k → gA K1 H.size a) → gW Γ A H0 (kMg K K1 K') (fMg F F' K') H1 locs1 → H.size ≤ H1.size → W p l e R s m args below meth c H1 locs1 (cells + mc) (slots + ms) Q (F0 m (pc + 3) ls (v.toList ++ rest))) : W p l e R s m args below meth c H locs cells slots Q (F0 m pc ls st0) :=
  g_callX (px := fun _ => False) (vx_runSX (hh := hh) ⟨hx, hb, hml, hown, hts⟩ hM (vx_cwSW na hts hG hw rfl rfl hd hR) ⟨gPreL_blind, fun U hU hW' => ⟨rfl, by rw [hU], by rw [hU]; exact (hW.sub hsub).1, va_K.moved hW'.alike hN, gTH.warm hW' (by rw [hU]; exact hTH), va_Nc.moved hW'.alike hNc⟩⟩ rfl hn hsz hst (lv_room hrm) hdg hcs) hW hsub (fun _ _ _ _ _ h => h.elim) kk
end GLaw
