/-! contracts, with the end as a hypothesis (for loops) -/
def Rets (cc : ByteArray) (ret : Option FieldType) (v : Option Value) (pc : Nat) : Prop :=
  (v = none ∧ ret = none ∧ decode cc pc = .ok (.return_, 1)) ∨ (∃ x : Int32, v = some (.int x) ∧ ret = some .int ∧ decode cc pc = .ok (.ireturn, 1)) ∨ (∃ x : Int32, v = some (.int x) ∧ ret = some .boolean ∧ narrow .boolean (.int x) = .int x ∧ decode cc pc = .ok (.ireturn, 1)) ∨
  (∃ x : Int64, v = some (.long x) ∧ ret = some .long ∧ decode cc pc = .ok (.lreturn, 1)) ∨ (∃ (r : Option Nat) (n : String), v = some (va_rf r) ∧ ret = some (.object n) ∧ decode cc pc = .ok (.areturn, 1))
theorem rt_v {cc : ByteArray} {pc : Nat} (h : decode cc pc = .ok (.return_, 1)) : Rets cc none none pc := Or.inl ⟨rfl, rfl, h⟩
theorem rt_i {cc : ByteArray} {pc : Nat} {x : Int32} (h : decode cc pc = .ok (.ireturn, 1)) : Rets cc (some .int) (some (.int x)) pc := Or.inr (Or.inl ⟨x, rfl, rfl, h⟩)
theorem rt_z {cc : ByteArray} {pc : Nat} {b : Bool} (h : decode cc pc = .ok (.ireturn, 1)) : Rets cc (some .boolean) (some (.int (bI b))) pc := Or.inr (Or.inr (Or.inl ⟨_, rfl, rfl, bI_nar b, h⟩))
theorem rt_l {cc : ByteArray} {pc : Nat} {x : Int64} (h : decode cc pc = .ok (.lreturn, 1)) : Rets cc (some .long) (some (.long x)) pc := Or.inr (Or.inr (Or.inr (Or.inl ⟨x, rfl, rfl, h⟩)))
theorem rt_a {cc : ByteArray} {pc : Nat} {r : Option Nat} {n : String} (h : decode cc pc = .ok (.areturn, 1)) : Rets cc (some (.object n)) (some (va_rf r)) pc := Or.inr (Or.inr (Or.inr (Or.inr ⟨r, n, rfl, rfl, h⟩)))
theorem g_end {p : Program} {l : Launch} {e : Env} {R : Room} {s : State} {m : MethodId} {args : Array Value} {below : List Frame} {meth : Method} {c : Code} {H : Heap} {locs : List Loc} {cells slots : Nat} {cc : ByteArray} {pc : Nat} {ls : Array Slot} {ret : Option FieldType} {v : Option Value} {Qc : Array Value → State → Outcome → State → Prop} {free : Addr → Prop}
    (hexec : p.tables.exec = Jvm.exec) (hb : c.code = cc) (hr : meth.sig.returnType = ret) (hlocks : meth.locks = false) (hq : ∀ t : State, t.heap = H → s.WarmedH t.vm → Qc args s (.returned v) t) (hf : ∀ q ∈ locs, free q.base) (h : Rets cc ret v pc) : W p l e R s m args below meth c H locs cells slots (MQ below Qc args s cells slots free) (F0 m pc ls v.toList) := by
  rcases h with ⟨rfl, rfl, hd⟩ | ⟨x, rfl, rfl, hd⟩ | ⟨x, rfl, rfl, hn, hd⟩ | ⟨x, rfl, rfl, hd⟩ | ⟨r, n, rfl, rfl, hd⟩
  · exact W.vret hexec hb hr hq hf hd hlocks
  · exact W.iret hexec hb hr hq hf hd hlocks
  · exact W.zret hexec hb hr hn hq hf hd hlocks
  · exact W.lret hexec hb hr hq hf hd hlocks
  · exact W.aret hexec hb hr (Or.inl ⟨n, rfl⟩) (va_rf_or r) hq hf hd hlocks
theorem g_mR {l : Launch} {y : MethodName} {ws ws' : List Cond} {n : Nat} {cc : ByteArray} {maxL : Nat} {ret : Option FieldType} {Γ : gG} {K : gK} {F : gF} {av : List Value} {v : Option Value}
    (hy : plainName y.cls = true) (hw : ws = Cond.code y cc maxL ret :: ws') (ha : (lg_sl av).length ≤ maxL)
    (body : ∀ (p : Program) (e : Env) (s : State) (m : MethodId) (args : Array Value) (below : List Frame) (meth : Method) (c : Code) (ls : Array Slot) (Z : State → Prop), p.tables.exec = Jvm.exec → c.code = cc → (∀ w ∈ ws, w.before args s = true) → s.vm.findClass y.cls = some m.cls → c.maxLocals = maxL → gN Γ s → gP Γ K F s.heap →
      (∀ (v' : Option Value) (pc : Nat) (ls : Array Slot), v' = v → Rets cc ret v' pc → W p l e (gRm n 0 0) s m args below meth c s.heap [] 0 0 Z (F0 m pc ls v'.toList)) → lv_has ls maxL (lv_args 0 av) →
      W p l e (gRm n 0 0) s m args below meth c s.heap [] 0 0 Z (F0 m 0 ls [])) : gMR l y ws n Γ K F av v := by
  refine g_metR hy hw ha ?_
  intro p e s m below meth c ls hx hb hr hts hown hlocks hml hN hP hl
  refine body p e s m _ below meth c ls _ hx hb hts hown hml hN hP (fun v' pc ls hv hR => ?_) hl
  exact g_end hx hb hr hlocks (fun t ht _ => ⟨by rw [hv], ht⟩) (fun q h => by cases h) hR
theorem g_mM {l : Launch} {y : MethodName} {ws ws' : List Cond} {n mc ms : Nat} {cc : ByteArray} {maxL : Nat} {ret : Option FieldType} {Γ : gG} {K : gK} {F : gF} {sz : Nat} {av : List Value} {post : Option Value → gK → gF → Prop}
    (hy : plainName y.cls = true) (hw : ws = Cond.code y cc maxL ret :: ws') (ha : (lg_sl av).length ≤ maxL)
    (body : ∀ (p : Program) (e : Env) (s : State) (m : MethodId) (args : Array Value) (below : List Frame) (meth : Method) (c : Code) (ls : Array Slot) (Z : State → Prop), s.heap.size = sz → p.tables.exec = Jvm.exec → c.code = cc → (∀ w ∈ ws, w.before args s = true) → s.vm.findClass y.cls = some m.cls → c.maxLocals = maxL → meth.name = y.name → gN Γ s → gW Γ (gA K sz) s.heap K F s.heap [] →
      (∀ (v' : Option Value) (K' : gK) (F' : gF) (H : Heap) (locs : List Loc) (pc : Nat) (ls : Array Slot), gW Γ (gA K sz) s.heap K' F' H locs → post v' K' F' → Rets cc ret v' pc → W p l e (gRm n mc ms) s m args below meth c H locs mc ms Z (F0 m pc ls v'.toList)) → lv_has ls maxL (lv_args 0 av) →
      W p l e (gRm n mc ms) s m args below meth c s.heap [] 0 0 Z (F0 m 0 ls [])) : gMM l y ws n mc ms Γ K F sz av post := by
  refine g_metM hy hw ha ?_
  intro p e s m below meth c ls hsz hx hb hr hts hown hlocks hml hnm hN hW hl
  refine body p e s m _ below meth c ls _ hsz hx hb hts hown hml hnm hN hW (fun v' K' F' H locs pc ls hW' hp hR => ?_) hl
  exact g_end hx hb hr hlocks (fun t ht _ => ⟨_, K', F', rfl, hp, by rw [ht]; exact hW'.1, hW'.2.2.1, hW'.2.1.F ht⟩) hW'.2.1.2.2 hR
theorem kne {K : gK} {a b : Nat} {k1 k2 : Nat × Nat} (h1 : K a = some k1) (h2 : K b = some k2) (h : k1 ≠ k2) : a ≠ b := fun e => h (Option.some.inj (h1.symm.trans (by rw [e]; exact h2)))
