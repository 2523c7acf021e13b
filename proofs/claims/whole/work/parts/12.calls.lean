/-! calls in the world -/
section GCall
variable {p : Program} {l : Launch} {e : Env} {R : Room} {s : State} {m : MethodId} {args : Array Value} {below : List Frame} {meth : Method} {c : Code} {H : Heap} {locs : List Loc} {cells slots : Nat} {Q : State → Prop}
variable {cc : ByteArray} {pc : Nat} {ls : Array Slot} {rest st0 As : List Value} {Γ : gG} {A : Nat → Prop} {b : Nat} {K : gK} {F : gF} {H0 : Heap}
theorem g_callP {v : Option Value} {av : Array Value} (hr : va_Run p l e R s m args below meth c H locs cells slots 0 0 (F0 m pc ls st0) rest (gR v av) (fun _ => False)) (kk : W p l e R s m args below meth c H locs cells slots Q (F0 m (pc + 3) ls (v.toList ++ rest))) : W p l e R s m args below meth c H locs cells slots Q (F0 m pc ls st0) := by
  intro T hT X
  obtain ⟨v', st₀, t, T', L, h0, X', hL, e1, e2, ⟨hv, hh⟩, st⟩ := hr T hT X
  cases hv
  obtain ⟨t2, a1, b1⟩ := kk T' (by rw [e1, hh, h0]) (Stand.forget X' (fun q h => (hL q h).elim))
  exact ⟨t2, st t2 a1, b1⟩
theorem g_callM {post : Option Value → gK → gF → Prop} {av : Array Value} {mc ms : Nat} (hr : va_Run p l e R s m args below meth c H locs cells slots mc ms (F0 m pc ls st0) rest (gQ Γ (gA K H.size) post av) (gA K H.size)) (hW : gW Γ A H0 K F H locs)
    (kk : ∀ (v : Option Value) (K' : gK) (F' : gF) (H1 : Heap) (locs1 : List Loc), post v K' F' → gW Γ A H0 K' F' H1 locs1 → H.size ≤ H1.size → W p l e R s m args below meth c H1 locs1 (cells + mc) (slots + ms) Q (F0 m (pc + 3) ls (v.toList ++ rest))) : W p l e R s m args below meth c H locs cells slots Q (F0 m pc ls st0) := by
  intro T hT X
  obtain ⟨v', st₀, t, T', L, h0, X', hL, e1, e2, ⟨v, K', F', hv, hp, hP', hA', hz, hk⟩, st⟩ := hr T hT X
  cases hv
  have hAA : ∀ q, gA K H.size q → A q := fun q h => h.elim (fun ⟨k, hk⟩ => hW.2.2.1 q k hk) (fun h => hW.2.2.2 q (Nat.le_trans hW.2.1.1 h))
  rw [h0] at hz hk
  obtain ⟨t2, a1, b1⟩ := kk v' K' F' T'.heap (locs ++ L) hp ⟨by rw [e1]; exact hP', ⟨Nat.le_trans hW.2.1.1 (by rw [e1]; exact hz), fun q h1 h2 => by rw [e1, hk q (Nat.lt_of_lt_of_le h1 hW.2.1.1) (fun z => h2 (hAA q z))]; exact hW.2.1.2.1 q h1 h2, fun q hq => by
      rcases List.mem_append.mp hq with h | h
      · exact hW.2.1.2.2 q h
      · exact hAA _ (hL q h)⟩, fun a k hk' => hAA a (hA' a k hk'), hW.2.2.2⟩ (by rw [e1]; exact hz) T' rfl X'
  exact ⟨t2, st t2 a1, b1⟩
theorem g_recv {ci N : Nat} {C : String} {T : u_T} (hN : gN Γ s) (hP : gP Γ K F H) (hk : K b = some (ci, 0)) (h8 : ci < 8) (hc : vwCl[ci]? = some (C, T, N)) : ∃ cell : Cell, H[b]? = some cell ∧ cell.vm.isStatics = false ∧ s.vm.findClass C = some cell.cls := by
  obtain ⟨r, h1, cell, g1, g2, g3, -⟩ := (hP b _ hk).1 h8
  exact ⟨cell, g1, by rw [g3]; rfl, by rw [g2]; exact (hN.1 ci _ hc).2.1⟩
theorem g_cV {own C : String} {T : u_T} {N ci index nL maxL n na : Nat} {y : MethodName} {bytes : ByteArray} {ret : Option FieldType} {Ts ws ws' : List Cond} {v : Option Value}
    (hx : p.tables.exec = Jvm.exec) (hb : c.code = cc) (hml : c.maxLocals = nL) (hown : s.vm.findClass own = some m.cls) (hts : ∀ w ∈ Ts, w.before args s = true) (hN : gN Γ s) (hP : gP Γ K F H)
    (hM : gMR l y ws n Γ K F (.ref b :: As) v) (hG : GoodIn Ts (wsV own index C y ws)) (hw : ws = Cond.code y bytes maxL ret :: ws') (hk : K b = some (ci, 0)) (h8 : ci < 8) (hc : vwCl[ci]? = some (C, T, N)) (hn : As.length = na)
    (hd : y.cls = C ∧ y.cls ≠ "java/lang/invoke/MethodHandle" ∧ y.cls ≠ "java/lang/invoke/VarHandle" ∧ (parseMethodDescriptor y.desc).map (fun d => d.parameters.length) = some na) (hR : n + 1 ≤ R.frames ∧ 8 + (maxL + 11) + 40 * n ≤ R.locals) (hcs : cells ≤ R.cells ∧ slots ≤ R.slots)
    (hst : st0 = As.reverse ++ .ref b :: rest) (hsz : ls.size = nL) (hrm : (rest.map fun v => v.category).sum ≤ 8) (hdg : decode cc pc = .ok (.invokevirtual index, 3))
    (kk : W p l e R s m args below meth c H locs cells slots Q (F0 m (pc + 3) ls (v.toList ++ rest))) : W p l e R s m args below meth c H locs cells slots Q (F0 m pc ls st0) :=
  g_callP (va_runV ⟨hx, hb, hml, hown, hts⟩ hM (cwV na hts hG hw rfl rfl hd hR) ⟨gPre_blind, g_recv hN hP hk h8 hc, fun U hU hW => ⟨rfl, by rw [hU]; exact hP, va_K.moved hW.alike hN⟩⟩ rfl hn hsz hst (lv_room hrm) hdg hcs) kk
theorem g_cS {own : String} {index nL maxL n na : Nat} {y : MethodName} {bytes : ByteArray} {ret : Option FieldType} {Ts ws ws' : List Cond} {v : Option Value}
    (hx : p.tables.exec = Jvm.exec) (hb : c.code = cc) (hml : c.maxLocals = nL) (hown : s.vm.findClass own = some m.cls) (hts : ∀ w ∈ Ts, w.before args s = true) (hN : gN Γ s) (hP : gP Γ K F H)
    (hM : gMR l y ws n Γ K F As v) (hG : GoodIn Ts (va_wsS own index y ws)) (hw : ws = Cond.code y bytes maxL ret :: ws') (hn : As.length = na)
    (hd : y.cls ≠ "java/lang/invoke/MethodHandle" ∧ y.cls ≠ "java/lang/invoke/VarHandle" ∧ (parseMethodDescriptor y.desc).map (fun d => d.parameters.length) = some na) (hR : n + 1 ≤ R.frames ∧ 8 + (maxL + 11) + 40 * n ≤ R.locals) (hcs : cells ≤ R.cells ∧ slots ≤ R.slots)
    (hst : st0 = As.reverse ++ rest) (hsz : ls.size = nL) (hrm : (rest.map fun v => v.category).sum ≤ 8) (hdg : decode cc pc = .ok (.invokestatic index, 3))
    (kk : W p l e R s m args below meth c H locs cells slots Q (F0 m (pc + 3) ls (v.toList ++ rest))) : W p l e R s m args below meth c H locs cells slots Q (F0 m pc ls st0) :=
  g_callP (va_runS ⟨hx, hb, hml, hown, hts⟩ hM (va_cwS na hts hG hw rfl rfl hd hR) ⟨gPre_blind, fun U hU hW => ⟨rfl, by rw [hU]; exact hP, va_K.moved hW.alike hN⟩⟩ rfl hn hsz hst (lv_room hrm) hdg hcs) kk
theorem g_mV {own C : String} {T : u_T} {N ci index nL maxL n na mc ms : Nat} {y : MethodName} {bytes : ByteArray} {ret : Option FieldType} {Ts ws ws' : List Cond} {post : Option Value → gK → gF → Prop}
    (hx : p.tables.exec = Jvm.exec) (hb : c.code = cc) (hml : c.maxLocals = nL) (hown : s.vm.findClass own = some m.cls) (hts : ∀ w ∈ Ts, w.before args s = true) (hN : gN Γ s) (hW : gW Γ A H0 K F H locs)
    (hM : gMM l y ws n mc ms Γ K F H.size (.ref b :: As) post) (hG : GoodIn Ts (wsV own index C y ws)) (hw : ws = Cond.code y bytes maxL ret :: ws') (hk : K b = some (ci, 0)) (h8 : ci < 8) (hc : vwCl[ci]? = some (C, T, N)) (hn : As.length = na)
    (hd : y.cls = C ∧ y.cls ≠ "java/lang/invoke/MethodHandle" ∧ y.cls ≠ "java/lang/invoke/VarHandle" ∧ (parseMethodDescriptor y.desc).map (fun d => d.parameters.length) = some na) (hR : n + 1 ≤ R.frames ∧ 8 + (maxL + 11) + 40 * n ≤ R.locals) (hcs : cells + mc ≤ R.cells ∧ slots + ms ≤ R.slots)
    (hst : st0 = As.reverse ++ .ref b :: rest) (hsz : ls.size = nL) (hrm : (rest.map fun v => v.category).sum ≤ 8) (hdg : decode cc pc = .ok (.invokevirtual index, 3))
    (kk : ∀ (v : Option Value) (K' : gK) (F' : gF) (H1 : Heap) (locs1 : List Loc), post v K' F' → gW Γ A H0 K' F' H1 locs1 → H.size ≤ H1.size → W p l e R s m args below meth c H1 locs1 (cells + mc) (slots + ms) Q (F0 m (pc + 3) ls (v.toList ++ rest))) : W p l e R s m args below meth c H locs cells slots Q (F0 m pc ls st0) :=
  g_callM (va_runV ⟨hx, hb, hml, hown, hts⟩ hM (cwV na hts hG hw rfl rfl hd hR) ⟨gPreM_blind, g_recv hN hW.1 hk h8 hc, fun U hU hW' => ⟨rfl, by rw [hU], by rw [hU]; exact hW.1, va_K.moved hW'.alike hN⟩⟩ rfl hn hsz hst (lv_room hrm) hdg hcs) hW kk
theorem g_mS {own : String} {index nL maxL n na mc ms : Nat} {y : MethodName} {bytes : ByteArray} {ret : Option FieldType} {Ts ws ws' : List Cond} {post : Option Value → gK → gF → Prop}
    (hx : p.tables.exec = Jvm.exec) (hb : c.code = cc) (hml : c.maxLocals = nL) (hown : s.vm.findClass own = some m.cls) (hts : ∀ w ∈ Ts, w.before args s = true) (hN : gN Γ s) (hW : gW Γ A H0 K F H locs)
    (hM : gMM l y ws n mc ms Γ K F H.size As post) (hG : GoodIn Ts (va_wsS own index y ws)) (hw : ws = Cond.code y bytes maxL ret :: ws') (hn : As.length = na)
    (hd : y.cls ≠ "java/lang/invoke/MethodHandle" ∧ y.cls ≠ "java/lang/invoke/VarHandle" ∧ (parseMethodDescriptor y.desc).map (fun d => d.parameters.length) = some na) (hR : n + 1 ≤ R.frames ∧ 8 + (maxL + 11) + 40 * n ≤ R.locals) (hcs : cells + mc ≤ R.cells ∧ slots + ms ≤ R.slots)
    (hst : st0 = As.reverse ++ rest) (hsz : ls.size = nL) (hrm : (rest.map fun v => v.category).sum ≤ 8) (hdg : decode cc pc = .ok (.invokestatic index, 3))
    (kk : ∀ (v : Option Value) (K' : gK) (F' : gF) (H1 : Heap) (locs1 : List Loc), post v K' F' → gW Γ A H0 K' F' H1 locs1 → H.size ≤ H1.size → W p l e R s m args below meth c H1 locs1 (cells + mc) (slots + ms) Q (F0 m (pc + 3) ls (v.toList ++ rest))) : W p l e R s m args below meth c H locs cells slots Q (F0 m pc ls st0) :=
  g_callM (va_runS ⟨hx, hb, hml, hown, hts⟩ hM (va_cwS na hts hG hw rfl rfl hd hR) ⟨gPreM_blind, fun U hU hW' => ⟨rfl, by rw [hU], by rw [hU]; exact hW.1, va_K.moved hW'.alike hN⟩⟩ rfl hn hsz hst (lv_room hrm) hdg hcs) hW kk
theorem g_mI {own : String} {index nL maxL n na mc ms : Nat} {y : MethodName} {bytes : ByteArray} {Ts ws ws' : List Cond} {post : Option Value → gK → gF → Prop}
    (hx : p.tables.exec = Jvm.exec) (hb : c.code = cc) (hml : c.maxLocals = nL) (hown : s.vm.findClass own = some m.cls) (hts : ∀ w ∈ Ts, w.before args s = true) (hN : gN Γ s) (hW : gW Γ A H0 K F H locs)
    (hM : gMM l y ws n mc ms Γ K F H.size (.ref b :: As) post) (hG : GoodIn Ts ws) (hw : ws = Cond.code y bytes maxL none :: ws') (hini : Cond.initialized y.cls ∈ Ts) (hl : Cond.methodLink own index y ∈ Ts) (hin : Cond.instanceMethod y ∈ Ts) (hy1 : y.name = "<init>") (hn : As.length = na)
    (hd : y.cls ≠ "java/lang/invoke/MethodHandle" ∧ y.cls ≠ "java/lang/invoke/VarHandle" ∧ (parseMethodDescriptor y.desc).map (fun d => d.parameters.length) = some na) (hR : n + 1 ≤ R.frames ∧ 8 + (maxL + 11) + 40 * n ≤ R.locals) (hcs : cells + mc ≤ R.cells ∧ slots + ms ≤ R.slots)
    (hst : st0 = As.reverse ++ .ref b :: rest) (hsz : ls.size = nL) (hrm : (rest.map fun v => v.category).sum ≤ 8) (hdg : decode cc pc = .ok (.invokespecial index, 3))
    (kk : ∀ (v : Option Value) (K' : gK) (F' : gF) (H1 : Heap) (locs1 : List Loc), post v K' F' → gW Γ A H0 K' F' H1 locs1 → H.size ≤ H1.size → W p l e R s m args below meth c H1 locs1 (cells + mc) (slots + ms) Q (F0 m (pc + 3) ls (v.toList ++ rest))) : W p l e R s m args below meth c H locs cells slots Q (F0 m pc ls st0) :=
  g_callM (va_runI ⟨hx, hb, hml, hown, hts⟩ hM (cwI na hts hG hw rfl rfl (hts _ hini) (hts _ hl) (hts _ hin) hy1 hd hR) ⟨gPreM_blind, fun U hU hW' => ⟨rfl, by rw [hU], by rw [hU]; exact hW.1, va_K.moved hW'.alike hN⟩⟩ rfl hn hsz hst (lv_room hrm) hdg hcs) hW kk
end GCall
