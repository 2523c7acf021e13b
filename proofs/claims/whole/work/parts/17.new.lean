/-! new cells; constructors that make rows of Nodes -/
section GNew
variable {p : Program} {l : Launch} {e : Env} {R : Room} {s : State} {m : MethodId} {args : Array Value} {below : List Frame} {meth : Method} {c : Code} {H : Heap} {locs : List Loc} {cells slots : Nat} {Q : State → Prop}
variable {cc : ByteArray} {pc : Nat} {ls : Array Slot} {rest st0 As : List Value} {Γ : gG} {A : Nat → Prop} {b : Nat} {K : gK} {F : gF} {H0 : Heap}
theorem gW.push {H1 : Heap} {k : Nat × Nat} {V : Nat → Value} (hW : gW Γ A H0 K F H locs) (he : gAt Γ k V H.size H1) (z1 : H1.size = H.size + 1) (o1 : ∀ q : Nat, q < H.size → H1[q]? = H[q]?) : gW Γ A H0 (va_up K H.size (some k)) (va_up F H.size V) H1 locs := by
  refine ⟨hW.1.push he o1, ⟨Nat.le_trans hW.2.1.1 (by omega), fun x h1 h2 => (o1 x (Nat.lt_of_lt_of_le h1 hW.2.1.1)).trans (hW.2.1.2.1 x h1 h2), hW.2.1.2.2⟩, fun a k' hk => ?_, hW.2.2.2⟩
  by_cases q : a = H.size
  · rw [q]; exact hW.2.2.2 _ hW.2.1.1
  · rw [va_up_ne _ _ q] at hk; exact hW.2.2.1 a k' hk
theorem g_new (hexec : p.tables.exec = Jvm.exec) (hb : c.code = cc) {own C : String} {T : u_T} {N ci index : Nat} {Ts : List Cond} (hts : ∀ w ∈ Ts, w.before args s = true) (hin : ∀ w ∈ u_ws C T N, w ∈ Ts) (ty : Nat → FieldType) (hty : ∀ k, k < N → parseFieldDescriptor (T k).2.2.1 = some (ty k)) (hown : s.vm.findClass own = some m.cls) (hcl : Cond.classLink own index C ∈ Ts) (hinst : Cond.instantiable C N ∈ Ts) (hini : Cond.initialized C ∈ Ts)
    (hN : gN Γ s) (hW : gW Γ A H0 K F H locs) (hc : vwCl[ci]? = some (C, T, N)) (h8 : ci < 8) (hcells : cells + 1 ≤ R.cells) (hslots : slots + N ≤ R.slots) (hdg : decode cc pc = .ok (.new index, 3))
    (kk : ∀ (q : Nat) (H1 : Heap), q = H.size → K q = none → gW Γ A H0 (va_up K q (some (ci, 0))) (va_up F q (fun j => defaultValue (ty j))) H1 locs → W p l e R s m args below meth c H1 locs (cells + 1) (slots + N) Q (F0 m (pc + 3) ls (.ref q :: rest))) : W p l e R s m args below meth c H locs cells slots Q (F0 m pc ls rest) := by
  have hKn := hN.1 ci _ hc
  refine W.newcK hexec hb hown (hts _ hcl) (hts _ hinst) (hts _ hini) rfl hdg hcells hslots hKn.2.1 rfl fun H1 kC hkC e1 z1 o1 => ?_
  exact kk H.size H1 rfl (hW.1.fresh (Nat.le_refl _)) (hW.push ⟨fun _ => ⟨_, hc, u_born ty hts hin hKn hkC e1 hty⟩, fun h9 => absurd h8 (Nat.not_lt.mpr h9)⟩ z1 o1)
theorem g_newa {t : Nat} (hexec : p.tables.exec = Jvm.exec) (hb : c.code = cc) {atype : ArrayType} {Ts : List Cond} (hts : ∀ w ∈ Ts, w.before args s = true) (harr : Cond.arrayClass (newarray.typeOf atype) ∈ Ts) {ty : FieldType} (hty : newarray.typeOf atype = ty) (hN : gN Γ s) (hW : gW Γ A H0 K F H locs) (ht : (gTy Γ)[t]? = some (Γ.2 t, ty)) (hra : va_RA s (Γ.2 t) ty → s.vm.findClass ("[" ++ ty.toString) = some (Γ.2 t))
    {n : Int32} {N : Nat} (hn : n = nI N) (hN2 : N < 2 ^ 20) (hbytes : N * componentBytes ty ≤ 536870912) (hcells : cells + 1 ≤ R.cells) (hslots : slots + N ≤ R.slots) (hdg : decode cc pc = .ok (.newarray atype, 2))
    (kk : ∀ (q : Nat) (H1 : Heap), q = H.size → K q = none → gW Γ A H0 (va_up K q (some (8 + t, N))) (va_up F q (fun _ => defaultValue ty)) H1 locs → W p l e R s m args below meth c H1 locs (cells + 1) (slots + N) Q (F0 m (pc + 2) ls (.ref q :: rest))) : W p l e R s m args below meth c H locs cells slots Q (F0 m pc ls (.int n :: rest)) := by
  subst hty
  subst hn
  refine va_newaK hexec hb (hts _ harr) rfl hdg rfl (nI_pos (by omega)) (nI_clamp (by omega)) hbytes hcells hslots rfl fun H1 cA e1 z1 o1 hAr hNm => ?_
  have hcA : cA = Γ.2 t := Option.some.inj (hNm.symm.trans (hra (hN.2 t _ ht).2))
  subst hcA
  refine kk H.size H1 rfl (hW.1.fresh (Nat.le_refl _)) (hW.push ⟨fun h => absurd h (by simp), fun _ => ?_⟩ z1 o1)
  rw [show (8 + t, N).1 - 8 = t by simp]
  exact e1
theorem g_newq (hexec : p.tables.exec = Jvm.exec) (hb : c.code = cc) {own : String} {index : Nat} {Ts : List Cond} (hts : ∀ w ∈ Ts, w.before args s = true) (hown : s.vm.findClass own = some m.cls) (hclink : Cond.classLink own index "NearTree$Node" ∈ Ts) (hover : va_AO "NearTree$Node" s) (hN : gN Γ s) (hW : gW Γ A H0 K F H locs)
    {n : Int32} {N : Nat} (hn : n = nI N) (hN2 : N < 2 ^ 20) (hcells : cells + 1 ≤ R.cells) (hslots : slots + N ≤ R.slots) (hdg : decode cc pc = .ok (.anewarray index, 3))
    (kk : ∀ (q : Nat) (H1 : Heap), q = H.size → K q = none → gW Γ A H0 (va_up K q (some (11, N))) (va_up F q (fun _ => .null)) H1 locs → W p l e R s m args below meth c H1 locs (cells + 1) (slots + N) Q (F0 m (pc + 3) ls (.ref q :: rest))) : W p l e R s m args below meth c H locs cells slots Q (F0 m pc ls (.int n :: rest)) := by
  subst hn
  have hcl : (nI N).toNatClampNeg = N := nI_clamp (by omega)
  refine W.anew hexec hb hown (hts _ hclink) (va_AO.use hover) rfl hdg rfl (nI_pos (by omega)) (by rw [hcl]; omega) hcells (by rw [hcl]; exact hslots) fun cA kA comp f1 f2 f3 f4 => ?_
  rw [hcl]
  obtain ⟨kA', comp', -, -, -, r4⟩ := (hN.2 3 _ rfl).2
  have hcA : cA = Γ.2 3 := Option.some.inj (f1.symm.trans r4)
  subst hcA
  generalize hH1 : H.push ({ cls := Γ.2 3, slots := Array.replicate N .null, vm := .none } : Cell) = H1
  have z1 : H1.size = H.size + 1 := by rw [← hH1, Array.size_push]
  have e1 : H1[H.size]? = some (arrV (Γ.2 3) N (fun _ => .null)) := by rw [← hH1, Array.getElem?_push_size, ← arrV_new]
  have o1 : ∀ q : Nat, q < H.size → H1[q]? = H[q]? := fun q hq => by rw [← hH1, Array.getElem?_push, if_neg (Nat.ne_of_lt hq)]
  exact kk H.size H1 rfl (hW.1.fresh (Nat.le_refl _)) (hW.push ⟨fun h => absurd h (by simp), fun _ => e1⟩ z1 o1)
end GNew
def gPreC (Γ : gG) (K : gK) (F : gF) (sz : Nat) (av : List Value) : Array Value → State → Prop := va_Pc av (fun U => U.heap.size = sz ∧ gP Γ K F U.heap ∧ gN Γ U ∧ va_AO "NearTree$Node" U)
abbrev gMC (l : Launch) (y : MethodName) (ws : List Cond) (n mc ms : Nat) (Γ : gG) (K : gK) (F : gF) (sz : Nat) (av : List Value) (post : Option Value → gK → gF → Prop) : Prop := Met l y ws (gRm n mc ms) (gPreC Γ K F sz av) (gQ Γ (gA K sz) post) mc ms (gA K sz)
theorem gPreC_blind {Γ : gG} {K : gK} {F : gF} {sz : Nat} {av : List Value} : FrameBlind (gPreC Γ K F sz av) := fun a U g mk q => by
  obtain ⟨q0, q1, qP, qK, qA⟩ := q
  exact ⟨q0, q1, qP, va_K.moved (u := U) (U := U.calling g mk a) (Vm.Alike.refl U.vm) qK, va_AO.moved (u := U) (U := U.calling g mk a) (Vm.Alike.refl U.vm) qA⟩
theorem g_mC {l : Launch} {y : MethodName} {ws ws' : List Cond} {n mc ms : Nat} {cc : ByteArray} {maxL : Nat} {ret : Option FieldType} {Γ : gG} {K : gK} {F : gF} {sz : Nat} {av : List Value} {post : Option Value → gK → gF → Prop}
    (hy : plainName y.cls = true) (hw : ws = Cond.code y cc maxL ret :: ws') (ha : (lg_sl av).length ≤ maxL)
    (body : ∀ (p : Program) (e : Env) (s : State) (m : MethodId) (args : Array Value) (below : List Frame) (meth : Method) (c : Code) (ls : Array Slot) (Z : State → Prop), s.heap.size = sz → p.tables.exec = Jvm.exec → c.code = cc → (∀ w ∈ ws, w.before args s = true) → s.vm.findClass y.cls = some m.cls → c.maxLocals = maxL → meth.name = y.name → va_AO "NearTree$Node" s → gN Γ s → gW Γ (gA K sz) s.heap K F s.heap [] →
      (∀ (v' : Option Value) (K' : gK) (F' : gF) (H : Heap) (locs : List Loc) (pc : Nat) (ls : Array Slot), gW Γ (gA K sz) s.heap K' F' H locs → post v' K' F' → Rets cc ret v' pc → W p l e (gRm n mc ms) s m args below meth c H locs mc ms Z (F0 m pc ls v'.toList)) → lv_has ls maxL (lv_args 0 av) →
      W p l e (gRm n mc ms) s m args below meth c s.heap [] 0 0 Z (F0 m 0 ls [])) : gMC l y ws n mc ms Γ K F sz av post := by
  refine Met.ofW (cc := cc) (maxL := maxL) (ret := ret) hy hw ?_
  intro p e s m args below meth c s₁ B hml hv
  obtain ⟨rfl, rfl, hP, hN, hA9⟩ := hv
  have hl := lv_entry av (n := maxL) ha
  rw [lg_entry_eq]
  refine body p e s m _ below meth c _ _ rfl B.exec B.bytes (atoms_spec (ws := ws) B.pre) (findClass_of_methodNamed B.named) hml (name_of_methodNamed B.named B.method).1 hA9 hN (gW.start hP) (fun v' K' F' H locs pc ls hW' hp hR => ?_) hl
  exact g_end B.exec B.bytes B.returns B.notSynchronized (fun t ht _ => ⟨_, K', F', rfl, hp, by rw [ht]; exact hW'.1, hW'.2.2.1, hW'.2.1.F ht⟩) hW'.2.1.2.2 hR
theorem g_mIC {p : Program} {l : Launch} {e : Env} {R : Room} {s : State} {m : MethodId} {args : Array Value} {below : List Frame} {meth : Method} {c : Code} {H : Heap} {locs : List Loc} {cells slots : Nat} {Q : State → Prop} {cc : ByteArray} {pc : Nat} {ls : Array Slot} {rest st0 As : List Value} {Γ : gG} {A : Nat → Prop} {b : Nat} {K : gK} {F : gF} {H0 : Heap} {own : String} {index nL maxL n na mc ms : Nat} {y : MethodName} {bytes : ByteArray} {Ts ws ws' : List Cond} {post : Option Value → gK → gF → Prop}
    (hA9 : va_AO "NearTree$Node" s) (hx : p.tables.exec = Jvm.exec) (hb : c.code = cc) (hml : c.maxLocals = nL) (hown : s.vm.findClass own = some m.cls) (hts : ∀ w ∈ Ts, w.before args s = true) (hN : gN Γ s) (hW : gW Γ A H0 K F H locs)
    (hM : gMC l y ws n mc ms Γ K F H.size (.ref b :: As) post) (hG : GoodIn Ts ws) (hw : ws = Cond.code y bytes maxL none :: ws') (hini : Cond.initialized y.cls ∈ Ts) (hl : Cond.methodLink own index y ∈ Ts) (hin : Cond.instanceMethod y ∈ Ts) (hy1 : y.name = "<init>") (hn : As.length = na)
    (hd : y.cls ≠ "java/lang/invoke/MethodHandle" ∧ y.cls ≠ "java/lang/invoke/VarHandle" ∧ (parseMethodDescriptor y.desc).map (fun d => d.parameters.length) = some na) (hR : n + 1 ≤ R.frames ∧ 8 + (maxL + 11) + 40 * n ≤ R.locals) (hcs : cells + mc ≤ R.cells ∧ slots + ms ≤ R.slots)
    (hst : st0 = As.reverse ++ .ref b :: rest) (hsz : ls.size = nL) (hrm : (rest.map fun v => v.category).sum ≤ 8) (hdg : decode cc pc = .ok (.invokespecial index, 3))
    (kk : ∀ (v : Option Value) (K' : gK) (F' : gF) (H1 : Heap) (locs1 : List Loc), post v K' F' → gW Γ A H0 K' F' H1 locs1 → H.size ≤ H1.size → W p l e R s m args below meth c H1 locs1 (cells + mc) (slots + ms) Q (F0 m (pc + 3) ls (v.toList ++ rest))) : W p l e R s m args below meth c H locs cells slots Q (F0 m pc ls st0) :=
  g_callM (va_runI ⟨hx, hb, hml, hown, hts⟩ hM (cwI na hts hG hw rfl rfl (hts _ hini) (hts _ hl) (hts _ hin) hy1 hd hR) ⟨gPreC_blind, fun U hU hW' => ⟨rfl, by rw [hU], by rw [hU]; exact hW.1, va_K.moved hW'.alike hN, va_AO.moved hW'.alike hA9⟩⟩ rfl hn hsz hst (lv_room hrm) hdg hcs) hW kk
theorem kup {K : gK} {q a : Nat} {k k' : Nat × Nat} (hq : K q = none) (h : K a = some k) : va_up K q (some k') a = some k := by
  rw [va_up_ne _ _ (fun e => by rw [e, hq] at h; cases h)]
  exact h
theorem fup {K : gK} {F : gF} {q a j : Nat} {V : Nat → Value} {k : Nat × Nat} {v : Value} (hq : K q = none) (hk : K a = some k) (h : F a j = v) : va_up F q V a j = v := by
  rw [va_up_ne _ _ (fun e => by rw [e, hq] at hk; cases hk)]
  exact h
theorem fup' {K : gK} {F : gF} {q a j : Nat} {V : Nat → Value} {k : Nat × Nat} (hq : K q = none) (hk : K a = some k) : va_up F q V a j = F a j := fup hq hk rfl
