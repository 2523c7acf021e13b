/-! the world as two functions: the kind of each address (class number, 0), or (8 int, 9 long, 10 boolean, 11 Node rows; length); and the value at each address and place -/
abbrev gK : Type := Nat → Option (Nat × Nat)
abbrev gF : Type := Nat → Nat → Value
abbrev gG : Type := va_G × (Nat → ClassId)
def gAt (Γ : gG) (k : Nat × Nat) (V : Nat → Value) (a : Nat) (H : Heap) : Prop :=
  (k.1 < 8 → ∃ r : vw_C, vwCl[k.1]? = some r ∧ t_OB a (Γ.1.1 k.1) r.2.2 (Γ.1.2 k.1) H V) ∧ (8 ≤ k.1 → H[a]? = some (arrV (Γ.2 (k.1 - 8)) k.2 V))
def gP (Γ : gG) (K : gK) (F : gF) (H : Heap) : Prop := ∀ (a : Nat) (k : Nat × Nat), K a = some k → gAt Γ k (F a) a H
abbrev gTy (Γ : gG) : List (ClassId × FieldType) := [(Γ.2 0, .int), (Γ.2 1, .long), (Γ.2 2, .boolean), (Γ.2 3, .object "NearTree$Node")]
def gN (Γ : gG) (U : State) : Prop := va_K Γ.1 vwCl (gTy Γ) U
def gU (F : gF) (a k : Nat) (v : Value) : gF := fun b j => if b = a ∧ j = k then v else F b j
theorem gU_self {F : gF} {a k : Nat} {v : Value} : gU F a k v a k = v := by simp [gU]
theorem gU_ne {F : gF} {a k b j : Nat} {v : Value} (h : ¬ (b = a ∧ j = k)) : gU F a k v b j = F b j := by simp [gU, h]
theorem gU_a {F : gF} {a k b j : Nat} {v : Value} (h : b ≠ a) : gU F a k v b j = F b j := gU_ne (fun q => h q.1)
theorem gU_k {F : gF} {a k b j : Nat} {v : Value} (h : j ≠ k) : gU F a k v b j = F b j := gU_ne (fun q => h q.2)
theorem gU_row {F : gF} {a k : Nat} {v : Value} : gU F a k v a = updV (F a) k v := by
  funext j
  by_cases h : j = k <;> simp [gU, updV, h]
theorem gU_off {F : gF} {a k b : Nat} {v : Value} (h : b ≠ a) : gU F a k v b = F b := by
  funext j
  exact gU_a h
theorem gAt.kept {Γ : gG} {k : Nat × Nat} {V : Nat → Value} {a : Nat} {H H1 : Heap} (h : gAt Γ k V a H) (hq : H1[a]? = H[a]?) : gAt Γ k V a H1 := by
  refine ⟨fun q => ?_, fun q => ?_⟩
  · obtain ⟨r, h1, h2⟩ := h.1 q
    exact ⟨r, h1, h2.kept hq⟩
  · rw [hq]
    exact h.2 q
theorem gAt.lt {Γ : gG} {k : Nat × Nat} {V : Nat → Value} {a : Nat} {H : Heap} (h : gAt Γ k V a H) : a < H.size := by
  rcases Nat.lt_or_ge k.1 8 with q | q
  · obtain ⟨r, -, cell, h2, -⟩ := h.1 q
    exact (Array.getElem?_eq_some_iff.mp h2).1
  · exact (Array.getElem?_eq_some_iff.mp (h.2 q)).1
theorem gP.kept {Γ : gG} {K : gK} {F : gF} {H H1 : Heap} (h : gP Γ K F H) (hq : ∀ (a : Nat) (k : Nat × Nat), K a = some k → H1[a]? = H[a]?) : gP Γ K F H1 := fun a k hk => (h a k hk).kept (hq a k hk)
theorem gP.set {Γ : gG} {K : gK} {F : gF} {H H1 : Heap} {a i : Nat} {v : Value} {k : Nat × Nat} (h : gP Γ K F H) (hk : K a = some k) (he : gAt Γ k (updV (F a) i v) a H1) (oq : ∀ q : Nat, q ≠ a → H1[q]? = H[q]?) : gP Γ K (gU F a i v) H1 := by
  intro b kb hb
  by_cases hba : b = a
  · subst hba
    have : kb = k := Option.some.inj (hb.symm.trans hk)
    subst this
    rw [gU_row]
    exact he
  · rw [gU_off hba]
    exact (h b kb hb).kept (oq b hba)
theorem gP.push {Γ : gG} {K : gK} {F : gF} {H H1 : Heap} {V : Nat → Value} {k : Nat × Nat} (h : gP Γ K F H) (he : gAt Γ k V H.size H1) (oq : ∀ q : Nat, q < H.size → H1[q]? = H[q]?) : gP Γ (va_up K H.size (some k)) (va_up F H.size V) H1 := by
  intro b kb hb
  by_cases hba : b = H.size
  · subst hba
    rw [va_up_self] at hb ⊢
    cases hb
    exact he
  · rw [va_up_ne _ _ hba] at hb ⊢
    exact (h b kb hb).kept (oq b (h b kb hb).lt)
theorem gP.fresh {Γ : gG} {K : gK} {F : gF} {H : Heap} (h : gP Γ K F H) {q : Nat} (hq : H.size ≤ q) : K q = none := by
  cases hk : K q with
  | none => rfl
  | some k => exact absurd (h q k hk).lt (by omega)
/-- the world of a walk: what the heap holds, what has changed since the method began, and that it is the method's own -/
def gW (Γ : gG) (A : Nat → Prop) (H0 : Heap) (K : gK) (F : gF) (H : Heap) (locs : List Loc) : Prop :=
  gP Γ K F H ∧ va_S A H0 H locs ∧ (∀ (a : Nat) (k : Nat × Nat), K a = some k → A a) ∧ ∀ q : Nat, H0.size ≤ q → A q
def gA (K : gK) (sz : Nat) : Nat → Prop := fun q => (∃ k, K q = some k) ∨ sz ≤ q
theorem gW.start {Γ : gG} {K : gK} {F : gF} {H : Heap} (h : gP Γ K F H) : gW Γ (gA K H.size) H K F H [] := ⟨h, va_S.rf, fun _ k hk => Or.inl ⟨k, hk⟩, fun _ hq => Or.inr hq⟩
/-- contracts: a method that reads, and one that writes -/
def gPre (Γ : gG) (K : gK) (F : gF) (av : List Value) : Array Value → State → Prop := va_Pc av (fun U => gP Γ K F U.heap ∧ gN Γ U)
def gR (v : Option Value) : Array Value → State → Outcome → State → Prop := fun _ st oc t => oc = .returned v ∧ t.heap = st.heap
def gPreM (Γ : gG) (K : gK) (F : gF) (sz : Nat) (av : List Value) : Array Value → State → Prop := va_Pc av (fun U => U.heap.size = sz ∧ gP Γ K F U.heap ∧ gN Γ U)
def gQ (Γ : gG) (A : Nat → Prop) (post : Option Value → gK → gF → Prop) : Array Value → State → Outcome → State → Prop := fun _ st oc t =>
  ∃ (v : Option Value) (K' : gK) (F' : gF), oc = .returned v ∧ post v K' F' ∧ gP Γ K' F' t.heap ∧ (∀ (a : Nat) (k : Nat × Nat), K' a = some k → A a) ∧ va_F A st t
abbrev gRm (n c s : Nat) : Room := { frames := n, cells := c, slots := s, locals := 40 * n }
abbrev gMR (l : Launch) (y : MethodName) (ws : List Cond) (n : Nat) (Γ : gG) (K : gK) (F : gF) (av : List Value) (v : Option Value) : Prop := Met l y ws (gRm n 0 0) (gPre Γ K F av) (gR v) 0 0 (fun _ => False)
abbrev gMM (l : Launch) (y : MethodName) (ws : List Cond) (n mc ms : Nat) (Γ : gG) (K : gK) (F : gF) (sz : Nat) (av : List Value) (post : Option Value → gK → gF → Prop) : Prop := Met l y ws (gRm n mc ms) (gPreM Γ K F sz av) (gQ Γ (gA K sz) post) mc ms (gA K sz)
theorem gPre_blind {Γ : gG} {K : gK} {F : gF} {av : List Value} : FrameBlind (gPre Γ K F av) := fun a U g mk q => by
  obtain ⟨q0, qP, qK⟩ := q
  exact ⟨q0, qP, va_K.moved (u := U) (U := U.calling g mk a) (Vm.Alike.refl U.vm) qK⟩
theorem gPreM_blind {Γ : gG} {K : gK} {F : gF} {sz : Nat} {av : List Value} : FrameBlind (gPreM Γ K F sz av) := fun a U g mk q => by
  obtain ⟨q0, q1, qP, qK⟩ := q
  exact ⟨q0, q1, qP, va_K.moved (u := U) (U := U.calling g mk a) (Vm.Alike.refl U.vm) qK⟩
theorem g_metR {l : Launch} {y : MethodName} {ws ws' : List Cond} {n : Nat} {cc : ByteArray} {maxL : Nat} {ret : Option FieldType} {Γ : gG} {K : gK} {F : gF} {av : List Value} {v : Option Value}
    (hy : plainName y.cls = true) (hw : ws = Cond.code y cc maxL ret :: ws') (ha : (lg_sl av).length ≤ maxL)
    (body : ∀ (p : Program) (e : Env) (s : State) (m : MethodId) (below : List Frame) (meth : Method) (c : Code) (ls : Array Slot), p.tables.exec = Jvm.exec → c.code = cc → meth.sig.returnType = ret → (∀ w ∈ ws, w.before av.toArray s = true) → s.vm.findClass y.cls = some m.cls → meth.locks = false → c.maxLocals = maxL → gN Γ s → gP Γ K F s.heap → lv_has ls maxL (lv_args 0 av) →
      W p l e (gRm n 0 0) s m av.toArray below meth c s.heap [] 0 0 (MQ below (gR v) av.toArray s 0 0 (fun _ => False)) (F0 m 0 ls [])) : gMR l y ws n Γ K F av v := by
  refine Met.ofW (cc := cc) (maxL := maxL) (ret := ret) hy hw ?_
  intro p e s m args below meth c s₁ B hml hv
  obtain ⟨rfl, hP, hN⟩ := hv
  have hl := lv_entry av (n := maxL) ha
  rw [lg_entry_eq]
  exact body p e s m below meth c _ B.exec B.bytes B.returns (atoms_spec (ws := ws) B.pre) (findClass_of_methodNamed B.named) B.notSynchronized hml hN hP hl
theorem g_metM {l : Launch} {y : MethodName} {ws ws' : List Cond} {n mc ms : Nat} {cc : ByteArray} {maxL : Nat} {ret : Option FieldType} {Γ : gG} {K : gK} {F : gF} {sz : Nat} {av : List Value} {post : Option Value → gK → gF → Prop}
    (hy : plainName y.cls = true) (hw : ws = Cond.code y cc maxL ret :: ws') (ha : (lg_sl av).length ≤ maxL)
    (body : ∀ (p : Program) (e : Env) (s : State) (m : MethodId) (below : List Frame) (meth : Method) (c : Code) (ls : Array Slot), s.heap.size = sz → p.tables.exec = Jvm.exec → c.code = cc → meth.sig.returnType = ret → (∀ w ∈ ws, w.before av.toArray s = true) → s.vm.findClass y.cls = some m.cls → meth.locks = false → c.maxLocals = maxL → meth.name = y.name → gN Γ s → gW Γ (gA K sz) s.heap K F s.heap [] → lv_has ls maxL (lv_args 0 av) →
      W p l e (gRm n mc ms) s m av.toArray below meth c s.heap [] 0 0 (MQ below (gQ Γ (gA K sz) post) av.toArray s mc ms (gA K sz)) (F0 m 0 ls [])) : gMM l y ws n mc ms Γ K F sz av post := by
  refine Met.ofW (cc := cc) (maxL := maxL) (ret := ret) hy hw ?_
  intro p e s m args below meth c s₁ B hml hv
  obtain ⟨rfl, rfl, hP, hN⟩ := hv
  have hl := lv_entry av (n := maxL) ha
  rw [lg_entry_eq]
  exact body p e s m below meth c _ rfl B.exec B.bytes B.returns (atoms_spec (ws := ws) B.pre) (findClass_of_methodNamed B.named) B.notSynchronized hml (name_of_methodNamed B.named B.method).1 hN (gW.start hP) hl
