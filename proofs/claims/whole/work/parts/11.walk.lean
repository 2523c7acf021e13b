/-! walking in the world: fields, rows, calls -/
section GWalk
variable {p : Program} {l : Launch} {e : Env} {R : Room} {s : State} {m : MethodId} {args : Array Value} {below : List Frame} {meth : Method} {c : Code} {H : Heap} {locs : List Loc} {cells slots : Nat} {Q : State → Prop}
variable {cc : ByteArray} {pc : Nat} {ls : Array Slot} {rest : List Value} {Γ : gG} {A : Nat → Prop} {a : Nat} {K : gK} {F : gF} {H0 : Heap}
theorem g_get (hexec : p.tables.exec = Jvm.exec) (hb : c.code = cc) {own C : String} {T : u_T} {N ci index : Nat} {Ts : List Cond} (hts : ∀ w ∈ Ts, w.before args s = true) (hin : ∀ w ∈ u_ws C T N, w ∈ Ts) (hown : s.vm.findClass own = some m.cls) (hN : gN Γ s) (hP : gP Γ K F H) (hk : K a = some (ci, 0)) (hc : vwCl[ci]? = some (C, T, N)) (h8 : ci < 8) (k : Nat) (hkN : k < N) (hlink : Cond.fieldLink own index (T k).1 (T k).2.1 (T k).2.2.1 ∈ Ts) {v : Value} (hv : F a k = v) (hdg : decode cc pc = .ok (.getfield index, 3))
    (kk : W p l e R s m args below meth c H locs cells slots Q (F0 m (pc + 3) ls (v :: rest))) : W p l e R s m args below meth c H locs cells slots Q (F0 m pc ls (.ref a :: rest)) := by
  obtain ⟨r, h1, cell, q1, q2, q3, q4⟩ := (hP a _ hk).1 h8
  have hr : r = (C, T, N) := Option.some.inj (h1.symm.trans hc)
  subst hr
  obtain ⟨hS, hfc, kC, hkC, hkind⟩ := hN.1 ci _ hc
  obtain ⟨cf, kf, fi, f, hi, hsl⟩ := hS k hkN
  refine W.getf hexec hb hown (hts _ hlink) hi (u_facts hfc hkC (u_lays hts hin hkN) hi).1 q1 (by rw [q3]; exact fun h => by cases h) (v := v) ?_ rfl rfl hdg kk
  rw [hsl, q4 k hkN, hv]
theorem g_put (hexec : p.tables.exec = Jvm.exec) (hb : c.code = cc) {own C : String} {T : u_T} {N ci index : Nat} {Ts : List Cond} (hts : ∀ w ∈ Ts, w.before args s = true) (hin : ∀ w ∈ u_ws C T N, w ∈ Ts) (ty0 : Nat → FieldType) (hty : ∀ k, k < N → parseFieldDescriptor (T k).2.2.1 = some (ty0 k)) (hnm : ∀ a, a < N → ∀ b, b < N → a ≠ b → (T a).2.1 ≠ (T b).2.1) (hown : s.vm.findClass own = some m.cls) (hN : gN Γ s) (hW : gW Γ A H0 K F H locs) (hk : K a = some (ci, 0)) (hc : vwCl[ci]? = some (C, T, N)) (h8 : ci < 8) (k : Nat) (hkN : k < N) (hlink : Cond.fieldLink own index (T k).1 (T k).2.1 (T k).2.2.1 ∈ Ts) (hfin : (T k).2.2.2 = false) {v : Value} (hn : narrow (ty0 k) v = v) (hfit : fits (ty0 k) v = true) (hdg : decode cc pc = .ok (.putfield index, 3))
    (kk : ∀ (H1 : Heap) (locs1 : List Loc), gW Γ A H0 K (gU F a k v) H1 locs1 → W p l e R s m args below meth c H1 locs1 cells slots Q (F0 m (pc + 3) ls rest)) : W p l e R s m args below meth c H locs cells slots Q (F0 m pc ls (v :: .ref a :: rest)) := by
  have hap := va_apart (own := own) hts hin ty0 hty hnm hN hc
  obtain ⟨r, h1, cell, q1, q2, q3, q4⟩ := (hW.1 a _ hk).1 h8
  have hr : r = (C, T, N) := Option.some.inj (h1.symm.trans hc)
  subst hr
  obtain ⟨hS, hfc, kC, hkC, hkind⟩ := hN.1 ci _ hc
  obtain ⟨cf, kf, fi, f, hi, hsl⟩ := hS k hkN
  have hlay := hts _ (hin _ (u_in_lay hkN))
  unfold u_lay at hlay
  rw [if_neg (by rw [hfin]; decide)] at hlay
  have hst := (u_facts hfc hkC (u_lays hts hin hkN) hi).1
  have h6 := u_store hfc hkC hkind hlay hi (hty k hkN) hn hfit
  refine W.putK hexec hb (f := f) ⟨hown, hts _ hlink, ⟨_, _, _, hi⟩, hst⟩ (by rw [q2]; exact h6) q1 q3 (by rw [hsl]; exact k2_hasslot (q4 k hkN)) rfl rfl hdg fun H' e1 e2 e3 => ?_
  rw [hsl] at e1 ⊢
  refine kk H' _ ⟨hW.1.set hk ⟨fun _ => ⟨_, hc, _, e1, q2, q3, t_set q4 hap hkN v⟩, fun h9 => absurd h8 (Nat.not_lt.mpr h9)⟩ e3, hW.2.1.put e2 e3 (hW.2.2.1 a _ hk), hW.2.2⟩
theorem g_putF (hexec : p.tables.exec = Jvm.exec) (hb : c.code = cc) {own C : String} {T : u_T} {N ci index : Nat} {Ts : List Cond} (hts : ∀ w ∈ Ts, w.before args s = true) (hin : ∀ w ∈ u_ws C T N, w ∈ Ts) (ty0 : Nat → FieldType) (hty : ∀ k, k < N → parseFieldDescriptor (T k).2.2.1 = some (ty0 k)) (hnm : ∀ a, a < N → ∀ b, b < N → a ≠ b → (T a).2.1 ≠ (T b).2.1) (hown : s.vm.findClass own = some m.cls) (hN : gN Γ s) (hW : gW Γ A H0 K F H locs) (hk : K a = some (ci, 0)) (hc : vwCl[ci]? = some (C, T, N)) (h8 : ci < 8) (k : Nat) (hkN : k < N) (hlink : Cond.fieldLink own index (T k).1 (T k).2.1 (T k).2.2.1 ∈ Ts) (hfin : (T k).2.2.2 = true) (hin2 : meth.name = "<init>") (hdecl : (T k).1 = own) {v : Value} (hn : narrow (ty0 k) v = v) (hfit : fits (ty0 k) v = true) (hdg : decode cc pc = .ok (.putfield index, 3))
    (kk : ∀ (H1 : Heap) (locs1 : List Loc), gW Γ A H0 K (gU F a k v) H1 locs1 → W p l e R s m args below meth c H1 locs1 cells slots Q (F0 m (pc + 3) ls rest)) : W p l e R s m args below meth c H locs cells slots Q (F0 m pc ls (v :: .ref a :: rest)) := by
  have hap := va_apart (own := own) hts hin ty0 hty hnm hN hc
  obtain ⟨r, h1, cell, q1, q2, q3, q4⟩ := (hW.1 a _ hk).1 h8
  have hr : r = (C, T, N) := Option.some.inj (h1.symm.trans hc)
  subst hr
  obtain ⟨hS, hfc, kC, hkC, hkind⟩ := hN.1 ci _ hc
  obtain ⟨cf, kf, fi, f, hi, hsl⟩ := hS k hkN
  have hlay := hts _ (hin _ (u_in_lay hkN))
  unfold u_lay at hlay
  rw [if_pos hfin] at hlay
  have hst := (u_facts hfc hkC (u_lays hts hin hkN) hi).1
  have hcf : m.cls = cf := by
    obtain ⟨_, _, c', _, _, _, -, -, hf', -, -, -, hown2, -⟩ := Cond.laysFinal_spec hlay
    have e1 : c' = cf := by have := hi.symm.trans hf'; simp at this; exact this.1.symm
    rw [hdecl] at hown2
    rw [← e1]; exact Option.some.inj (hown.symm.trans hown2)
  have h6 := u_fits hfc hkC hkind (Or.inr hlay) hi (hty k hkN) hn hfit
  refine W.putFinK hexec hb hown (hts _ hlink) hi hst hcf hin2 (by rw [q2]; exact h6) q1 q3 (by rw [hsl]; exact k2_hasslot (q4 k hkN)) rfl rfl hdg fun H' e1 e2 e3 => ?_
  rw [hsl] at e1 ⊢
  refine kk H' _ ⟨hW.1.set hk ⟨fun _ => ⟨_, hc, _, e1, q2, q3, t_set q4 hap hkN v⟩, fun h9 => absurd h8 (Nat.not_lt.mpr h9)⟩ e3, hW.2.1.put e2 e3 (hW.2.2.1 a _ hk), hW.2.2⟩
theorem g_row {n t : Nat} (hP : gP Γ K F H) (hk : K a = some (8 + t, n)) : H[a]? = some (arrV (Γ.2 t) n (F a)) := by
  have h := (hP a _ hk).2 (Nat.le_add_right 8 t)
  rwa [show 8 + t - 8 = t by omega] at h
theorem g_inR {j n : Nat} {i : Int32} {cA : ClassId} {f : Nat → Value} (hi : i = nI j) (hj : j < n) (hn : n < 2 ^ 31) : ¬ (i < 0 ∨ (arrV cA n f).slots.size ≤ i.toNatClampNeg) := by
  rw [arrV_size, hi]
  exact nI_in hj hn
theorem g_rd {j n : Nat} {i : Int32} {cA : ClassId} {f : Nat → Value} {v : Value} (hi : i = nI j) (hj : j < n) (hn : n < 2 ^ 31) (hv : f j = v) : (arrV cA n f).slots[i.toNatClampNeg]? = some v := by
  rw [hi, nI_clamp (by omega), arrV_read _ _ hj, hv]
theorem g_alen {t n : Nat} (hexec : p.tables.exec = Jvm.exec) (hb : c.code = cc) (hN : gN Γ s) (hP : gP Γ K F H) (hk : K a = some (8 + t, n)) {ty : FieldType} (ht : (gTy Γ)[t]? = some (Γ.2 t, ty)) (hdg : decode cc pc = .ok (.arraylength, 1))
    (kk : W p l e R s m args below meth c H locs cells slots Q (F0 m (pc + 1) ls (.int (nI n) :: rest))) : W p l e R s m args below meth c H locs cells slots Q (F0 m pc ls (.ref a :: rest)) :=
  W.alen (n := nI n) hexec hb (g_row hP hk) ((hN.2 t _ ht).1 n (F a)) (by rw [arrV_size] <;> rfl) rfl rfl hdg kk
theorem g_iald {n j : Nat} (hexec : p.tables.exec = Jvm.exec) (hb : c.code = cc) (hN : gN Γ s) (hP : gP Γ K F H) (hk : K a = some (8, n)) (hn : n < 2 ^ 31) {i : Int32} (hi : i = nI j) (hj : j < n) {v : Value} (hv : F a j = v) (hdg : decode cc pc = .ok (.iaload, 1))
    (kk : W p l e R s m args below meth c H locs cells slots Q (F0 m (pc + 1) ls (v :: rest))) : W p l e R s m args below meth c H locs cells slots Q (F0 m pc ls (.int i :: .ref a :: rest)) :=
  W.iald (v := v) hexec hb (g_row (t := 0) hP hk) ((hN.2 0 _ rfl).1 n (F a)) (fun q => by cases q) (g_inR hi hj hn) (g_rd hi hj hn hv) rfl rfl hdg kk
theorem g_lald {n j : Nat} (hexec : p.tables.exec = Jvm.exec) (hb : c.code = cc) (hN : gN Γ s) (hP : gP Γ K F H) (hk : K a = some (9, n)) (hn : n < 2 ^ 31) {i : Int32} (hi : i = nI j) (hj : j < n) {v : Value} (hv : F a j = v) (hdg : decode cc pc = .ok (.laload, 1))
    (kk : W p l e R s m args below meth c H locs cells slots Q (F0 m (pc + 1) ls (v :: rest))) : W p l e R s m args below meth c H locs cells slots Q (F0 m pc ls (.int i :: .ref a :: rest)) :=
  W.lald (v := v) hexec hb (g_row (t := 1) hP hk) ((hN.2 1 _ rfl).1 n (F a)) (fun q => by cases q) (g_inR hi hj hn) (g_rd hi hj hn hv) rfl rfl hdg kk
theorem g_zald {n j : Nat} (hexec : p.tables.exec = Jvm.exec) (hb : c.code = cc) (hN : gN Γ s) (hP : gP Γ K F H) (hk : K a = some (10, n)) (hn : n < 2 ^ 31) {i : Int32} (hi : i = nI j) (hj : j < n) {v : Value} (hv : F a j = v) (hdg : decode cc pc = .ok (.baload, 1))
    (kk : W p l e R s m args below meth c H locs cells slots Q (F0 m (pc + 1) ls (v :: rest))) : W p l e R s m args below meth c H locs cells slots Q (F0 m pc ls (.int i :: .ref a :: rest)) :=
  W.zald (v := v) hexec hb (g_row (t := 2) hP hk) ((hN.2 2 _ rfl).1 n (F a)) (fun q => by cases q) (g_inR hi hj hn) (g_rd hi hj hn hv) rfl rfl hdg kk
theorem g_aald {n j : Nat} (hexec : p.tables.exec = Jvm.exec) (hb : c.code = cc) (hN : gN Γ s) (hP : gP Γ K F H) (hk : K a = some (11, n)) (hn : n < 2 ^ 31) {i : Int32} (hi : i = nI j) (hj : j < n) {v : Value} (hv : F a j = v) (hdg : decode cc pc = .ok (.aaload, 1))
    (kk : W p l e R s m args below meth c H locs cells slots Q (F0 m (pc + 1) ls (v :: rest))) : W p l e R s m args below meth c H locs cells slots Q (F0 m pc ls (.int i :: .ref a :: rest)) :=
  W.aald (v := v) (ty := .object "NearTree$Node") hexec hb (g_row (t := 3) hP hk) ((hN.2 3 _ rfl).1 n (F a)) rfl (fun q => by cases q) (g_inR hi hj hn) (g_rd hi hj hn hv) rfl rfl hdg kk
theorem g_stored {n j t : Nat} {i : Int32} {x : Value} {H1 : Heap} (hW : gW Γ A H0 K F H locs) (hk : K a = some (8 + t, n)) (hi : i = nI j) (hj : j < n) (hn : n < 2 ^ 31) (e1 : H1[a]? = some ((arrV (Γ.2 t) n (F a)).setSlot i.toNatClampNeg x)) (z : H1.size = H.size) (oq : ∀ q, q ≠ a → H1[q]? = H[q]?) : gW Γ A H0 K (gU F a j x) H1 (locs ++ [⟨a, i.toNatClampNeg⟩]) := by
  refine ⟨hW.1.set hk ⟨fun h => absurd h (by simp), fun _ => ?_⟩ oq, hW.2.1.put z oq (hW.2.2.1 a _ hk), hW.2.2⟩
  rw [e1, arrV_store, hi, nI_clamp (by omega), show 8 + t - 8 = t by omega]
theorem g_iast {n j : Nat} (hexec : p.tables.exec = Jvm.exec) (hb : c.code = cc) (hN : gN Γ s) (hW : gW Γ A H0 K F H locs) (hk : K a = some (8, n)) (hn : n < 2 ^ 31) {i x : Int32} (hi : i = nI j) (hj : j < n) (hdg : decode cc pc = .ok (.iastore, 1))
    (kk : ∀ (H1 : Heap) (locs1 : List Loc), gW Γ A H0 K (gU F a j (.int x)) H1 locs1 → W p l e R s m args below meth c H1 locs1 cells slots Q (F0 m (pc + 1) ls rest)) : W p l e R s m args below meth c H locs cells slots Q (F0 m pc ls (.int x :: .int i :: .ref a :: rest)) :=
  W.iast hexec hb (g_row (t := 0) hW.1 hk) ((hN.2 0 _ rfl).1 n (F a)) (fun q => by cases q) (g_inR hi hj hn) rfl rfl hdg fun H1 e z oq => kk H1 _ (g_stored (t := 0) hW hk hi hj hn e z oq)
theorem g_last {n j : Nat} (hexec : p.tables.exec = Jvm.exec) (hb : c.code = cc) (hN : gN Γ s) (hW : gW Γ A H0 K F H locs) (hk : K a = some (9, n)) (hn : n < 2 ^ 31) {i : Int32} {x : Int64} (hi : i = nI j) (hj : j < n) (hdg : decode cc pc = .ok (.lastore, 1))
    (kk : ∀ (H1 : Heap) (locs1 : List Loc), gW Γ A H0 K (gU F a j (.long x)) H1 locs1 → W p l e R s m args below meth c H1 locs1 cells slots Q (F0 m (pc + 1) ls rest)) : W p l e R s m args below meth c H locs cells slots Q (F0 m pc ls (.long x :: .int i :: .ref a :: rest)) :=
  W.last hexec hb (g_row (t := 1) hW.1 hk) ((hN.2 1 _ rfl).1 n (F a)) (fun q => by cases q) (g_inR hi hj hn) rfl rfl hdg fun H1 e z oq => kk H1 _ (g_stored (t := 1) hW hk hi hj hn e z oq)
theorem g_zast {n j : Nat} (hexec : p.tables.exec = Jvm.exec) (hb : c.code = cc) (hN : gN Γ s) (hW : gW Γ A H0 K F H locs) (hk : K a = some (10, n)) (hn : n < 2 ^ 31) {i x : Int32} (hx : narrow .boolean (.int x) = .int x) (hi : i = nI j) (hj : j < n) (hdg : decode cc pc = .ok (.bastore, 1))
    (kk : ∀ (H1 : Heap) (locs1 : List Loc), gW Γ A H0 K (gU F a j (.int x)) H1 locs1 → W p l e R s m args below meth c H1 locs1 cells slots Q (F0 m (pc + 1) ls rest)) : W p l e R s m args below meth c H locs cells slots Q (F0 m pc ls (.int x :: .int i :: .ref a :: rest)) :=
  W.zast hexec hb (g_row (t := 2) hW.1 hk) ((hN.2 2 _ rfl).1 n (F a)) (fun q => by cases q) (g_inR hi hj hn) rfl rfl hdg fun H1 e z oq => kk H1 _ (g_stored (t := 2) hW hk hi hj hn (by rw [← hx]; exact e) z oq)
theorem g_aast {n j b : Nat} (hexec : p.tables.exec = Jvm.exec) (hb : c.code = cc) (hN : gN Γ s) (hW : gW Γ A H0 K F H locs) (hk : K a = some (11, n)) (hn : n < 2 ^ 31) (hkb : K b = some (2, 0)) {i : Int32} (hi : i = nI j) (hj : j < n) (hdg : decode cc pc = .ok (.aastore, 1))
    (kk : ∀ (H1 : Heap) (locs1 : List Loc), gW Γ A H0 K (gU F a j (.ref b)) H1 locs1 → W p l e R s m args below meth c H1 locs1 cells slots Q (F0 m (pc + 1) ls rest)) : W p l e R s m args below meth c H locs cells slots Q (F0 m pc ls (.ref b :: .int i :: .ref a :: rest)) := by
  obtain ⟨r', hr', cellV, g1, g2, g3, -⟩ := (hW.1 b _ hkb).1 (by decide)
  have hcls := (hN.1 2 _ rfl).2
  obtain ⟨kA, comp, k1, k2, k3, -⟩ := (hN.2 3 _ rfl).2
  have hcomp : comp = Γ.1.1 2 := Option.some.inj (k3.symm.trans hcls.1)
  subst hcomp
  obtain ⟨kC, hkC, -⟩ := hcls.2
  exact W.aast hexec hb (g_row (t := 3) hW.1 hk) (fun q h => by cases h) (fun h => by cases h) k1 k2 rfl hkC ⟨by rw [hi]; exact nI_pos (by omega), by rw [arrV_size, hi, nI_clamp (by omega)]; exact hj⟩ g1 (fun q h => by rw [g3] at h; cases h) (by rw [g2]; exact hkC) (by rw [g2]; exact va_assign hcls) rfl rfl hdg fun H1 e z oq => kk H1 _ (g_stored (t := 3) hW hk hi hj hn e z oq)
theorem g_aastN {n j : Nat} (hexec : p.tables.exec = Jvm.exec) (hb : c.code = cc) (hN : gN Γ s) (hW : gW Γ A H0 K F H locs) (hk : K a = some (11, n)) (hn : n < 2 ^ 31) {i : Int32} (hi : i = nI j) (hj : j < n) (hdg : decode cc pc = .ok (.aastore, 1))
    (kk : ∀ (H1 : Heap) (locs1 : List Loc), gW Γ A H0 K (gU F a j .null) H1 locs1 → W p l e R s m args below meth c H1 locs1 cells slots Q (F0 m (pc + 1) ls rest)) : W p l e R s m args below meth c H locs cells slots Q (F0 m pc ls (.null :: .int i :: .ref a :: rest)) :=
  va_WaastN (C := "NearTree$Node") hexec hb (g_row (t := 3) hW.1 hk) ((hN.2 3 _ rfl).1 n (F a)) (fun h => by cases h) (g_inR hi hj hn) rfl rfl hdg fun H1 e z oq => kk H1 _ (g_stored (t := 3) hW hk hi hj hn e z oq)
/-- a number on the stack by another name -/
theorem g_asi {x y : Int32} (h : x = y) (k : W p l e R s m args below meth c H locs cells slots Q (F0 m pc ls (.int y :: rest))) : W p l e R s m args below meth c H locs cells slots Q (F0 m pc ls (.int x :: rest)) := by rw [h]; exact k
theorem g_asl {x y : Int64} (h : x = y) (k : W p l e R s m args below meth c H locs cells slots Q (F0 m pc ls (.long y :: rest))) : W p l e R s m args below meth c H locs cells slots Q (F0 m pc ls (.long x :: rest)) := by rw [h]; exact k
theorem g_asi2 {x y : Int32} {v : Value} (h : x = y) (k : W p l e R s m args below meth c H locs cells slots Q (F0 m pc ls (v :: .int y :: rest))) : W p l e R s m args below meth c H locs cells slots Q (F0 m pc ls (v :: .int x :: rest)) := by rw [h]; exact k
/-- references that may be null -/
theorem g_aload_n (hexec : p.tables.exec = Jvm.exec) (hb : c.code = cc) {k : Fin 4} {i : Nat} {r : Option Nat} (hdg : decode cc pc = .ok (.aload_n k, 1)) (hi : (k : Nat) = i) (hl : ls[i]? = some (.val (va_rf r))) (kk : W p l e R s m args below meth c H locs cells slots Q (F0 m (pc + 1) ls (va_rf r :: rest))) : W p l e R s m args below meth c H locs cells slots Q (F0 m pc ls rest) := by
  cases r with
  | none => exact lv_aload_nN hexec hb hdg hi hl kk
  | some x => exact lv_aload_n hexec hb hdg hi hl kk
theorem g_aload (hexec : p.tables.exec = Jvm.exec) (hb : c.code = cc) {i : Nat} {r : Option Nat} (hdg : decode cc pc = .ok (.aload i, 2)) (hl : ls[i]? = some (.val (va_rf r))) (kk : W p l e R s m args below meth c H locs cells slots Q (F0 m (pc + 2) ls (va_rf r :: rest))) : W p l e R s m args below meth c H locs cells slots Q (F0 m pc ls rest) := by
  cases r with
  | none => exact lv_aloadN hexec hb hdg hl kk
  | some x => exact lv_aload hexec hb hdg hl kk
theorem g_astore_n (hexec : p.tables.exec = Jvm.exec) (hb : c.code = cc) {k : Fin 4} {i nL : Nat} {r : Option Nat} {lv lv' : List (Nat × Value)} (hdg : decode cc pc = .ok (.astore_n k, 1)) (hi : (k : Nat) = i) (h : lv_has ls nL lv) (hn : i < nL) (hl : (i, va_rf r) :: lv.filter (fun q => !(q.1 == i) && !(q.1 + 1 == i && q.2.category == 2)) = lv')
    (kk : ∀ ls : Array Slot, lv_has ls nL lv' → W p l e R s m args below meth c H locs cells slots Q (F0 m (pc + 1) ls rest)) : W p l e R s m args below meth c H locs cells slots Q (F0 m pc ls (va_rf r :: rest)) := by
  cases r with
  | none => exact lv_astore_nN hexec hb hdg hi h hn hl kk
  | some x => exact lv_astore_n hexec hb hdg hi h hn hl kk
theorem g_astore (hexec : p.tables.exec = Jvm.exec) (hb : c.code = cc) {i nL : Nat} {r : Option Nat} {lv lv' : List (Nat × Value)} (hdg : decode cc pc = .ok (.astore i, 2)) (h : lv_has ls nL lv) (hn : i < nL) (hl : (i, va_rf r) :: lv.filter (fun q => !(q.1 == i) && !(q.1 + 1 == i && q.2.category == 2)) = lv')
    (kk : ∀ ls : Array Slot, lv_has ls nL lv' → W p l e R s m args below meth c H locs cells slots Q (F0 m (pc + 2) ls rest)) : W p l e R s m args below meth c H locs cells slots Q (F0 m pc ls (va_rf r :: rest)) := by
  cases r with
  | none => exact lv_astoreN hexec hb hdg h hn hl kk
  | some x => exact lv_astore hexec hb hdg h hn hl kk
theorem g_ifnull (hexec : p.tables.exec = Jvm.exec) (hb : c.code = cc) {r : Option Nat} {off : Int} {tgt : Nat} (hdg : decode cc pc = .ok (.ifnull off, 3)) (ht : (pc : Int) + off = (tgt : Int)) (k1 : r = none → W p l e R s m args below meth c H locs cells slots Q (F0 m tgt ls rest)) (k2 : ∀ x, r = some x → W p l e R s m args below meth c H locs cells slots Q (F0 m (pc + 3) ls rest)) : W p l e R s m args below meth c H locs cells slots Q (F0 m pc ls (va_rf r :: rest)) := by
  cases r with
  | none => exact lv_ifnullN hexec hb hdg ht (k1 rfl)
  | some x => exact lv_ifnull hexec hb hdg (k2 x rfl)
theorem g_ifnonnull (hexec : p.tables.exec = Jvm.exec) (hb : c.code = cc) {r : Option Nat} {off : Int} {tgt : Nat} (hdg : decode cc pc = .ok (.ifnonnull off, 3)) (ht : (pc : Int) + off = (tgt : Int)) (k1 : ∀ x, r = some x → W p l e R s m args below meth c H locs cells slots Q (F0 m tgt ls rest)) (k2 : r = none → W p l e R s m args below meth c H locs cells slots Q (F0 m (pc + 3) ls rest)) : W p l e R s m args below meth c H locs cells slots Q (F0 m pc ls (va_rf r :: rest)) := by
  cases r with
  | none => exact lv_ifnonnullN hexec hb hdg (k2 rfl)
  | some x => exact lv_ifnonnull hexec hb hdg ht (k1 x rfl)
/-- the ends -/
theorem g_iret {v : Int32} {cs sl : Nat} (hexec : p.tables.exec = Jvm.exec) (hb : c.code = cc) (hr : meth.sig.returnType = some .int) (hlocks : meth.locks = false) {v0 : Option Value} (hv : v0 = some (.int v)) (hdg : decode cc pc = .ok (.ireturn, 1)) : W p l e R s m args below meth c s.heap [] cs sl (MQ below (gR v0) args s cs sl (fun _ => False)) (F0 m pc ls [.int v]) :=
  W.iret hexec hb hr (fun t ht _ => ⟨by rw [hv], ht⟩) (fun q h => by cases h) hdg hlocks
theorem g_zret {v : Int32} {cs sl : Nat} (hexec : p.tables.exec = Jvm.exec) (hb : c.code = cc) (hr : meth.sig.returnType = some .boolean) (hn : narrow .boolean (.int v) = .int v) (hlocks : meth.locks = false) {v0 : Option Value} (hv : v0 = some (.int v)) (hdg : decode cc pc = .ok (.ireturn, 1)) : W p l e R s m args below meth c s.heap [] cs sl (MQ below (gR v0) args s cs sl (fun _ => False)) (F0 m pc ls [.int v]) :=
  W.zret hexec hb hr hn (fun t ht _ => ⟨by rw [hv], ht⟩) (fun q h => by cases h) hdg hlocks
theorem g_lret {v : Int64} {cs sl : Nat} (hexec : p.tables.exec = Jvm.exec) (hb : c.code = cc) (hr : meth.sig.returnType = some .long) (hlocks : meth.locks = false) {v0 : Option Value} (hv : v0 = some (.long v)) (hdg : decode cc pc = .ok (.lreturn, 1)) : W p l e R s m args below meth c s.heap [] cs sl (MQ below (gR v0) args s cs sl (fun _ => False)) (F0 m pc ls [.long v]) :=
  W.lret hexec hb hr (fun t ht _ => ⟨by rw [hv], ht⟩) (fun q h => by cases h) hdg hlocks
theorem g_aret {r : Option Nat} {rt : FieldType} {cs sl : Nat} (hexec : p.tables.exec = Jvm.exec) (hb : c.code = cc) (hr : meth.sig.returnType = some rt) (hrt : ∃ n, rt = .object n) (hlocks : meth.locks = false) {v0 : Option Value} (hv : v0 = some (va_rf r)) (hdg : decode cc pc = .ok (.areturn, 1)) : W p l e R s m args below meth c s.heap [] cs sl (MQ below (gR v0) args s cs sl (fun _ => False)) (F0 m pc ls [va_rf r]) :=
  W.aret hexec hb hr (Or.inl hrt) (va_rf_or r) (fun t ht _ => ⟨by rw [hv], ht⟩) (fun q h => by cases h) hdg hlocks
theorem g_ireM {sz : Nat} {post : Option Value → gK → gF → Prop} {v : Int32} (hexec : p.tables.exec = Jvm.exec) (hb : c.code = cc) (hr : meth.sig.returnType = some .int) (hlocks : meth.locks = false) (hW : gW Γ A s.heap K F H locs) (hp : post (some (.int v)) K F) (hdg : decode cc pc = .ok (.ireturn, 1)) : W p l e R s m args below meth c H locs cells slots (MQ below (gQ Γ A post) args s cells slots A) (F0 m pc ls [.int v]) :=
  W.iret hexec hb hr (fun t ht _ => ⟨_, K, F, rfl, hp, by rw [ht]; exact hW.1, hW.2.2.1, hW.2.1.F ht⟩) hW.2.1.2.2 hdg hlocks
theorem g_vreM {sz : Nat} {post : Option Value → gK → gF → Prop} (hexec : p.tables.exec = Jvm.exec) (hb : c.code = cc) (hr : meth.sig.returnType = none) (hlocks : meth.locks = false) (hW : gW Γ A s.heap K F H locs) (hp : post none K F) (hdg : decode cc pc = .ok (.return_, 1)) : W p l e R s m args below meth c H locs cells slots (MQ below (gQ Γ A post) args s cells slots A) (F0 m pc ls []) :=
  W.vret hexec hb hr (fun t ht _ => ⟨_, K, F, rfl, hp, by rw [ht]; exact hW.1, hW.2.2.1, hW.2.1.F ht⟩) hW.2.1.2.2 hdg hlocks
theorem g_areM {sz : Nat} {post : Option Value → gK → gF → Prop} {r : Option Nat} {rt : FieldType} (hexec : p.tables.exec = Jvm.exec) (hb : c.code = cc) (hr : meth.sig.returnType = some rt) (hrt : ∃ n, rt = .object n) (hlocks : meth.locks = false) (hW : gW Γ A s.heap K F H locs) (hp : post (some (va_rf r)) K F) (hdg : decode cc pc = .ok (.areturn, 1)) : W p l e R s m args below meth c H locs cells slots (MQ below (gQ Γ A post) args s cells slots A) (F0 m pc ls [va_rf r]) :=
  W.aret hexec hb hr (Or.inl hrt) (va_rf_or r) (fun t ht _ => ⟨_, K, F, rfl, hp, by rw [ht]; exact hW.1, hW.2.2.1, hW.2.1.F ht⟩) hW.2.1.2.2 hdg hlocks
theorem g_lreM {sz : Nat} {post : Option Value → gK → gF → Prop} {v : Int64} (hexec : p.tables.exec = Jvm.exec) (hb : c.code = cc) (hr : meth.sig.returnType = some .long) (hlocks : meth.locks = false) (hW : gW Γ A s.heap K F H locs) (hp : post (some (.long v)) K F) (hdg : decode cc pc = .ok (.lreturn, 1)) : W p l e R s m args below meth c H locs cells slots (MQ below (gQ Γ A post) args s cells slots A) (F0 m pc ls [.long v]) :=
  W.lret hexec hb hr (fun t ht _ => ⟨_, K, F, rfl, hp, by rw [ht]; exact hW.1, hW.2.2.1, hW.2.1.F ht⟩) hW.2.1.2.2 hdg hlocks
end GWalk
