/-! the reference: its arrays by the number of their field -/
def mKd (j : Nat) : Option (Nat × Nat) :=
  if j = 2 ∨ j = 23 ∨ j = 30 then some (10, 100) else if j = 3 then some (8, 400) else if j = 4 ∨ j = 19 ∨ j = 20 ∨ j = 21 ∨ j = 22 ∨ j = 25 then some (8, 100)
  else if j = 6 ∨ j = 9 ∨ j = 29 then some (10, 140) else if j = 7 ∨ j = 10 ∨ j = 11 ∨ j = 12 ∨ j = 17 ∨ j = 18 then some (8, 140) else if j = 8 then some (8, 560) else if j = 24 then some (8, 4) else if j = 26 then some (9, 100) else none
def MKk (K : gK) (m : Nat) (B : Nat → Nat) : Prop := K m = some (7, 0) ∧ (∀ j kd, mKd j = some kd → K (B j) = some kd) ∧ ∀ i j, (mKd i).isSome = true → (mKd j).isSome = true → B i = B j → i = j
def MKf (F : gF) (m : Nat) (B : Nat → Nat) : Prop := ∀ j, (mKd j).isSome = true → F m j = .ref (B j)
theorem MKk.ne {K : gK} {m : Nat} {B : Nat → Nat} (h : MKk K m B) {i j : Nat} (hi : (mKd i).isSome = true) (hj : (mKd j).isSome = true) (hij : i ≠ j) : B i ≠ B j := fun e => hij (h.2.2 i j hi hj e)
theorem MKk.nm {K : gK} {m : Nat} {B : Nat → Nat} (h : MKk K m B) {i : Nat} (hi : (mKd i).isSome = true) : B i ≠ m := fun e => by
  obtain ⟨kd, hk⟩ := Option.isSome_iff_exists.mp hi
  have q := h.2.1 i kd hk
  rw [e, h.1] at q
  have q := Option.some.inj q
  rw [← q] at hk
  unfold mKd at hk
  repeat' (split at hk)
  all_goals first | cases hk | (have hk := congrArg (fun o => (o.getD (0, 0)).1) hk; exact absurd hk (by decide))
theorem MKf.up {F F' : gF} {m : Nat} {B : Nat → Nat} (h : MKf F m B) (hf : ∀ j, (mKd j).isSome = true → F' m j = F m j) : MKf F' m B := fun j hj => (hf j hj).trans (h j hj)
/-- -1, or an index -/
def oI : Option Nat → Int32
  | none => -1
  | some n => nI n
theorem oI_n {n : Nat} (h : n < 2 ^ 31) : nI n ≠ -1 := fun e => by
  have e := congrArg Int32.toInt e
  rw [nI_toInt h, show (-1 : Int32).toInt = -1 from by decide] at e
  omega
theorem oI_none {r : Option Nat} (hr : ∀ n, r = some n → n < 2 ^ 31) : oI r = -1 ↔ r = none := by
  cases r with
  | none => exact ⟨fun _ => rfl, fun _ => rfl⟩
  | some n => exact ⟨fun e => absurd e (oI_n (hr n rfl)), fun e => by cases e⟩
/-- labels of the reference's nodes: index, point, dead -/
abbrev gLb : Type := gPt × Bool
abbrev mLb : Type := Nat × gLb
abbrev rtI (t : TT mLb) : Option Nat := (tRt t).map (fun y => y.1)
def RXn (F : gF) (B : Nat → Nat) (n : Nat) (y : gLb) (up : Option Nat) (l r : Option Nat) : Prop := n < 140 ∧ y.1.1 < 100 ∧ F (B 7) n = .int (nI y.1.1) ∧ (∀ a, a < 4 → F (B 8) (4 * n + a) = .int (y.1.2 a)) ∧ F (B 9) n = .int (bI (!y.2)) ∧ F (B 10) n = .int (oI l) ∧ F (B 11) n = .int (oI r) ∧ F (B 12) n = .int (oI up)
def RX (F : gF) (B : Nat → Nat) : TT mLb → Option Nat → Prop
  | .leaf, _ => True
  | .inner _ y _ l r, up => RXn F B y.1 y.2 up (rtI l) (rtI r) ∧ RX F B l (some y.1) ∧ RX F B r (some y.1)
def CX (F : gF) (B : Nat → Nat) (m : Nat) : cxT mLb → Option Nat → Prop
  | [], r => F m 13 = .int (oI r)
  | (b, y, o) :: c, r => RXn F B y.1 y.2 ((cTop c).map (fun y => y.1)) (if b then r else rtI o) (if b then rtI o else r) ∧ RX F B o (some y.1) ∧ CX F B m c (some y.1)
abbrev cTI (c : cxT mLb) : Option Nat := (cTop c).map (fun y => y.1)
theorem RXn_congr {F F' : gF} {B : Nat → Nat} {n : Nat} {y : gLb} {up l r : Option Nat} (h : ∀ j i, 7 ≤ j → j ≤ 12 → ((j ≠ 8 ∧ i = n) ∨ (j = 8 ∧ 4 * n ≤ i ∧ i < 4 * n + 4)) → F' (B j) i = F (B j) i) (H : RXn F B n y up l r) : RXn F' B n y up l r := by
  obtain ⟨a1, a2, a3, a4, a5, a6, a7, a8⟩ := H
  exact ⟨a1, a2, (h 7 n (by decide) (by decide) (Or.inl ⟨by decide, rfl⟩)).trans a3, fun a ha => (h 8 _ (by decide) (by decide) (Or.inr ⟨rfl, by omega, by omega⟩)).trans (a4 a ha), (h 9 n (by decide) (by decide) (Or.inl ⟨by decide, rfl⟩)).trans a5, (h 10 n (by decide) (by decide) (Or.inl ⟨by decide, rfl⟩)).trans a6, (h 11 n (by decide) (by decide) (Or.inl ⟨by decide, rfl⟩)).trans a7, (h 12 n (by decide) (by decide) (Or.inl ⟨by decide, rfl⟩)).trans a8⟩
def ixT (t : TT mLb) : List Nat := (tPre t).map (fun y => y.1)
def ixC (c : cxT mLb) : List Nat := (cAd c).map (fun y => y.1)
def kpN (F F' : gF) (B : Nat → Nat) (n : Nat) : Prop := ∀ j i, 7 ≤ j → j ≤ 12 → ((j ≠ 8 ∧ i = n) ∨ (j = 8 ∧ 4 * n ≤ i ∧ i < 4 * n + 4)) → F' (B j) i = F (B j) i
theorem RX_congr {F F' : gF} {B : Nat → Nat} : ∀ {t : TT mLb} {up : Option Nat}, (∀ n ∈ ixT t, kpN F F' B n) → RX F B t up → RX F' B t up := by
  intro t
  induction t with
  | leaf => intro _ _ _; trivial
  | inner s y v l r ihl ihr =>
    intro up h H
    refine ⟨RXn_congr (h y.1 (List.mem_map.mpr ⟨y, List.mem_cons_self, rfl⟩)) H.1, ihl (fun n hn => ?_) H.2.1, ihr (fun n hn => ?_) H.2.2⟩
    · obtain ⟨z, hz, rfl⟩ := List.mem_map.mp hn
      exact h _ (List.mem_map.mpr ⟨z, List.mem_cons_of_mem _ (List.mem_append_left _ hz), rfl⟩)
    · obtain ⟨z, hz, rfl⟩ := List.mem_map.mp hn
      exact h _ (List.mem_map.mpr ⟨z, List.mem_cons_of_mem _ (List.mem_append_right _ hz), rfl⟩)
theorem CX_congr {F F' : gF} {B : Nat → Nat} {m : Nat} : ∀ {c : cxT mLb} {r : Option Nat}, (∀ n ∈ ixC c, kpN F F' B n) → F' m 13 = F m 13 → CX F B m c r → CX F' B m c r
  | [], _, _, h13, H => h13.trans H
  | (b, y, o) :: c, r, h, h13, H => ⟨RXn_congr (h y.1 (List.mem_map.mpr ⟨y, List.mem_cons_self, rfl⟩)) H.1, RX_congr (fun n hn => by
      obtain ⟨z, hz, rfl⟩ := List.mem_map.mp hn
      exact h _ (List.mem_map.mpr ⟨z, List.mem_cons_of_mem _ (List.mem_append_left _ hz), rfl⟩)) H.2.1, CX_congr (fun n hn => by
      obtain ⟨z, hz, rfl⟩ := List.mem_map.mp hn
      exact h _ (List.mem_map.mpr ⟨z, List.mem_cons_of_mem _ (List.mem_append_right _ hz), rfl⟩)) h13 H.2.2⟩
theorem RX_plug {F : gF} {B : Nat → Nat} {m : Nat} : ∀ {c : cxT mLb} {t : TT mLb}, (RX F B (plug c t) none ∧ F m 13 = .int (oI (rtI (plug c t)))) ↔ (RX F B t (cTI c) ∧ CX F B m c (rtI t))
  | [], t => Iff.rfl
  | (b, y, o) :: c, t => by
    show (RX F B (plug c _) none ∧ F m 13 = .int (oI (rtI (plug c _)))) ↔ _
    rw [RX_plug (c := c)]
    cases b
    · exact ⟨fun h => ⟨h.1.2.2, h.1.1, h.1.2.1, h.2⟩, fun h => ⟨⟨h.2.1, h.2.2.1, h.1⟩, h.2.2.2⟩⟩
    · exact ⟨fun h => ⟨h.1.2.1, h.1.1, h.1.2.2, h.2⟩, fun h => ⟨⟨h.2.1, h.1, h.2.2.1⟩, h.2.2.2⟩⟩
