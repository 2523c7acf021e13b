/-! pure words: numbers, points, trees -/
def bI (b : Bool) : Int32 := if b then 1 else 0
theorem bI_nar (b : Bool) : narrow .boolean (.int (bI b)) = .int (bI b) := by cases b <;> rfl
theorem bI_fit (b : Bool) : fits .boolean (.int (bI b)) = true := by cases b <;> rfl
theorem bI_0 {b : Bool} : bI b = 0 ↔ b = false := by cases b <;> decide
theorem bI_n0 {b : Bool} : ¬ bI b = 0 ↔ b = true := by cases b <;> decide
theorem bI_t : bI true = 1 := rfl
theorem bI_f : bI false = 0 := rfl
theorem bI_t' : nI 1 = bI true := by decide
theorem bI_f' : nI 0 = bI false := by decide
theorem va_rf_cat (r : Option Nat) : (va_rf r).category = 1 := by cases r <;> rfl
theorem va_rf_nar (C : String) (r : Option Nat) : narrow (.object C) (va_rf r) = va_rf r := by cases r <;> rfl
theorem va_rf_fit (C : String) (r : Option Nat) : fits (.object C) (va_rf r) = true := by cases r <;> rfl
/-- a point: its ID and its numbers -/
abbrev gPt : Type := Nat × (Nat → Int32)
def pLess (a : Nat) (x y : gPt) : Bool := decide (x.2 a < y.2 a ∨ (x.2 a = y.2 a ∧ x.1 < y.1))
def sqI (x : Int32) : Int64 := x.toInt64 * x.toInt64
def pDist (x y : Nat → Int32) : Int64 := sqI (x 0 - y 0) + sqI (x 1 - y 1) + sqI (x 2 - y 2) + sqI (x 3 - y 3)
/-- binary trees -/
abbrev TT (α : Type) : Type := Std.DTreeMap.Internal.Impl α (fun _ => Unit)
abbrev tL {α : Type} : TT α := .leaf
abbrev tN {α : Type} (l : TT α) (x : α) (r : TT α) : TT α := .inner 0 x () l r
def tSz {α : Type} : TT α → Nat
  | .leaf => 0
  | .inner _ _ _ l r => tSz l + tSz r + 1
def tPre {α : Type} : TT α → List α
  | .leaf => []
  | .inner _ x _ l r => x :: (tPre l ++ tPre r)
def tRt {α : Type} : TT α → Option α
  | .leaf => none
  | .inner _ x _ _ _ => some x
def tMap {α β : Type} (f : α → β) : TT α → TT β
  | .leaf => .leaf
  | .inner _ x _ l r => tN (tMap f l) (f x) (tMap f r)
theorem tPre_len {α : Type} (t : TT α) : (tPre t).length = tSz t := by
  induction t with
  | leaf => rfl
  | inner s x v l r ihl ihr => simp only [tPre, tSz, List.length_cons, List.length_append, ihl, ihr]
theorem tSz_map {α β : Type} (f : α → β) (t : TT α) : tSz (tMap f t) = tSz t := by
  induction t with
  | leaf => rfl
  | inner s x v l r ihl ihr => simp only [tMap, tSz, ihl, ihr]
theorem tPre_map {α β : Type} (f : α → β) (t : TT α) : tPre (tMap f t) = (tPre t).map f := by
  induction t with
  | leaf => rfl
  | inner s x v l r ihl ihr => simp only [tMap, tPre, ihl, ihr, List.map_cons, List.map_append]
theorem tMap_map {α β γ : Type} (f : α → β) (g : β → γ) (t : TT α) : tMap g (tMap f t) = tMap (fun x => g (f x)) t := by
  induction t with
  | leaf => rfl
  | inner s x v l r ihl ihr => simp only [tMap, ihl, ihr]
theorem tMap_congr {α β : Type} {f g : α → β} {t : TT α} (h : ∀ x ∈ tPre t, f x = g x) : tMap f t = tMap g t := by
  induction t with
  | leaf => rfl
  | inner s x v l r ihl ihr =>
    simp only [tPre, List.mem_cons, List.mem_append] at h
    simp only [tMap, h x (Or.inl rfl), ihl (fun y hy => h y (Or.inr (Or.inl hy))), ihr (fun y hy => h y (Or.inr (Or.inr hy)))]
/-- what a Node's own cells say: itself, its Place, its point -/
def ndD (K : gK) (F : gF) (a pl : Nat) (x : gPt) : Prop := K a = some (2, 0) ∧ K pl = some (3, 0) ∧ F a 0 = .int (nI x.1) ∧ F a 1 = .ref pl ∧ (∀ i, i < 4 → F pl i = .int (x.2 i)) ∧ x.1 < 100
section GNum
variable {p : Program} {l : Launch} {e : Env} {R : Room} {s : State} {m : MethodId} {args : Array Value} {below : List Frame} {meth : Method} {c : Code} {H : Heap} {locs : List Loc} {cells slots : Nat} {Q : State → Prop}
variable {cc : ByteArray} {pc : Nat} {ls : Array Slot} {rest : List Value}
/-- an int that is said by cases -/
theorem g_ifnum {x : Int32} {P : Prop} (h : P) (k : P → W p l e R s m args below meth c H locs cells slots Q (F0 m pc ls (.int x :: rest))) : W p l e R s m args below meth c H locs cells slots Q (F0 m pc ls (.int x :: rest)) := k h
end GNum
