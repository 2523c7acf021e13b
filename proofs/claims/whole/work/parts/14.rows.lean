/-! rows that hold lists; putting in from the right; sorting; building -/
theorem inc1 (t : Nat) : nI t + Int32.ofInt 1 = nI (t + 1) := nI_1 t
theorem dec1s (t : Nat) : nI (t + 1) + Int32.ofInt (-1) = nI t := pk_m1 t
theorem dec1 {t : Nat} (h : 0 < t) : nI t + Int32.ofInt (-1) = nI (t - 1) := by
  obtain ⟨k, rfl⟩ : ∃ k, t = k + 1 := ⟨t - 1, by omega⟩
  exact pk_m1 k
theorem incn (t n : Nat) : nI t + Int32.ofInt (n : Int) = nI (t + n) := by
  rw [show Int32.ofInt (n : Int) = nI n from rfl]
  exact nI_add t n
theorem nI_eq0 {a : Nat} (h : a < 2 ^ 31) : nI a = 0 ↔ a = 0 := by
  rw [← nI_0]
  exact nI_eq h (by decide)
theorem nI_le0 {a : Nat} (h : a < 2 ^ 31) : nI a ≤ 0 ↔ a = 0 := by
  rw [← nI_0, nI_leI h (by decide)]
  omega
theorem nI_gt0 {a : Nat} (h : a < 2 ^ 31) : 0 < nI a ↔ 0 < a := by
  rw [← nI_0]
  exact nI_ltI (by decide) h
theorem mx_max {a b : Nat} (ha : a < 2 ^ 20) (hb : b < 2 ^ 20) : (if nI a < nI b then nI b else nI a) = nI (max a b) := by
  by_cases h : a < b
  · rw [if_pos ((nI_ltI (by omega) (by omega)).mpr h), Nat.max_eq_right (by omega)]
  · rw [if_neg (fun z => h ((nI_ltI (by omega) (by omega)).mp z)), Nat.max_eq_left (by omega)]
theorem mx_min {a b : Nat} (ha : a < 2 ^ 20) (hb : b < 2 ^ 20) : (if nI b < nI a then nI b else nI a) = nI (min a b) := by
  by_cases h : b < a
  · rw [if_pos ((nI_ltI (by omega) (by omega)).mpr h), Nat.min_eq_right (by omega)]
  · rw [if_neg (fun z => h ((nI_ltI (by omega) (by omega)).mp z)), Nat.min_eq_left (by omega)]
def rowL (F : gF) (a o : Nat) (L : List Value) : Prop := ∀ (j : Nat) (v : Value), L[j]? = some v → F a (o + j) = v
theorem rowL.nil {F : gF} {a o : Nat} : rowL F a o [] := fun j v h => by simp at h
theorem rowL.keep {F F' : gF} {a o : Nat} {L : List Value} (h : rowL F a o L) (hF : ∀ j, o ≤ j → j < o + L.length → F' a j = F a j) : rowL F' a o L := by
  intro j v hj
  rw [hF (o + j) (by omega) (by have := (List.getElem?_eq_some_iff.mp hj).1; omega)]
  exact h j v hj
theorem rowL.up {F : gF} {a o b i : Nat} {v : Value} {L : List Value} (h : rowL F a o L) (hn : b ≠ a ∨ i < o ∨ o + L.length ≤ i) : rowL (gU F b i v) a o L := by
  refine h.keep (fun j h1 h2 => gU_ne (fun q => ?_))
  rcases hn with q1 | q1 | q1
  · exact q1 q.1.symm
  · omega
  · omega
theorem rowL.left {F : gF} {a o : Nat} {P Q : List Value} (h : rowL F a o (P ++ Q)) : rowL F a o P := fun j v hj => h j v (by
  have := (List.getElem?_eq_some_iff.mp hj).1
  rw [List.getElem?_append_left this]; exact hj)
theorem rowL.right {F : gF} {a o : Nat} {P Q : List Value} (h : rowL F a o (P ++ Q)) : rowL F a (o + P.length) Q := fun j v hj => by
  have := h (P.length + j) v (by rw [List.getElem?_append_right (by omega), show P.length + j - P.length = j by omega]; exact hj)
  rw [Nat.add_assoc]; exact this
theorem rowL.app {F : gF} {a o : Nat} {P Q : List Value} (hP : rowL F a o P) (hQ : rowL F a (o + P.length) Q) : rowL F a o (P ++ Q) := fun j v hj => by
  rcases Nat.lt_or_ge j P.length with q | q
  · rw [List.getElem?_append_left q] at hj
    exact hP j v hj
  · rw [List.getElem?_append_right q] at hj
    have := hQ (j - P.length) v hj
    rw [show o + P.length + (j - P.length) = o + j by omega] at this
    exact this
theorem rowL.cons {F : gF} {a o : Nat} {v : Value} {L : List Value} (h0 : F a o = v) (h : rowL F a (o + 1) L) : rowL F a o (v :: L) := fun j w hj => by
  cases j with
  | zero => simp at hj; rw [← hj]; exact h0
  | succ j => rw [show o + (j + 1) = o + 1 + j by omega]; exact h j w (by simpa using hj)
theorem rowL.head {F : gF} {a o : Nat} {v : Value} {L : List Value} (h : rowL F a o (v :: L)) : F a o = v := h 0 v rfl
theorem rowL.tail {F : gF} {a o : Nat} {v : Value} {L : List Value} (h : rowL F a o (v :: L)) : rowL F a (o + 1) L := fun j w hj => by
  rw [show o + 1 + j = o + (j + 1) by omega]; exact h (j + 1) w (by simpa using hj)
theorem rowL.last {F : gF} {a o : Nat} {v : Value} {P : List Value} (h : rowL F a o (P ++ [v])) : F a (o + P.length) = v := h.right.head
/-- the hole goes one down -/
theorem rowL.shift {F : gF} {a o : Nat} {v : Value} {P Q : List Value} (hP : rowL F a o (P ++ [v])) (hQ : rowL F a (o + (P.length + 1) + 1) Q) : rowL (gU F a (o + (P.length + 1)) v) a o P ∧ rowL (gU F a (o + (P.length + 1)) v) a (o + P.length + 1) (v :: Q) := by
  refine ⟨hP.left.up (Or.inr (Or.inr (by omega))), rowL.cons (by rw [Nat.add_assoc]; exact gU_self) ?_⟩
  exact rowL.up (by rw [show o + P.length + 1 + 1 = o + (P.length + 1) + 1 by omega]; exact hQ) (Or.inr (Or.inl (by omega)))
theorem rowL.fill {F : gF} {a o : Nat} {v : Value} {P Q : List Value} (hP : rowL F a o P) (hQ : rowL F a (o + P.length + 1) Q) : rowL (gU F a (o + P.length) v) a o (P ++ v :: Q) := by
  refine rowL.app (hP.up (Or.inr (Or.inr (by omega)))) (rowL.cons gU_self (hQ.up (Or.inr (Or.inl (by omega)))))
section Ins
variable {α β : Type}
def insR (lt : α → α → Bool) (x : α) : List α → List α
  | [] => [x]
  | y :: ys => if (y :: ys).all (lt x) then x :: y :: ys else y :: insR lt x ys
theorem insR_all {lt : α → α → Bool} {x : α} {Q : List α} (h : ∀ q ∈ Q, lt x q = true) : insR lt x Q = x :: Q := by
  cases Q with
  | nil => rfl
  | cons y ys => rw [insR, if_pos (List.all_eq_true.mpr h)]
theorem insR_eq {lt : α → α → Bool} {x z : α} {P Q : List α} (h : ∀ q ∈ Q, lt x q = true) (hz : lt x z = false) : insR lt x (P ++ [z] ++ Q) = P ++ [z] ++ x :: Q := by
  induction P with
  | nil =>
    show insR lt x (z :: Q) = _
    rw [insR, if_neg (fun q => by simp [hz] at q), insR_all h]
    rfl
  | cons y P ih =>
    show insR lt x (y :: (P ++ [z] ++ Q)) = _
    rw [insR, if_neg (fun q => by
      have := List.all_eq_true.mp q z (by simp)
      rw [hz] at this; cases this), ih]
    rfl
theorem insR_len (lt : α → α → Bool) (x : α) (S : List α) : (insR lt x S).length = S.length + 1 := by
  induction S with
  | nil => rfl
  | cons y ys ih =>
    unfold insR
    split
    · rfl
    · simp [ih]
theorem insR_mem {lt : α → α → Bool} {x z : α} {S : List α} : z ∈ insR lt x S ↔ z = x ∨ z ∈ S := by
  induction S with
  | nil => simp [insR]
  | cons y ys ih =>
    unfold insR
    split
    · simp
    · simp only [List.mem_cons, ih]
      constructor
      · rintro (h | h | h) <;> simp [h]
      · rintro (h | h | h) <;> simp [h]
theorem insR_perm (lt : α → α → Bool) (x : α) (S : List α) : (insR lt x S).Perm (x :: S) := by
  induction S with
  | nil => exact List.Perm.refl _
  | cons y ys ih =>
    unfold insR
    split
    · exact List.Perm.refl _
    · exact (List.Perm.cons y ih).trans (List.Perm.swap x y ys)
theorem insR_map (f : α → β) {lt : β → β → Bool} {lt' : α → α → Bool} {x : α} {S : List α} (h : ∀ z ∈ S, lt' x z = lt (f x) (f z)) : (insR lt' x S).map f = insR lt (f x) (S.map f) := by
  induction S with
  | nil => rfl
  | cons y ys ih =>
    have e : (y :: ys).all (lt' x) = (f y :: ys.map f).all (lt (f x)) := by
      rw [Bool.eq_iff_iff, List.all_eq_true, List.all_eq_true]
      constructor
      · intro q z hz
        obtain ⟨w, hw, rfl⟩ := List.mem_map.mp (show z ∈ (y :: ys).map f from hz)
        rw [← h w hw]; exact q w hw
      · intro q z hz
        rw [h z hz]; exact q (f z) (show f z ∈ (y :: ys).map f from List.mem_map.mpr ⟨z, hz, rfl⟩)
    show (insR lt' x (y :: ys)).map f = insR lt (f x) (f y :: ys.map f)
    rw [insR, insR, ← e]
    by_cases q : (y :: ys).all (lt' x) = true
    · rw [if_pos q, if_pos q]; rfl
    · rw [if_neg q, if_neg q, List.map_cons, ih (fun z hz => h z (List.mem_cons_of_mem _ hz))]
/-- sorted by putting in one after the other -/
def isort (lt : α → α → Bool) (S : List α) : List α → List α
  | [] => S
  | x :: xs => isort lt (insR lt x S) xs
theorem isort_snoc (lt : α → α → Bool) (x : α) : ∀ (L S : List α), isort lt S (L ++ [x]) = insR lt x (isort lt S L)
  | [], _ => rfl
  | _ :: L, _ => isort_snoc lt x L _
theorem isort_perm (lt : α → α → Bool) : ∀ (L S : List α), (isort lt S L).Perm (S ++ L)
  | [], S => by rw [List.append_nil]; exact List.Perm.refl _
  | x :: xs, S => by
    refine (isort_perm lt xs (insR lt x S)).trans ?_
    refine ((insR_perm lt x S).append_right xs).trans ?_
    exact List.perm_middle.symm
theorem isort_len (lt : α → α → Bool) (L S : List α) : (isort lt S L).length = S.length + L.length := by
  rw [(isort_perm lt L S).length_eq, List.length_append]
theorem isort_mem {lt : α → α → Bool} {L S : List α} {z : α} : z ∈ isort lt S L ↔ z ∈ S ∨ z ∈ L := by
  rw [(isort_perm lt L S).mem_iff, List.mem_append]
theorem isort_map (f : α → β) {lt : β → β → Bool} {lt' : α → α → Bool} : ∀ {L S : List α}, (∀ x z, x ∈ S ∨ x ∈ L → z ∈ S ∨ z ∈ L → lt' x z = lt (f x) (f z)) → (isort lt' S L).map f = isort lt (S.map f) (L.map f)
  | [], _, _ => rfl
  | x :: xs, S, h => by
    show (isort lt' (insR lt' x S) xs).map f = isort lt (insR lt (f x) (S.map f)) (xs.map f)
    rw [← insR_map f (fun z hz => h x z (Or.inr List.mem_cons_self) (Or.inl hz))]
    refine isort_map f (fun a b ha hb => h a b ?_ ?_)
    · rcases ha with q | q
      · rcases insR_mem.mp q with q | q
        · exact Or.inr (by rw [q]; exact List.mem_cons_self)
        · exact Or.inl q
      · exact Or.inr (List.mem_cons_of_mem _ q)
    · rcases hb with q | q
      · rcases insR_mem.mp q with q | q
        · exact Or.inr (by rw [q]; exact List.mem_cons_self)
        · exact Or.inl q
      · exact Or.inr (List.mem_cons_of_mem _ q)
end Ins
