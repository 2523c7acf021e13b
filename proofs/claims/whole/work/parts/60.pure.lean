section
variable {α β : Type}
def cMap (f : α → β) (c : cxT α) : cxT β := c.map (fun q => (q.1, f q.2.1, tMap f q.2.2))
theorem cMap_len (f : α → β) (c : cxT α) : (cMap f c).length = c.length := List.length_map _
theorem plug_map (f : α → β) : ∀ (c : cxT α) (t : TT α), tMap f (plug c t) = plug (cMap f c) (tMap f t)
  | [], _ => rfl
  | (b, a, o) :: c, t => by
    show tMap f (plug c _) = plug (cMap f c) _
    rw [plug_map f c]
    cases b <;> rfl
theorem insG_map (f : α → β) {lt : Nat → β → β → Bool} {lt' : Nat → α → α → Bool} (h : ∀ ax x z, lt' ax x z = lt ax (f x) (f z)) (d : Nat) (x : α) : ∀ (t : TT α) (dep : Nat), tMap f (insG lt' d x dep t) = insG lt d (f x) dep (tMap f t) := by
  intro t
  induction t with
  | leaf => intro dep; rfl
  | inner s a v l r ihl ihr =>
    intro dep
    simp only [insG, tMap, h]
    split
    · rw [← ihl]; rfl
    · rw [← ihr]; rfl
theorem leans_map (f : α → β) (l r : TT α) : leans (tMap f l) (tMap f r) = leans l r := by unfold leans; rw [tSz_map, tSz_map]
theorem findG_map (f : α → β) {lt : Nat → β → β → Bool} {lt' : Nat → α → α → Bool} (h : ∀ ax x z, lt' ax x z = lt ax (f x) (f z)) (d : Nat) (x : α) : ∀ (t : TT α) (c : cxT α), findG lt d (f x) (cMap f c) (tMap f t) = (findG lt' d x c t).map (fun q => (cMap f q.1, tMap f q.2)) := by
  intro t
  induction t with
  | leaf => intro c; rfl
  | inner s a v l r ihl ihr =>
    intro c
    simp only [findG, tMap, cMap_len, ← h, ← insG_map f h, leans_map]
    split
    · split
      · rfl
      · exact ihl ((true, a, r) :: c)
    · split
      · rfl
      · exact ihr ((false, a, l) :: c)
theorem bldG_map (f : α → β) {lt : Nat → β → β → Bool} {lt' : Nat → α → α → Bool} (h : ∀ ax x z, lt' ax x z = lt ax (f x) (f z)) (d : Nat) : ∀ (n dep : Nat) (L : List α), tMap f (bldG lt' d n dep L) = bldG lt d n dep (L.map f) := by
  intro n
  induction n with
  | zero => intro dep L; rfl
  | succ n ih =>
    intro dep L
    have e : isort (lt (dep % d)) [] (L.map f) = (isort (lt' (dep % d)) [] L).map f := (isort_map (S := []) f (fun x z _ _ => h (dep % d) x z)).symm
    simp only [bldG, e, List.length_map, ← List.map_drop, ← List.map_take]
    cases (isort (lt' (dep % d)) [] L).drop (L.length / 2) with
    | nil => rfl
    | cons y ys =>
      simp only [List.map_cons]
      rw [← ih, ← ih]
      rfl
theorem filt_map (f : α → β) (dd : β → Bool) (L : List α) : (L.map f).filter (fun b => !dd b) = (L.filter (fun a => !dd (f a))).map f := by
  induction L with
  | nil => rfl
  | cons a L ih =>
    rw [List.map_cons, List.filter_cons, List.filter_cons]
    cases dd (f a) <;> simp [ih]
theorem putG_map (f : α → β) {lt : Nat → β → β → Bool} {lt' : Nat → α → α → Bool} (h : ∀ ax x z, lt' ax x z = lt ax (f x) (f z)) (dd : β → Bool) (d : Nat) (x : α) (t : TT α) : putG lt dd d (f x) (tMap f t) = (tMap f (putG lt' (fun a => dd (f a)) d x t).1, (putG lt' (fun a => dd (f a)) d x t).2) := by
  have e := findG_map f h d x t []
  have e : findG lt d (f x) [] (tMap f t) = _ := e
  unfold putG
  rw [e]
  cases findG lt' d x [] t with
  | none => simp only [Option.map_none]; rw [insG_map f h]
  | some q =>
    obtain ⟨c, s⟩ := q
    simp only [Option.map_some]
    rw [cMap_len, tPre_map, filt_map, ← bldG_map f h, ← plug_map, List.length_map]
theorem dropG_map (f : α → β) {lt : Nat → β → β → Bool} {lt' : Nat → α → α → Bool} (h : ∀ ax x z, lt' ax x z = lt ax (f x) (f z)) (dd : β → Bool) (d lc : Nat) (t : TT α) : dropG lt dd d lc (tMap f t) = (tMap f (dropG lt' (fun a => dd (f a)) d lc t).1, (dropG lt' (fun a => dd (f a)) d lc t).2) := by
  unfold dropG
  rw [tSz_map, tPre_map, filt_map, ← bldG_map f h, List.length_map]
  split <;> rfl
theorem locG_map (f : α → β) (P : β → Bool) : ∀ (t : TT α) (c : cxT α), locG P (tMap f t) (cMap f c) = (locG (fun a => P (f a)) t c).map (fun q => (cMap f q.1, tMap f q.2.1, tMap f q.2.2)) := by
  intro t
  induction t with
  | leaf => intro c; rfl
  | inner s a v l r ihl ihr =>
    intro c
    have e1 := ihl ((true, a, r) :: c)
    have e2 := ihr ((false, a, l) :: c)
    have e1 : locG P (tMap f l) ((true, f a, tMap f r) :: cMap f c) = _ := e1
    have e2 : locG P (tMap f r) ((false, f a, tMap f l) :: cMap f c) = _ := e2
    simp only [locG, tMap, e1, e2]
    split
    · rfl
    · cases locG (fun a => P (f a)) l ((true, a, r) :: c) <;> rfl
/-- a way down: at each node the side that the new one takes -/
def DP (g : Nat → α → Bool) (d : Nat) : cxT α → Prop
  | [] => True
  | (b, a, _) :: c => b = g (c.length % d) a ∧ DP g d c
theorem insG_DP {lt : Nat → α → α → Bool} {d : Nat} {x : α} : ∀ {c : cxT α} {t : TT α}, DP (fun ax a => lt ax x a) d c → insG lt d x 0 (plug c t) = plug c (insG lt d x c.length t)
  | [], _, _ => rfl
  | (b, a, o) :: c, t, h => by
    show insG lt d x 0 (plug c _) = plug c _
    rw [insG_DP (c := c) h.2]
    have hb : b = lt (c.length % d) x a := h.1
    cases b with
    | true => show plug c (insG lt d x c.length (tN t a o)) = _; rw [insG, if_pos hb.symm]; rfl
    | false => show plug c (insG lt d x c.length (tN o a t)) = _; rw [insG, if_neg (by rw [← hb]; decide)]; rfl
end
