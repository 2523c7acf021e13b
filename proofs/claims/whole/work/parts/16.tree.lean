/-! trees with a hole, and the class's tree in its cells -/
section TreeP
variable {α β : Type}
abbrev cxT (α : Type) : Type := List (Bool × α × TT α)
def plug : cxT α → TT α → TT α
  | [], t => t
  | (b, a, o) :: c, t => plug c (if b then tN t a o else tN o a t)
def cTop : cxT α → Option α
  | [] => none
  | (_, a, _) :: _ => some a
def cAd : cxT α → List α
  | [] => []
  | (_, a, o) :: c => a :: (tPre o ++ cAd c)
def cPath : cxT α → List α
  | [] => []
  | (_, a, _) :: c => a :: cPath c
theorem cPath_sub : ∀ {c : cxT α} {a : α}, a ∈ cPath c → a ∈ cAd c
  | [], _, h => h
  | (_, a, o) :: c, x, h => by
    rcases List.mem_cons.mp h with h | h
    · rw [h]; exact List.mem_cons_self
    · exact List.mem_cons_of_mem _ (List.mem_append_right _ (cPath_sub h))
theorem cPath_len : ∀ (c : cxT α), (cPath c).length = c.length
  | [] => rfl
  | (_, _, _) :: c => by simp [cPath, cPath_len c]
theorem plug_perm : ∀ (c : cxT α) (t : TT α), (tPre (plug c t)).Perm (tPre t ++ cAd c)
  | [], t => by simp [plug, cAd]
  | (b, a, o) :: c, t => by
    refine (plug_perm c _).trans ?_
    cases b
    · show (a :: (tPre o ++ tPre t) ++ cAd c).Perm (tPre t ++ a :: (tPre o ++ cAd c))
      refine List.Perm.trans ?_ List.perm_middle.symm
      refine List.Perm.cons a ?_
      rw [← List.append_assoc]
      exact List.Perm.append_right _ List.perm_append_comm
    · show (a :: (tPre t ++ tPre o) ++ cAd c).Perm (tPre t ++ a :: (tPre o ++ cAd c))
      refine List.Perm.trans ?_ List.perm_middle.symm
      refine List.Perm.cons a ?_
      show ((tPre t ++ tPre o) ++ cAd c).Perm (tPre t ++ (tPre o ++ cAd c))
      rw [List.append_assoc]
theorem plug_sz (c : cxT α) (t : TT α) : tSz (plug c t) = tSz t + (cAd c).length := by
  rw [← tPre_len, (plug_perm c t).length_eq, List.length_append, tPre_len]
theorem cAd_len (c : cxT α) : c.length ≤ (cAd c).length := by
  induction c with
  | nil => exact Nat.le_refl _
  | cons q c ih =>
    obtain ⟨b, a, o⟩ := q
    simp only [cAd, List.length_cons, List.length_append]
    omega
def insG (lt : Nat → α → α → Bool) (d : Nat) (x : α) : Nat → TT α → TT α
  | _, .leaf => tN tL x tL
  | dep, .inner _ a _ l r => if lt (dep % d) x a then tN (insG lt d x (dep + 1) l) a r else tN l a (insG lt d x (dep + 1) r)
def leans (l r : TT α) : Bool := decide ((tSz l + tSz r + 1) * 2 < max (tSz l) (tSz r) * 3)
def findG (lt : Nat → α → α → Bool) (d : Nat) (x : α) : cxT α → TT α → Option (cxT α × TT α)
  | _, .leaf => none
  | c, .inner _ a _ l r =>
    if lt (c.length % d) x a then
      if leans (insG lt d x (c.length + 1) l) r then some (c, tN (insG lt d x (c.length + 1) l) a r) else findG lt d x ((true, a, r) :: c) l
    else
      if leans l (insG lt d x (c.length + 1) r) then some (c, tN l a (insG lt d x (c.length + 1) r)) else findG lt d x ((false, a, l) :: c) r
def bldG (lt : Nat → α → α → Bool) (d : Nat) : Nat → Nat → List α → TT α
  | 0, _, _ => tL
  | n + 1, dep, L => match (isort (lt (dep % d)) [] L).drop (L.length / 2) with
    | [] => tL
    | y :: ys => tN (bldG lt d n (dep + 1) ((isort (lt (dep % d)) [] L).take (L.length / 2))) y (bldG lt d n (dep + 1) ys)
theorem insG_perm (lt : Nat → α → α → Bool) (d : Nat) (x : α) : ∀ (t : TT α) (dep : Nat), (tPre (insG lt d x dep t)).Perm (x :: tPre t) := by
  intro t
  induction t with
  | leaf => intro dep; exact List.Perm.refl _
  | inner s a v l r ihl ihr =>
    intro dep
    unfold insG
    split
    · show (a :: (tPre (insG lt d x (dep + 1) l) ++ tPre r)).Perm (x :: a :: (tPre l ++ tPre r))
      exact (List.Perm.cons a ((ihl (dep + 1)).append_right (tPre r))).trans (List.Perm.swap x a _)
    · show (a :: (tPre l ++ tPre (insG lt d x (dep + 1) r))).Perm (x :: a :: (tPre l ++ tPre r))
      exact (List.Perm.cons a (((ihr (dep + 1)).append_left (tPre l)).trans List.perm_middle)).trans (List.Perm.swap x a _)
theorem insG_sz (lt : Nat → α → α → Bool) (d : Nat) (x : α) (t : TT α) (dep : Nat) : tSz (insG lt d x dep t) = tSz t + 1 := by
  rw [← tPre_len, (insG_perm lt d x t dep).length_eq, List.length_cons, tPre_len]
theorem bldG_perm (lt : Nat → α → α → Bool) (d : Nat) : ∀ (n dep : Nat) (L : List α), L.length ≤ n → (tPre (bldG lt d n dep L)).Perm L := by
  intro n
  induction n with
  | zero =>
    intro dep L h
    rw [List.length_eq_zero_iff.mp (Nat.le_zero.mp h)]
    exact List.Perm.refl _
  | succ n ih =>
    intro dep L h
    have hp := isort_perm (lt (dep % d)) L []
    rw [List.nil_append] at hp
    unfold bldG
    have hlen : (isort (lt (dep % d)) [] L).length = L.length := hp.length_eq
    split
    · next hd =>
      have : (isort (lt (dep % d)) [] L).length ≤ L.length / 2 := List.drop_eq_nil_iff.mp hd
      have h0 : L.length = 0 := by omega
      rw [List.length_eq_zero_iff.mp h0]
      exact List.Perm.refl _
    · next y ys hd =>
      have hl2 : ys.length + 1 = L.length - L.length / 2 := by
        have := congrArg List.length hd
        rw [List.length_drop, hlen, List.length_cons] at this
        omega
      show (y :: (tPre (bldG lt d n (dep + 1) _) ++ tPre (bldG lt d n (dep + 1) ys))).Perm L
      refine (List.Perm.cons y ((ih (dep + 1) _ ?_).append (ih (dep + 1) ys ?_))).trans ?_
      · rw [List.length_take, hlen]; omega
      · omega
      · refine List.perm_middle.symm.trans ?_
        rw [← hd, List.take_append_drop]
        exact hp
theorem bldG_sz (lt : Nat → α → α → Bool) (d n dep : Nat) (L : List α) (h : L.length ≤ n) : tSz (bldG lt d n dep L) = L.length := by
  rw [← tPre_len, (bldG_perm lt d n dep L h).length_eq]
theorem findG_plug (lt : Nat → α → α → Bool) (d : Nat) (x : α) : ∀ (t : TT α) (c c' : cxT α) (s : TT α), findG lt d x c t = some (c', s) → plug c' s = plug c (insG lt d x c.length t) := by
  intro t
  induction t with
  | leaf => intro c c' s h; cases h
  | inner z a v l r ihl ihr =>
    intro c c' s h
    unfold findG at h
    unfold insG
    by_cases q : lt (c.length % d) x a = true
    · rw [if_pos q] at h ⊢
      split at h
      · cases h; rfl
      · exact ihl _ _ _ h
    · rw [if_neg q] at h ⊢
      split at h
      · cases h; rfl
      · exact ihr _ _ _ h
end TreeP
/-- the class's tree: the Nodes' cells -/
def CT (F : gF) (d : Nat) : TT Nat → Option Nat → Nat → Prop
  | .leaf, _, _ => True
  | .inner _ a _ l r, up, dep => F a 3 = .int (nI dep) ∧ F a 4 = .int (nI (dep % d)) ∧ F a 5 = .int (nI (tSz l + tSz r + 1)) ∧ F a 6 = va_rf up ∧ F a 7 = va_rf (tRt l) ∧ F a 8 = va_rf (tRt r) ∧ CT F d l (some a) (dep + 1) ∧ CT F d r (some a) (dep + 1)
def PXr (F : gF) (d : Nat) : cxT Nat → Option Nat → Prop
  | [], _ => True
  | (b, a, o) :: c, r => F a 3 = .int (nI c.length) ∧ F a 4 = .int (nI (c.length % d)) ∧ F a 6 = va_rf (cTop c) ∧ F a 7 = va_rf (if b then r else tRt o) ∧ F a 8 = va_rf (if b then tRt o else r) ∧ CT F d o (some a) (c.length + 1) ∧ PXr F d c (some a)
def PXz (F : gF) : cxT Nat → Nat → Prop
  | [], _ => True
  | (_, a, o) :: c, n => F a 5 = .int (nI (n + tSz o + 1)) ∧ PXz F c (n + tSz o + 1)
theorem CT_plug {F : gF} {d : Nat} : ∀ {c : cxT Nat} {t : TT Nat}, CT F d (plug c t) none 0 ↔ CT F d t (cTop c) c.length ∧ PXr F d c (tRt t) ∧ PXz F c (tSz t)
  | [], t => by simp [plug, cTop, PXr, PXz]
  | (b, a, o) :: c, t => by
    show CT F d (plug c _) none 0 ↔ _
    rw [CT_plug (c := c)]
    cases b
    · simp only [CT, PXr, PXz, tRt, tSz, cTop, List.length_cons, if_false, Bool.false_eq_true]
      rw [show tSz o + tSz t + 1 = tSz t + tSz o + 1 by omega]
      constructor
      · rintro ⟨⟨h1, h2, h3, h4, h5, h6, h7, h8⟩, h9, h10⟩
        exact ⟨h8, ⟨h1, h2, h4, h5, h6, h7, h9⟩, h3, h10⟩
      · rintro ⟨h8, ⟨h1, h2, h4, h5, h6, h7, h9⟩, h3, h10⟩
        exact ⟨⟨h1, h2, h3, h4, h5, h6, h7, h8⟩, h9, h10⟩
    · simp only [CT, PXr, PXz, tRt, tSz, cTop, List.length_cons, if_true]
      constructor
      · rintro ⟨⟨h1, h2, h3, h4, h5, h6, h7, h8⟩, h9, h10⟩
        exact ⟨h7, ⟨h1, h2, h4, h5, h6, h8, h9⟩, h3, h10⟩
      · rintro ⟨h7, ⟨h1, h2, h4, h5, h6, h8, h9⟩, h3, h10⟩
        exact ⟨⟨h1, h2, h3, h4, h5, h6, h7, h8⟩, h9, h10⟩
theorem CT_congr {F F' : gF} {d : Nat} : ∀ {t : TT Nat} {up : Option Nat} {dep : Nat}, (∀ a ∈ tPre t, ∀ k, 3 ≤ k → F' a k = F a k) → CT F d t up dep → CT F' d t up dep := by
  intro t
  induction t with
  | leaf => intro _ _ _ _; trivial
  | inner s a v l r ihl ihr =>
    intro up dep h H
    obtain ⟨h1, h2, h3, h4, h5, h6, h7, h8⟩ := H
    have ha : ∀ k, 3 ≤ k → F' a k = F a k := h a List.mem_cons_self
    exact ⟨by rw [ha 3 (by decide), h1], by rw [ha 4 (by decide), h2], by rw [ha 5 (by decide), h3], by rw [ha 6 (by decide), h4], by rw [ha 7 (by decide), h5], by rw [ha 8 (by decide), h6], ihl (fun q hq => h q (List.mem_cons_of_mem _ (List.mem_append_left _ hq))) h7, ihr (fun q hq => h q (List.mem_cons_of_mem _ (List.mem_append_right _ hq))) h8⟩
theorem PXr_congr {F F' : gF} {d : Nat} : ∀ {c : cxT Nat} {r : Option Nat}, (∀ a ∈ cAd c, ∀ k, 3 ≤ k → k ≠ 5 ∨ a ∉ cPath c → F' a k = F a k) → (cAd c).Nodup → PXr F d c r → PXr F' d c r
  | [], _, _, _, _ => trivial
  | (b, a, o) :: c, r, h, hn, H => by
    obtain ⟨h1, h2, h4, h5, h6, h7, h8⟩ := H
    have ha : ∀ k, 3 ≤ k → k ≠ 5 → F' a k = F a k := fun k hk h5 => h a List.mem_cons_self k hk (Or.inl h5)
    have hn2 : (tPre o ++ cAd c).Nodup ∧ a ∉ tPre o ++ cAd c := ⟨(List.nodup_cons.mp hn).2, (List.nodup_cons.mp hn).1⟩
    refine ⟨by rw [ha 3 (by decide) (by decide), h1], by rw [ha 4 (by decide) (by decide), h2], by rw [ha 6 (by decide) (by decide), h4], by rw [ha 7 (by decide) (by decide), h5], by rw [ha 8 (by decide) (by decide), h6], CT_congr (fun q hq k hk => h q (List.mem_cons_of_mem _ (List.mem_append_left _ hq)) k hk (Or.inr (fun hp => ?_))) h7, PXr_congr (fun q hq k hk hor => h q (List.mem_cons_of_mem _ (List.mem_append_right _ hq)) k hk (hor.elim Or.inl (fun hnp => Or.inr (fun hp => ?_)))) ((List.nodup_append.mp hn2.1).2.1) h8⟩
    · rcases List.mem_cons.mp hp with e | hp
      · exact hn2.2 (by rw [← e]; exact List.mem_append_left _ hq)
      · exact (List.nodup_append.mp hn2.1).2.2 q hq q (cPath_sub hp) rfl
    · rcases List.mem_cons.mp hp with e | hp
      · exact hn2.2 (by rw [← e]; exact List.mem_append_right _ hq)
      · exact hnp hp
theorem PXz_congr {F F' : gF} : ∀ {c : cxT Nat} {n : Nat}, (∀ a ∈ cPath c, F' a 5 = F a 5) → PXz F c n → PXz F' c n
  | [], _, _, _ => trivial
  | (_, a, o) :: c, n, h, H => ⟨by rw [h a List.mem_cons_self]; exact H.1, PXz_congr (fun q hq => h q (List.mem_cons_of_mem _ hq)) H.2⟩
/-- the Nodes of a list: their own cells, and whether they are dead -/
def NDs (K : gK) (F : gF) (dt : Nat → gPt) (pl : Nat → Nat) (dd : Nat → Bool) (L : List Nat) : Prop := ∀ a ∈ L, ndD K F a (pl a) (dt a) ∧ F a 2 = .int (bI (dd a))
theorem ndD_congr {K : gK} {F F' : gF} {a p : Nat} {x : gPt} (h : ∀ b j, (K b = some (2, 0) ∧ j < 2) ∨ K b = some (3, 0) → F' b j = F b j) (H : ndD K F a p x) : ndD K F' a p x := by
  obtain ⟨h1, h2, h3, h4, h5, h6⟩ := H
  exact ⟨h1, h2, by rw [h a 0 (Or.inl ⟨h1, by decide⟩), h3], by rw [h a 1 (Or.inl ⟨h1, by decide⟩), h4], fun i hi => by rw [h p i (Or.inr h2)]; exact h5 i hi, h6⟩
theorem NDs_congr {K : gK} {F F' : gF} {dt : Nat → gPt} {pl : Nat → Nat} {dd : Nat → Bool} {L : List Nat} (h : ∀ b j, (K b = some (2, 0) ∧ j < 3) ∨ K b = some (3, 0) → F' b j = F b j) (H : NDs K F dt pl dd L) : NDs K F' dt pl dd L := fun a ha => by
  obtain ⟨h1, h2⟩ := H a ha
  exact ⟨ndD_congr (fun b j q => h b j (q.elim (fun q => Or.inl ⟨q.1, by omega⟩) Or.inr)) h1, by rw [h a 2 (Or.inl ⟨h1.1, by decide⟩), h2]⟩
theorem NDs_sub {K : gK} {F : gF} {dt : Nat → gPt} {pl : Nat → Nat} {dd : Nat → Bool} {L L' : List Nat} (H : NDs K F dt pl dd L) (h : ∀ a ∈ L', a ∈ L) : NDs K F dt pl dd L' := fun a ha => H a (h a ha)
/-- by an axis one Node's point is less than another's -/
def ltA (dt : Nat → gPt) (ax a b : Nat) : Bool := pLess ax (dt a) (dt b)
theorem CT_root {F : gF} {d : Nat} {t : TT Nat} {up : Option Nat} {dep : Nat} (H : CT F d t up dep) {a : Nat} (h : tRt t = some a) : F a 5 = .int (nI (tSz t)) := by
  cases t with
  | leaf => cases h
  | inner s x v l r => cases h; exact H.2.2.1
theorem tRt_mem {α : Type} {t : TT α} {a : α} (h : tRt t = some a) : a ∈ tPre t := by
  cases t with
  | leaf => cases h
  | inner s x v l r => cases h; exact List.mem_cons_self
theorem tRt_none {α : Type} {t : TT α} (h : tRt t = none) : tSz t = 0 := by
  cases t with
  | leaf => rfl
  | inner s x v l r => cases h
