def NTq (L : List Nat) (nd : Nat → Option Nat) (dt : Nat → gPt) (dd : Nat → Bool) : Prop := L.Nodup ∧ (∀ i a, i < 100 → nd i = some a → a ∈ L ∧ (dt a).1 = i ∧ dd a = false) ∧ (∀ a ∈ L, dd a = false → nd (dt a).1 = some a) ∧ (gLive nd 100).length = (alv dd L).length ∧ ∀ a ∈ L, ∀ i, i < 4 → okNum ((dt a).2 i) = true
theorem NTp.q {tc : TT Nat} {nd : Nat → Option Nat} {dt : Nat → gPt} {dd : Nat → Bool} (h : NTp tc nd dt dd) : NTq (tPre tc) nd dt dd := ⟨h.1, h.2.1, h.2.2.1, h.2.2.2.1, h.2.2.2.2.2.2⟩
theorem NTq.p {tc : TT Nat} {nd : Nat → Option Nat} {dt : Nat → gPt} {dd : Nat → Bool} (h : NTq (tPre tc) nd dt dd) (h1 : tSz tc ≤ 2 * (gLive nd 100).length) (h2 : (gLive nd 100).length ≤ 60) : NTp tc nd dt dd := ⟨h.1, h.2.1, h.2.2.1, h.2.2.2.1, h1, h2, h.2.2.2.2⟩
theorem NTq.perm {L L' : List Nat} {nd : Nat → Option Nat} {dt : Nat → gPt} {dd : Nat → Bool} (hp : L.Perm L') (h : NTq L nd dt dd) : NTq L' nd dt dd :=
  ⟨hp.nodup_iff.mp h.1, fun i a hi ha => ⟨hp.mem_iff.mp (h.2.1 i a hi ha).1, (h.2.1 i a hi ha).2⟩, fun a ha => h.2.2.1 a (hp.mem_iff.mpr ha), h.2.2.2.1.trans (hp.filter _).length_eq, fun a ha => h.2.2.2.2 a (hp.mem_iff.mpr ha)⟩
theorem gLive_put {nd : Nat → Option Nat} {i n : Nat} (h : nd i = none) : ∀ k, (gLive (va_up nd i (some n)) k).length = (gLive nd k).length + if i < k then 1 else 0
  | 0 => by simp [gLive]
  | k + 1 => by
    have ih := gLive_put (n := n) h k
    by_cases e : k = i
    · subst e
      rw [gLive_some (a := n) (va_up_self _ _ _), gLive_none h, List.length_append, ih, if_neg (by omega), if_pos (by omega)]
      rfl
    · have q : va_up nd i (some n) k = nd k := va_up_ne _ _ e
      cases hk : nd k with
      | none => rw [gLive_none (q.trans hk), gLive_none hk, ih]; congr 1; by_cases z : i < k <;> simp [z] <;> omega
      | some a => rw [gLive_some (q.trans hk), gLive_some hk, List.length_append, List.length_append, ih]; by_cases z : i < k <;> simp [z] <;> omega
theorem gLive_drop {nd : Nat → Option Nat} {i n : Nat} (h : nd i = some n) : ∀ k, (gLive (va_up nd i none) k).length + (if i < k then 1 else 0) = (gLive nd k).length
  | 0 => by simp [gLive]
  | k + 1 => by
    have ih := gLive_drop h k
    by_cases e : k = i
    · subst e
      rw [if_neg (Nat.lt_irrefl k)] at ih
      rw [gLive_none (va_up_self _ _ _), gLive_some h, List.length_append, if_pos (Nat.lt_succ_self k), ← ih]
      rfl
    · have q : va_up nd i none k = nd k := va_up_ne _ _ e
      cases hk : nd k with
      | none => rw [gLive_none (q.trans hk), gLive_none hk, ← ih]; congr 1; by_cases z : i < k <;> simp [z] <;> omega
      | some a => rw [gLive_some (q.trans hk), gLive_some hk, List.length_append, List.length_append, ← ih]; by_cases z : i < k <;> simp [z] <;> omega
theorem alv_congr {dd dd' : Nat → Bool} {L : List Nat} (h : ∀ a ∈ L, dd' a = dd a) : alv dd' L = alv dd L := List.filter_congr (fun a ha => by rw [h a ha])
theorem NTq.put {L : List Nat} {nd : Nat → Option Nat} {dt : Nat → gPt} {dd : Nat → Bool} {n i : Nat} {p : Nat → Int32} (h : NTq L nd dt dd) (hn : n ∉ L) (hi : i < 100) (hnd : nd i = none) (hp : ∀ j, j < 4 → okNum (p j) = true) : NTq (n :: L) (va_up nd i (some n)) (va_up dt n (i, p)) (va_up dd n false) := by
  obtain ⟨h1, h2, h3, h4, h5⟩ := h
  have ne : ∀ a, a ∈ L → a ≠ n := fun a ha e => hn (e ▸ ha)
  refine ⟨List.nodup_cons.mpr ⟨hn, h1⟩, fun j a hj ha => ?_, fun a ha hd => ?_, ?_, fun a ha j hj => ?_⟩
  · by_cases e : j = i
    · subst e
      rw [va_up_self] at ha
      cases ha
      rw [va_up_self, va_up_self]
      exact ⟨List.mem_cons_self, rfl, rfl⟩
    · rw [va_up_ne _ _ e] at ha
      obtain ⟨q1, q2, q3⟩ := h2 j a hj ha
      rw [va_up_ne _ _ (ne a q1), va_up_ne _ _ (ne a q1)]
      exact ⟨List.mem_cons_of_mem _ q1, q2, q3⟩
  · rcases List.mem_cons.mp ha with e | e
    · subst e
      rw [va_up_self]
      exact va_up_self _ _ _
    · rw [va_up_ne _ _ (ne a e)] at hd ⊢
      have q := h3 a e hd
      rw [va_up_ne _ _ (fun z => by rw [z, hnd] at q; cases q)]
      exact q
  · rw [gLive_put hnd 100, if_pos hi, h4]
    show _ = (List.filter _ (n :: L)).length
    rw [List.filter_cons_of_pos (by rw [va_up_self]; rfl), List.length_cons]
    congr 1
    show _ = (alv (va_up dd n false) L).length
    rw [alv_congr (fun a ha => va_up_ne _ _ (ne a ha))]
  · rcases List.mem_cons.mp ha with e | e
    · subst e
      rw [va_up_self]
      exact hp j hj
    · rw [va_up_ne _ _ (ne a e)]
      exact h5 a e j hj
theorem NTq.bld {A B : List Nat} {nd : Nat → Option Nat} {dt : Nat → gPt} {dd : Nat → Bool} (h : NTq (A ++ B) nd dt dd) : NTq (alv dd A ++ B) nd dt dd := by
  obtain ⟨h1, h2, h3, h4, h5⟩ := h
  have sub : ∀ a ∈ alv dd A ++ B, a ∈ A ++ B := fun a ha => List.mem_append.mpr ((List.mem_append.mp ha).imp (fun z => alv_sub z) (fun z => z))
  refine ⟨h1.sublist (List.Sublist.append List.filter_sublist (List.Sublist.refl B)), fun i a hi ha => ?_, fun a ha => h3 a (sub a ha), ?_, fun a ha => h5 a (sub a ha)⟩
  · obtain ⟨q1, q2, q3⟩ := h2 i a hi ha
    refine ⟨List.mem_append.mpr ((List.mem_append.mp q1).imp (fun z => List.mem_filter.mpr ⟨z, by rw [q3]; rfl⟩) (fun z => z)), q2, q3⟩
  · rw [h4]
    simp [alv, List.filter_append, List.filter_filter]
theorem NTq.drop {L : List Nat} {nd : Nat → Option Nat} {dt : Nat → gPt} {dd : Nat → Bool} {n i : Nat} (h : NTq L nd dt dd) (hi : i < 100) (hnd : nd i = some n) : NTq L (va_up nd i none) dt (va_up dd n true) := by
  obtain ⟨h1, h2, h3, h4, h5⟩ := h
  obtain ⟨m1, m2, m3⟩ := h2 i n hi hnd
  refine ⟨h1, fun j a hj ha => ?_, fun a ha hd => ?_, ?_, h5⟩
  · by_cases e : j = i
    · subst e
      rw [va_up_self] at ha
      cases ha
    · rw [va_up_ne _ _ e] at ha
      obtain ⟨q1, q2, q3⟩ := h2 j a hj ha
      exact ⟨q1, q2, by rw [va_up_ne _ _ (fun z => by rw [z, m2] at q2; exact e q2.symm)]; exact q3⟩
  · by_cases e : a = n
    · subst e
      rw [va_up_self] at hd
      cases hd
    · rw [va_up_ne _ _ e] at hd
      have q := h3 a ha hd
      rw [va_up_ne _ _ (fun z => by rw [z, hnd] at q; cases q; exact e rfl)]
      exact q
  · have g := gLive_drop hnd 100
    rw [if_pos hi] at g
    have hp : L.Perm (n :: L.erase n) := List.perm_cons_erase m1
    have hn : n ∉ L.erase n := fun z => (h1.mem_erase_iff.mp z).1 rfl
    have a1 : (alv dd L).length = (alv dd (L.erase n)).length + 1 := by
      rw [show (alv dd L).length = (alv dd (n :: L.erase n)).length from (hp.filter _).length_eq]
      show (List.filter _ (n :: L.erase n)).length = _
      rw [List.filter_cons_of_pos (by rw [m3]; rfl)]
      rfl
    have a2 : (alv (va_up dd n true) L).length = (alv dd (L.erase n)).length := by
      rw [show (alv (va_up dd n true) L).length = (alv (va_up dd n true) (n :: L.erase n)).length from (hp.filter _).length_eq]
      show (List.filter _ (n :: L.erase n)).length = _
      rw [List.filter_cons_of_neg (by rw [va_up_self]; decide)]
      show (alv (va_up dd n true) _).length = _
      rw [alv_congr (dd := dd) (L := L.erase n) (fun a ha => va_up_ne _ _ (fun z => by rw [z] at ha; exact hn ha))]
    omega
theorem okNum_0 : okNum (nI 0) = true := by decide
theorem okPl_mkC {d : Nat} {x y z w : Int32} (h : okPl d x y z w = true) : ∀ i, i < 4 → okNum (mkC d x y z w i) = true := by
  intro i hi
  simp only [okPl, Bool.and_eq_true, Bool.or_eq_true, decide_eq_true_eq] at h
  obtain ⟨⟨⟨h1, h2⟩, h3⟩, h4⟩ := h
  rcases (show i = 0 ∨ i = 1 ∨ i = 2 ∨ i = 3 by omega) with rfl | rfl | rfl | rfl
  · exact h1
  · show okNum (if 1 < d then y else nI 0) = true
    split
    · exact h2.resolve_left (by omega)
    · exact okNum_0
  · show okNum (if 2 < d then z else nI 0) = true
    split
    · exact h3.resolve_left (by omega)
    · exact okNum_0
  · show okNum (if 3 < d then w else nI 0) = true
    split
    · exact h4.resolve_left (by omega)
    · exact okNum_0
theorem NT_mk {K K' : gK} {F F' : gF} {x lb T row h ai ad J pts lens d : Nat} {tc tc' : TT Nat} {nd nd' : Nat → Option Nat} {dt dt' : Nat → gPt} {pl pl' : Nat → Nat} {dd dd' : Nat → Bool} {S : List (Nat × Int64)} {lim lk bc bg bp bc' bg' bp' : Nat} (hNT : NT K F x lb T row h ai ad J pts lens d tc nd dt pl dd S lim lk bc bg bp) (hK : ∀ a k, K a = some k → K' a = some k)
    (hf : ∀ b k j, K b = some k → k ≠ (2, 0) → b ≠ lb → b ≠ x → b ≠ T → b ≠ row → F' b j = F b j) (hx : ∀ j, j ≠ 5 → j ≠ 7 → j ≠ 8 → F' x j = F x j) (hx5 : F' x 5 = .int (nI (gLive nd' 100).length)) (hx7 : F' x 7 = .int (nI bc')) (hx8 : F' x 8 = .int (nI bg')) (hT : ∀ j, j < 2 → F' T j = F T j) (hT2 : F' T 2 = va_rf (tRt tc')) (hT3 : F' T 3 = .int (nI bp')) (hC' : CT F' d tc' none 0) (hrN' : rowN F' lb nd') (hND' : NDs K' F' dt' pl' dd' (tPre tc')) (hp' : NTp tc' nd' dt' dd') : NT K' F' x lb T row h ai ad J pts lens d tc' nd' dt' pl' dd' S lim lk bc' bg' bp' := by
  obtain ⟨⟨kx, klb, kT, krow, kh, kai, kad, kJ, kpts, klens, krp⟩, hd, ⟨x0, x1, x2, x3, x4, x5, x6, x7, x8⟩, ⟨t0, t1, t2, t3, hC⟩, ⟨j0, j1, st, s1, s2, s3⟩, hrN, hLS, hND, hp9⟩ := hNT
  have fJ : ∀ i, F' J i = F J i := fun i => hf J _ i kJ (by decide) (kne kJ klb (by decide)) (kne kJ kx (by decide)) (kne kJ kT (by decide)) (kne kJ krow (by decide))
  exact ⟨⟨hK _ _ kx, hK _ _ klb, hK _ _ kT, hK _ _ krow, hK _ _ kh, hK _ _ kai, hK _ _ kad, hK _ _ kJ, hK _ _ kpts, hK _ _ klens, krp⟩, hd, ⟨(hx 0 (by decide) (by decide) (by decide)).trans x0, (hx 1 (by decide) (by decide) (by decide)).trans x1, (hx 2 (by decide) (by decide) (by decide)).trans x2, (hx 3 (by decide) (by decide) (by decide)).trans x3, (hx 4 (by decide) (by decide) (by decide)).trans x4, hx5, (hx 6 (by decide) (by decide) (by decide)).trans x6, hx7, hx8⟩, ⟨(hT 0 (by decide)).trans t0, (hT 1 (by decide)).trans t1, hT2, hT3, hC'⟩, ⟨(fJ 0).trans j0, (fJ 1).trans j1, st, (fJ 3).trans s1, (fJ 4).trans s2, (fJ 5).trans s3⟩, hrN', lsR_up hLS hK (fun b i hb => by
    rcases hb with rfl | rfl | rfl
    · exact hf _ _ i kh (by decide) (kne kh klb (by decide)) (kne kh kx (by decide)) (kne kh kT (by decide)) (kne kh krow (by decide))
    · exact hf _ _ i kai (by decide) (kne kai klb (by decide)) (kne kai kx (by decide)) (kne kai kT (by decide)) (kne kai krow (by decide))
    · exact hf _ _ i kad (by decide) (kne kad klb (by decide)) (kne kad kx (by decide)) (kne kad kT (by decide)) (kne kad krow (by decide))), hND', hp'⟩
