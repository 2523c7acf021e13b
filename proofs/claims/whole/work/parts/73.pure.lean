/-! the class's state and the reference's: one tree of labels -/
abbrev fL (dt : Nat → gPt) (dd : Nat → Bool) : Nat → gLb := fun a => (dt a, dd a)
theorem lcK_nd (nd : Nat → Option Nat) (dt : Nat → gPt) : ∀ k, lcK (ndP nd dt) k = (gLive nd k).length
  | 0 => rfl
  | k + 1 => by
    rw [lcK_succ, lcK_nd nd dt k]
    unfold gLive
    rw [List.range_succ, List.filterMap_append, List.length_append]
    congr 1
    unfold ndP
    cases h : nd k with
    | none => simp [h]
    | some a => simp [h]
theorem lcP_nd (nd : Nat → Option Nat) (dt : Nat → gPt) : lcP (ndP nd dt) = (gLive nd 100).length := lcK_nd nd dt 100
theorem ndP_some {nd : Nat → Option Nat} {dt : Nat → gPt} {i a : Nat} (h : nd i = some a) : ndP nd dt i = some (dt a).2 := by unfold ndP; rw [h]; rfl
theorem ndP_none {nd : Nat → Option Nat} {dt : Nat → gPt} {i : Nat} : ndP nd dt i = none ↔ nd i = none := by
  unfold ndP
  cases nd i with
  | none => simp
  | some a => simp
theorem ndP_of {nd : Nat → Option Nat} {dt : Nat → gPt} {i : Nat} {p : Nat → Int32} (h : ndP nd dt i = some p) : ∃ a, nd i = some a ∧ p = (dt a).2 := by
  unfold ndP at h
  cases hn : nd i with
  | none => rw [hn] at h; cases h
  | some a => rw [hn] at h; cases h; exact ⟨a, rfl, rfl⟩
theorem AS_NT {K : gK} {F : gF} {tc : TT Nat} {nd : Nat → Option Nat} {dt : Nat → gPt} {pl : Nat → Nat} {dd : Nat → Bool} (hND : NDs K F dt pl dd (tPre tc)) (hp : NTp tc nd dt dd) : AS (ndP nd dt) (tMap (fL dt dd) tc) := by
  obtain ⟨p1, p2, p3, p4, p5, p6, p7⟩ := hp
  have hf : (tPre (tMap (fL dt dd) tc)).filter (fun y : gLb => !y.2) = (alv dd (tPre tc)).map (fL dt dd) := by rw [tPre_map]; exact filt_map (fL dt dd) (fun y : gLb => y.2) (tPre tc)
  have hm : ∀ y ∈ tPre (tMap (fL dt dd) tc), ∃ a ∈ tPre tc, y = (dt a, dd a) := fun y hy => by
    rw [tPre_map] at hy
    obtain ⟨a, ha, e⟩ := List.mem_map.mp hy
    exact ⟨a, ha, e.symm⟩
  refine ⟨fun y hy hd => ?_, fun i p hi hP => ?_, ?_, ?_, ?_, ?_, fun y hy => ?_⟩
  · obtain ⟨a, ha, rfl⟩ := hm y hy
    exact ndP_some (p3 a ha hd)
  · obtain ⟨a, ha, rfl⟩ := ndP_of hP
    obtain ⟨q1, q2, q3⟩ := p2 i a hi ha
    rw [tPre_map]
    refine List.mem_map.mpr ⟨a, q1, ?_⟩
    show (dt a, dd a) = _
    rw [q3, ← q2]
  · rw [hf, List.map_map]
    refine nodup_map_on (f := fun a => (dt a).1) (p1.filter _) (fun x hx y hy e => ?_)
    have hx := List.mem_filter.mp hx
    have hy := List.mem_filter.mp hy
    have e : (dt x).1 = (dt y).1 := e
    have q1 := p3 x hx.1 (by simpa using hx.2)
    have q2 := p3 y hy.1 (by simpa using hy.2)
    rw [e, q2] at q1
    exact (Option.some.inj q1).symm
  · rw [hf, List.length_map, lcP_nd]; exact p4.symm
  · rw [tSz_map, lcP_nd]; exact p5
  · rw [lcP_nd]; exact p6
  · obtain ⟨a, ha, rfl⟩ := hm y hy
    exact ⟨(hND a ha).1.2.2.2.2.2, p7 a ha⟩
theorem okP_NT {tc : TT Nat} {nd : Nat → Option Nat} {dt : Nat → gPt} {dd : Nat → Bool} (hp : NTp tc nd dt dd) : okP (ndP nd dt) := fun i p hi hP a ha => by
  obtain ⟨b, hb, rfl⟩ := ndP_of hP
  exact hp.2.2.2.2.2.2 b (hp.2.1 i b hi hb).1 a ha
theorem put_map {tc : TT Nat} {dt : Nat → gPt} {dd : Nat → Bool} {q1 i d : Nat} {pt : Nat → Int32} (hq : q1 ∉ tPre tc) : putG ltL (fun y => y.2) d ((i, pt), false) (tMap (fL dt dd) tc) = (tMap (fL (va_up dt q1 (i, pt)) (va_up dd q1 false)) (putG (ltA (va_up dt q1 (i, pt))) (va_up dd q1 false) d q1 tc).1, (putG (ltA (va_up dt q1 (i, pt))) (va_up dd q1 false) d q1 tc).2) := by
  have h := putG_map (fL (va_up dt q1 (i, pt)) (va_up dd q1 false)) (lt := ltL) (lt' := ltA (va_up dt q1 (i, pt))) (fun _ _ _ => rfl) (fun y : gLb => y.2) d q1 tc
  have e1 : fL (va_up dt q1 (i, pt)) (va_up dd q1 false) q1 = ((i, pt), false) := by
    show (va_up dt q1 (i, pt) q1, va_up dd q1 false q1) = _
    rw [va_up_self, va_up_self]
  have e2 : tMap (fL (va_up dt q1 (i, pt)) (va_up dd q1 false)) tc = tMap (fL dt dd) tc := tMap_congr (fun a ha => by
    have hne : a ≠ q1 := fun e => hq (e ▸ ha)
    show (va_up dt q1 (i, pt) a, va_up dd q1 false a) = (dt a, dd a)
    rw [va_up_ne _ _ hne, va_up_ne _ _ hne])
  rw [e1, e2] at h
  exact h
theorem put_ndP {tc : TT Nat} {nd : Nat → Option Nat} {dt : Nat → gPt} {dd : Nat → Bool} {q1 i : Nat} {pt : Nat → Int32} (hp : NTp tc nd dt dd) (hq : q1 ∉ tPre tc) : ∀ j, j < 100 → va_up (ndP nd dt) i (some pt) j = ndP (va_up nd i (some q1)) (va_up dt q1 (i, pt)) j := fun j hj => by
  by_cases e : j = i
  · rw [e, va_up_self, ndP_some (va_up_self _ _ _), va_up_self]
  · rw [va_up_ne _ _ e]
    unfold ndP
    rw [va_up_ne _ _ e]
    cases hn : nd j with
    | none => rfl
    | some a =>
      have hne : a ≠ q1 := fun z => hq (z ▸ (hp.2.1 j a hj hn).1)
      show some (dt a).2 = some (va_up dt q1 (i, pt) a).2
      rw [va_up_ne _ _ hne]
theorem kill_map {tc : TT Nat} {nd : Nat → Option Nat} {dt : Nat → gPt} {dd : Nat → Bool} {n i : Nat} (hp : NTp tc nd dt dd) (hi : i < 100) (hn : nd i = some n) : tMap (fL dt (va_up dd n true)) tc = tMap (killL i) (tMap (fL dt dd) tc) := by
  rw [tMap_map]
  refine tMap_congr (fun a ha => ?_)
  show (dt a, va_up dd n true a) = (dt a, dd a || decide ((dt a).1 = i))
  by_cases e : a = n
  · subst e
    rw [va_up_self, decide_eq_true (hp.2.1 i a hi hn).2.1, Bool.or_true]
  · rw [va_up_ne _ _ e]
    cases hd : dd a with
    | true => rfl
    | false =>
      rw [decide_eq_false (fun z => ?_)]
      · rfl
      · have q := hp.2.2.1 a ha hd
        rw [z, hn] at q
        exact e (Option.some.inj q).symm
theorem drop_map {tc : TT Nat} {nd : Nat → Option Nat} {dt : Nat → gPt} {dd : Nat → Bool} {n i d lc : Nat} (hp : NTp tc nd dt dd) (hi : i < 100) (hn : nd i = some n) : dropG ltL (fun y => y.2) d lc (tMap (killL i) (tMap (fL dt dd) tc)) = (tMap (fL dt (va_up dd n true)) (dropG (ltA dt) (va_up dd n true) d lc tc).1, (dropG (ltA dt) (va_up dd n true) d lc tc).2) := by
  rw [← kill_map hp hi hn]
  exact dropG_map (fL dt (va_up dd n true)) (lt := ltL) (lt' := ltA dt) (fun _ _ _ => rfl) (fun y : gLb => y.2) d lc tc
theorem drop_ndP (nd : Nat → Option Nat) (dt : Nat → gPt) (i : Nat) : va_up (ndP nd dt) i none = ndP (va_up nd i none) dt := by
  funext j
  by_cases e : j = i
  · rw [e, va_up_self]
    exact (ndP_none.mpr (va_up_self _ _ _)).symm
  · rw [va_up_ne _ _ e]
    unfold ndP
    rw [va_up_ne _ _ e]
theorem lcP_congr {P P' : Nat → Option (Nat → Int32)} (h : ∀ i, i < 100 → P i = P' i) : lcP P = lcP P' := by
  unfold lcP
  rw [List.filter_congr (fun i hi => by rw [h i (List.mem_range.mp hi)])]
theorem RS_P {F : gF} {m9 : Nat} {B : Nat → Nat} {d : Nat} {P P' : Nat → Option (Nat → Int32)} {t : TT gLb} {S : List (Nat × Int64)} {lk bc bg bp : Nat} (h : ∀ i, i < 100 → P i = P' i) (hR : RS F m9 B d P t S lk bc bg bp) : RS F m9 B d P' t S lk bc bg bp := by
  obtain ⟨h1, h2, ⟨h3, h3'⟩, h5, h6⟩ := hR
  exact ⟨h1, h2, ⟨fun i hi => by rw [← h i hi]; exact h3 i hi, fun i p hi hp => h3' i p hi (by rw [h i hi]; exact hp)⟩, by rw [← lcP_congr h]; exact h5, h6⟩
theorem itr_congr {σ : Type} {f g : Nat → σ → σ} {a : Nat} : ∀ {k : Nat} {s : σ}, (∀ n s, n < k → f (a + n) s = g (a + n) s) → itr f a k s = itr g a k s
  | 0, _, _ => rfl
  | k + 1, s, h => by
    show f (a + k) (itr f a k s) = g (a + k) (itr g a k s)
    rw [itr_congr (k := k) (fun n s hn => h n s (by omega)), h k _ (by omega)]
theorem pair_map {nd : Nat → Option Nat} {dt : Nat → gPt} (hid : ∀ i a, i < 100 → nd i = some a → (dt a).1 = i) (st : Int64 × Nat × Nat) : prOut dt nd 100 st = pOut (ndP nd dt) 100 st := by
  unfold prOut pOut
  refine itr_congr (fun i s hi => ?_)
  unfold prIn pIn
  refine itr_congr (fun j s hj => ?_)
  rw [Nat.zero_add] at hj ⊢
  unfold prS pS ndP
  cases h1 : nd i with
  | none => rfl
  | some a =>
    cases h2 : nd (i + 1 + j) with
    | none => rfl
    | some b =>
      show (if dA dt a b < s.1 then (dA dt a b, (dt a).1, (dt b).1) else s) = (if pDist (dt a).2 (dt b).2 < s.1 then (pDist (dt a).2 (dt b).2, i, i + 1 + j) else s)
      rw [hid i a (by omega) h1, hid _ b (by omega) h2]
      rfl
theorem locG_congr {α : Type} {P Q : α → Bool} : ∀ {t : TT α} {c : cxT α}, (∀ a ∈ tPre t, P a = Q a) → locG P t c = locG Q t c := by
  intro t
  induction t with
  | leaf => intro c _; rfl
  | inner s a v l r ihl ihr =>
    intro c h
    rw [locG, locG, h a List.mem_cons_self, ihl (fun z hz => h z (List.mem_cons_of_mem _ (List.mem_append_left _ hz))), ihr (fun z hz => h z (List.mem_cons_of_mem _ (List.mem_append_right _ hz)))]
theorem node_map {tc : TT Nat} {nd : Nat → Option Nat} {dt : Nat → gPt} {dd : Nat → Bool} {i a : Nat} {q : cxT Nat × TT Nat × TT Nat} (hp : NTp tc nd dt dd) (hi : i < 100) (hn : nd i = some a) (hq : locG (fun b => decide (b = a)) tc [] = some q) : locG (fun z : gLb => (!z.2 && decide (z.1.1 = i))) (tMap (fL dt dd) tc) [] = some (cMap (fL dt dd) q.1, tMap (fL dt dd) q.2.1, tMap (fL dt dd) q.2.2) := by
  have h := locG_map (fL dt dd) (fun z : gLb => (!z.2 && decide (z.1.1 = i))) tc []
  have h : locG (fun z : gLb => (!z.2 && decide (z.1.1 = i))) (tMap (fL dt dd) tc) [] = _ := h
  rw [h, locG_congr (Q := fun b => decide (b = a)) (fun b hb => ?_), hq]
  · rfl
  · show (!dd b && decide ((dt b).1 = i)) = decide (b = a)
    obtain ⟨_, q2, q3⟩ := hp.2.1 i a hi hn
    by_cases e : b = a
    · rw [e, q3, decide_eq_true q2, decide_eq_true rfl]; rfl
    · rw [decide_eq_false e]
      cases hd : dd b with
      | true => rfl
      | false =>
        rw [decide_eq_false (fun z => ?_)]
        · rfl
        · have r := hp.2.2.1 b hb hd
          rw [z, hn] at r
          exact e (Option.some.inj r).symm
theorem leN {x : Int32} {n : Nat} (hn : n < 1000) : x ≤ nI n ↔ x < nI (n + 1) := by
  rw [Int32.le_iff_toInt_le, Int32.lt_iff_toInt_lt, nI_toInt (by omega), nI_toInt (by omega)]
  omega
/-! two orders of joining -/
def PR (P : Nat → Option (Nat → Int32)) (A : Nat → Nat) (ln : Nat → Int64) : Prop := pPrm (lvI P) A (lcP P) ∧ pFin (DI P) A ln (lcP P) (lcP P)
theorem PR_nd {nd : Nat → Option Nat} {dt : Nat → gPt} {A : Nat → Nat} {ln : Nat → Int64} (hid : ∀ i a, i < 100 → nd i = some a → (dt a).1 = i) (h1 : pPrm (gLive nd 100) A (gLive nd 100).length) (h2 : pFin (dA dt) A ln (gLive nd 100).length (gLive nd 100).length) : PR (ndP nd dt) (fun i => (dt (A i)).1) ln := by
  have hl := lcP_nd nd dt
  have hg : ∀ i, i < (gLive nd 100).length → (dt (A i)).1 < 100 ∧ nd (dt (A i)).1 = some (A i) := fun i hi => by
    obtain ⟨j, hj, e⟩ := gLive_mem.mp (h1.2.1 i hi)
    rw [hid j _ hj e]
    exact ⟨hj, e⟩
  have hD : ∀ i j, i < (gLive nd 100).length → j < (gLive nd 100).length → DI (ndP nd dt) (dt (A i)).1 (dt (A j)).1 = dA dt (A i) (A j) := fun i j hi hj => DI_ss (ndP_some (hg i hi).2) (ndP_some (hg j hj).2)
  unfold PR
  rw [hl]
  refine ⟨⟨fun i k hi hk e => h1.1 i k hi hk ?_, fun i hi => lvI_mem.mpr ⟨(hg i hi).1, _, ndP_some (hg i hi).2⟩, fun g hg2 => ?_⟩, fun i i1 i2 i3 => ?_⟩
  · have e : (dt (A i)).1 = (dt (A k)).1 := e
    have q1 := (hg i hi).2
    rw [e, (hg k hk).2] at q1
    exact (Option.some.inj q1).symm
  · obtain ⟨g1, p, hp⟩ := lvI_mem.mp hg2
    obtain ⟨a, ha, _⟩ := ndP_of hp
    obtain ⟨i, hi, e⟩ := h1.2.2 a (gLive_mem.mpr ⟨g, g1, ha⟩)
    exact ⟨i, hi, by show (dt (A i)).1 = g; rw [e]; exact hid g a g1 ha⟩
  · obtain ⟨⟨a, ha, e⟩, h5⟩ := h2 i i1 i2 i3
    exact ⟨⟨a, ha, by show ln i = DI (ndP nd dt) (dt (A a)).1 (dt (A i)).1; rw [hD a i (by omega) i2]; exact e⟩, fun a b ha hb hb2 => by show ln i ≤ DI (ndP nd dt) (dt (A a)).1 (dt (A b)).1; rw [hD a b (by omega) hb2]; exact h5 a b ha hb hb2⟩
def rts (A : Nat → Nat) (ln : Nat → Int64) (t : Int64) : Nat → List Nat
  | 0 => []
  | k + 1 => if k = 0 ∨ t < ln k then A k :: rts A ln t k else rts A ln t k
theorem rts_mem {A : Nat → Nat} {ln : Nat → Int64} {t : Int64} {x : Nat} : ∀ {k : Nat}, x ∈ rts A ln t k ↔ ∃ i, i < k ∧ A i = x ∧ (i = 0 ∨ t < ln i)
  | 0 => ⟨fun h => (by cases h), fun ⟨i, hi, _⟩ => absurd hi (Nat.not_lt_zero _)⟩
  | k + 1 => by
    unfold rts
    split
    · rename_i hc
      rw [List.mem_cons, rts_mem]
      constructor
      · rintro (rfl | ⟨i, hi, h1, h2⟩)
        · exact ⟨k, by omega, rfl, hc⟩
        · exact ⟨i, by omega, h1, h2⟩
      · rintro ⟨i, hi, h1, h2⟩
        by_cases e : i = k
        · exact Or.inl (by rw [← h1, e])
        · exact Or.inr ⟨i, by omega, h1, h2⟩
    · rename_i hc
      rw [rts_mem]
      constructor
      · rintro ⟨i, hi, h1, h2⟩
        exact ⟨i, by omega, h1, h2⟩
      · rintro ⟨i, hi, h1, h2⟩
        by_cases e : i = k
        · subst e; exact absurd h2 hc
        · exact ⟨i, by omega, h1, h2⟩
theorem rts_nodup {A : Nat → Nat} {ln : Nat → Int64} {t : Int64} {n : Nat} (hA : ∀ i k, i < n → k < n → A i = A k → i = k) : ∀ k, k ≤ n → (rts A ln t k).Nodup
  | 0, _ => List.nodup_nil
  | k + 1, h => by
    unfold rts
    split
    · refine List.nodup_cons.mpr ⟨fun hm => ?_, rts_nodup hA k (by omega)⟩
      obtain ⟨i, hi, h1, _⟩ := rts_mem.mp hm
      have := hA i k (by omega) (by omega) h1
      omega
    · exact rts_nodup hA k (by omega)
theorem rts_len (A : Nat → Nat) (ln : Nat → Int64) (t : Int64) : ∀ k, (rts A ln t (k + 1)).length = itr (fun i c => if t < ln i then c + 1 else c) 1 k 1
  | 0 => rfl
  | k + 1 => by
    show (if k + 1 = 0 ∨ t < ln (k + 1) then A (k + 1) :: rts A ln t (k + 1) else rts A ln t (k + 1)).length = (if t < ln (1 + k) then itr (fun i c => if t < ln i then c + 1 else c) 1 k 1 + 1 else itr (fun i c => if t < ln i then c + 1 else c) 1 k 1)
    rw [← rts_len A ln t k, Nat.add_comm 1 k]
    by_cases h : t < ln (k + 1)
    · rw [if_pos (Or.inr h), if_pos h, List.length_cons]
    · rw [if_neg (fun z => z.elim (fun z => by omega) h), if_neg h]
theorem prim_CC {P : Nat → Option (Nat → Int32)} {A : Nat → Nat} {ln : Nat → Int64} (hP : okP P) (h : PR P A ln) (t : Int64) : CC (lvP P) (DI P) t (prtN ln (lcP P) t (lcP P - 1)) := by
  obtain ⟨⟨a1, a2, a3⟩, hf⟩ := h
  have hD := DI_symm hP
  have hl : (rts A ln t (lcP P)).length = prtN ln (lcP P) t (lcP P - 1) := by
    unfold prtN
    cases hn : lcP P with
    | zero => rfl
    | succ k => rw [rts_len, if_pos (Nat.succ_pos k), Nat.add_sub_cancel]
  have key : ∀ i j, i < j → j < lcP P → t < ln j → ¬ Cn (lvP P) (DI P) t (A i) (A j) := fun i j hij hj ht hc => by
    obtain ⟨k, hk, e⟩ := hc (fun x => ∃ k, k < j ∧ A k = x) ⟨i, hij, rfl⟩ (fun x y hx hy hS hd => by
      obtain ⟨k, hk, rfl⟩ := hS
      obtain ⟨k', hk', rfl⟩ := a3 y (lvI_mem.mpr hy)
      rcases Nat.lt_or_ge k' j with e | e
      · exact ⟨k', e, rfl⟩
      · have q1 := (hf j (by omega) hj hj).2 k k' hk e hk'
        rw [Int64.le_iff_toInt_le] at q1 hd
        rw [Int64.lt_iff_toInt_lt] at ht
        omega)
    have := a1 k j (by omega) hj e
    omega
  refine ⟨rts A ln t (lcP P), hl, rts_nodup a1 _ (Nat.le_refl _), fun a ha => ?_, fun a ha b hb hc => ?_, fun v hv => ?_⟩
  · obtain ⟨i, hi, rfl, _⟩ := rts_mem.mp ha
    exact lvI_mem.mp (a2 i hi)
  · obtain ⟨i, hi, rfl, hi2⟩ := rts_mem.mp ha
    obtain ⟨j, hj, rfl, hj2⟩ := rts_mem.mp hb
    rcases Nat.lt_trichotomy i j with e | e | e
    · exact absurd hc (key i j e hj (hj2.resolve_left (by omega)))
    · rw [e]
    · exact absurd (hc.symm hD) (key j i e hi (hi2.resolve_left (by omega)))
  · obtain ⟨i, hi, rfl⟩ := a3 v (lvI_mem.mpr hv)
    have cov : ∀ n i, i ≤ n → i < lcP P → ∃ a ∈ rts A ln t (lcP P), Cn (lvP P) (DI P) t (A i) a := by
      intro n
      induction n with
      | zero => intro i h1 h2; exact ⟨A i, rts_mem.mpr ⟨i, h2, rfl, Or.inl (by omega)⟩, Cn.refl⟩
      | succ n ih =>
        intro i h1 h2
        by_cases hr : i = 0 ∨ t < ln i
        · exact ⟨A i, rts_mem.mpr ⟨i, h2, rfl, hr⟩, Cn.refl⟩
        · obtain ⟨⟨a, ha, e⟩, _⟩ := hf i (by omega) h2 h2
          obtain ⟨r, hr1, hr2⟩ := ih a (by omega) (by omega)
          refine ⟨r, hr1, Cn.trans ?_ hr2⟩
          refine Cn.symm hD (Cn.edge (lvI_mem.mp (a2 a (by omega))) (lvI_mem.mp (a2 i h2)) ?_)
          rw [← e]
          exact Int64.not_lt.mp (fun z => hr (Or.inr z))
    exact cov i i (Nat.le_refl _) hi
def lnL (ln : Nat → Int64) (k : Nat) : List Int64 := (List.range k).map (fun j => ln (1 + j))
theorem lnL_succ (ln : Nat → Int64) (k : Nat) : lnL ln (k + 1) = lnL ln k ++ [ln (1 + k)] := by unfold lnL; rw [List.range_succ, List.map_append]; rfl
theorem prt_cnt (ln : Nat → Int64) (t : Int64) (c0 : Nat) : ∀ k, itr (fun i c => if t < ln i then c + 1 else c) 1 k c0 = c0 + (lnL ln k).countP (fun x => decide (t < x))
  | 0 => rfl
  | k + 1 => by
    show (if t < ln (1 + k) then itr (fun i c => if t < ln i then c + 1 else c) 1 k c0 + 1 else itr (fun i c => if t < ln i then c + 1 else c) 1 k c0) = _
    rw [prt_cnt ln t c0 k, lnL_succ, List.countP_append]
    by_cases h : t < ln (1 + k)
    · rw [if_pos h]; simp [h]; omega
    · rw [if_neg h]; simp [h]
theorem fold_snoc (x : Int64) : ∀ L : List Int64, (L ++ [x]).foldr (· + ·) 0 = L.foldr (· + ·) 0 + x
  | [] => by show x + 0 = 0 + x; rw [Int64.add_zero, Int64.zero_add]
  | y :: L => by show y + (L ++ [x]).foldr (· + ·) 0 = y + L.foldr (· + ·) 0 + x; rw [fold_snoc x L, Int64.add_assoc]
theorem sumN_fold (ln : Nat → Int64) : ∀ k, sumN ln k = (lnL ln k).foldr (· + ·) 0
  | 0 => rfl
  | k + 1 => by
    show sumN ln k + ln (1 + k) = _
    rw [sumN_fold ln k, lnL_succ, fold_snoc]
theorem perm_fold {X Y : List Int64} (h : X.Perm Y) : X.foldr (· + ·) 0 = Y.foldr (· + ·) 0 := by
  induction h with
  | nil => rfl
  | cons x _ ih => show x + _ = x + _; rw [ih]
  | swap x y L => show y + (x + L.foldr (· + ·) 0) = x + (y + L.foldr (· + ·) 0); rw [← Int64.add_assoc, ← Int64.add_assoc, Int64.add_comm y x]
  | trans _ _ ih1 ih2 => exact ih1.trans ih2
theorem cnt_split {t v : Int64} (h : ∀ x : Int64, t < x ↔ (v < x ∨ x = v)) : ∀ X : List Int64, X.countP (fun x => decide (t < x)) = X.countP (fun x => decide (v < x)) + X.count v
  | [] => rfl
  | x :: X => by
    rw [List.countP_cons, List.countP_cons, List.count_cons, cnt_split h X]
    have hnot : ¬ (v < x ∧ x = v) := fun z => by rw [z.2, Int64.lt_iff_toInt_lt] at z; omega
    by_cases h1 : v < x
    · have h2 : ¬ x = v := fun z => hnot ⟨h1, z⟩
      simp [(h x).mpr (Or.inl h1), h1, h2]; omega
    · by_cases h2 : x = v
      · have h3 := (h x).mpr (Or.inr h2)
        rw [if_pos (by simpa using h3), if_neg (by simpa using h1), if_pos (by simpa using h2)]; omega
      · have h3 : ¬ t < x := fun z => ((h x).mp z).elim h1 h2
        simp [h3, h1, h2]
theorem perm_cnt {X Y : List Int64} (hX : ∀ x ∈ X, 0 ≤ x.toInt) (hY : ∀ x ∈ Y, 0 ≤ x.toInt) (h : ∀ t : Int64, X.countP (fun x => decide (t < x)) = Y.countP (fun x => decide (t < x))) : X.Perm Y := by
  refine List.perm_iff_count.mpr (fun v => ?_)
  by_cases hv : 0 ≤ v.toInt
  · have ht : (v - 1).toInt = v.toInt - 1 := by
      rw [Int64.toInt_sub, show (1 : Int64).toInt = 1 from by decide]
      have h9 := Int64.toInt_le v
      rw [show Int64.maxValue.toInt = 9223372036854775807 from by decide] at h9
      exact Int.bmod_eq_of_le (by omega) (by omega)
    have hs : ∀ x : Int64, v - 1 < x ↔ (v < x ∨ x = v) := fun x => by
      rw [Int64.lt_iff_toInt_lt, Int64.lt_iff_toInt_lt, ht]
      constructor
      · intro h
        by_cases e : v.toInt < x.toInt
        · exact Or.inl e
        · exact Or.inr (Int64.toInt_inj.mp (by omega))
      · rintro (h | h)
        · omega
        · rw [h]; omega
    have e1 := cnt_split hs X
    have e2 := cnt_split hs Y
    rw [h (v - 1), h v] at e1
    omega
  · rw [List.count_eq_zero.mpr (fun z => hv (hX v z)), List.count_eq_zero.mpr (fun z => hv (hY v z))]
theorem span_eq {P : Nat → Option (Nat → Int32)} {A A' : Nat → Nat} {ln ln' : Nat → Int64} (hP : okP P) (h : PR P A ln) (h' : PR P A' ln') : sumN ln (lcP P - 1) = sumN ln' (lcP P - 1) := by
  have nn : ∀ {A ln}, PR P A ln → ∀ x ∈ lnL ln (lcP P - 1), 0 ≤ x.toInt := by
    intro A ln h x hx
    obtain ⟨j, hj, rfl⟩ := List.mem_map.mp hx
    have hj := List.mem_range.mp hj
    obtain ⟨⟨a, ha, e⟩, _⟩ := h.2 (1 + j) (by omega) (by omega) (by omega)
    obtain ⟨g1, p, hp⟩ := lvI_mem.mp (h.1.2.1 a (by omega))
    obtain ⟨g2, q, hq⟩ := lvI_mem.mp (h.1.2.1 (1 + j) (by omega))
    rw [e, DI_ss hp hq]
    exact (pDist_int (hP _ p g1 hp) (hP _ q g2 hq)).1
  rw [sumN_fold, sumN_fold]
  refine perm_fold (perm_cnt (nn h) (nn h') (fun t => ?_))
  have e := CC_uniq (DI_symm hP) (prim_CC hP h t) (prim_CC hP h' t)
  unfold prtN at e
  rw [prt_cnt, prt_cnt] at e
  omega
