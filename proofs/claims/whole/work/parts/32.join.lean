def swp {α : Type} (f : Nat → α) (j b : Nat) : Nat → α := fun k => if k = b then f j else if k = j then f b else f k
theorem swp_lo {α : Type} {f : Nat → α} {j b k : Nat} (h : k < j) (hb : j ≤ b) : swp f j b k = f k := by
  unfold swp
  rw [if_neg (by omega), if_neg (by omega)]
def sgm (j b k : Nat) : Nat := if k = b then j else if k = j then b else k
theorem swp_sgm {α : Type} (f : Nat → α) (j b k : Nat) : swp f j b k = f (sgm j b k) := by
  unfold swp sgm
  split
  · rfl
  · split <;> rfl
theorem sgm_sgm (j b k : Nat) : sgm j b (sgm j b k) = k := by
  unfold sgm
  by_cases h1 : k = b
  · by_cases h2 : j = b
    · simp [h1, h2]
    · simp [h1, h2]
  · by_cases h2 : k = j
    · simp [h1, h2]
    · simp [h1, h2]
theorem sgm_lt {j b k n : Nat} (hj : j < n) (hb : b < n) (hk : k < n) : sgm j b k < n := by
  unfold sgm
  split
  · exact hj
  · split <;> assumption
theorem sgm_ge {j b k i : Nat} (hi : i ≤ j) (hb : j ≤ b) (hk : i ≤ k) : i ≤ sgm j b k := by
  unfold sgm
  split
  · exact hi
  · split <;> omega
def pFin (D : Nat → Nat → Int64) (A : Nat → Nat) (ln : Nat → Int64) (n j : Nat) : Prop := ∀ i, 1 ≤ i → i < j → i < n → (∃ a, a < i ∧ ln i = D (A a) (A i)) ∧ ∀ a b, a < i → i ≤ b → b < n → ln i ≤ D (A a) (A b)
def pPen (D : Nat → Nat → Int64) (A : Nat → Nat) (ln : Nat → Int64) (n j m : Nat) : Prop := ∀ i, j ≤ i → i < n → (∀ a, a < m → ln i ≤ D (A a) (A i)) ∧ ((m = 0 ∧ ln i = 9223372036854775807) ∨ ∃ a, a < m ∧ ln i = D (A a) (A i))
def pPrm (G : List Nat) (A : Nat → Nat) (n : Nat) : Prop := (∀ i k, i < n → k < n → A i = A k → i = k) ∧ (∀ i, i < n → A i ∈ G) ∧ ∀ g ∈ G, ∃ i, i < n ∧ A i = g
theorem i64_max (x : Int64) : x ≤ 9223372036854775807 := by
  rw [Int64.le_iff_toInt_le]
  exact Int64.toInt_le x
theorem pPen_reach {D : Nat → Nat → Int64} {A : Nat → Nat} {ln : Nat → Int64} {n j m : Nat} (h : pPen D A ln n j m) : pPen D A (fun i => if D (A m) (A i) < ln i then D (A m) (A i) else ln i) n j (m + 1) := by
  intro i i1 i2
  obtain ⟨h1, h2⟩ := h i i1 i2
  by_cases q : D (A m) (A i) < ln i
  · simp only [q, if_true]
    refine ⟨fun a ha => ?_, Or.inr ⟨m, by omega, rfl⟩⟩
    rcases Nat.lt_or_ge a m with e | e
    · exact Int64.le_trans (Int64.le_of_lt q) (h1 a e)
    · rw [show a = m by omega]; exact Int64.le_refl _
  · simp only [q, if_false]
    refine ⟨fun a ha => ?_, Or.inr ?_⟩
    · rcases Nat.lt_or_ge a m with e | e
      · exact h1 a e
      · rw [show a = m by omega]; exact Int64.not_lt.mp q
    · rcases h2 with ⟨h2, h3⟩ | ⟨a, h2, h3⟩
      · exact ⟨m, by omega, Int64.le_antisymm (Int64.not_lt.mp q) (by rw [h3]; exact i64_max _)⟩
      · exact ⟨a, by omega, h3⟩
theorem pPrm_swp {G : List Nat} {A : Nat → Nat} {n j b : Nat} (hj : j < n) (hb : b < n) (h : pPrm G A n) : pPrm G (swp A j b) n := by
  obtain ⟨h1, h2, h3⟩ := h
  refine ⟨fun i k hi hk e => ?_, fun i hi => ?_, fun g hg => ?_⟩
  · rw [swp_sgm, swp_sgm] at e
    have := h1 _ _ (sgm_lt hj hb hi) (sgm_lt hj hb hk) e
    rw [← sgm_sgm j b i, this, sgm_sgm]
  · rw [swp_sgm]; exact h2 _ (sgm_lt hj hb hi)
  · obtain ⟨i, hi, e⟩ := h3 g hg
    exact ⟨sgm j b i, sgm_lt hj hb hi, by rw [swp_sgm, sgm_sgm]; exact e⟩
theorem prim_step {D : Nat → Nat → Int64} {A : Nat → Nat} {ln : Nat → Int64} {n j b : Nat} (hj : j < n) (h0 : 1 ≤ j) (hjb : j ≤ b) (hb : b < n) (hmin : ∀ i, j ≤ i → i < n → ln b ≤ ln i) (hf : pFin D A ln n j) (hp : pPen D A ln n j j) : pFin D (swp A j b) (swp ln j b) n (j + 1) ∧ pPen D (swp A j b) (swp ln j b) n (j + 1) j := by
  constructor
  · intro i i1 i2 i3
    rcases Nat.lt_or_ge i j with e | e
    · obtain ⟨⟨a, ha, h1⟩, h2⟩ := hf i i1 e i3
      refine ⟨⟨a, ha, ?_⟩, fun a' b' ha' hb' hbn => ?_⟩
      · rw [swp_lo e hjb, swp_lo (by omega) hjb, swp_lo e hjb]; exact h1
      · rw [swp_lo e hjb, swp_lo (show a' < j by omega) hjb, swp_sgm]
        exact h2 a' _ ha' (sgm_ge (by omega) hjb hb') (sgm_lt hj hb hbn)
    · obtain rfl : i = j := by omega
      have hs : sgm i b i = b := by unfold sgm; split <;> simp_all
      obtain ⟨h1, h2⟩ := hp b hjb hb
      refine ⟨?_, fun a' b' ha' hb' hbn => ?_⟩
      · rcases h2 with ⟨h2, -⟩ | ⟨a, h2, h3⟩
        · omega
        · exact ⟨a, h2, by rw [swp_lo h2 hjb, swp_sgm ln, swp_sgm A, hs]; exact h3⟩
      · rw [swp_lo ha' hjb, swp_sgm ln, hs, swp_sgm A]
        refine Int64.le_trans (hmin (sgm i b b') (sgm_ge (Nat.le_refl _) hjb hb') (sgm_lt hj hb hbn)) ?_
        exact (hp _ (sgm_ge (Nat.le_refl _) hjb hb') (sgm_lt hj hb hbn)).1 a' ha'
  · intro i i1 i2
    have hg := sgm_ge (Nat.le_refl j) hjb (show j ≤ i by omega)
    obtain ⟨h1, h2⟩ := hp (sgm j b i) hg (sgm_lt hj hb i2)
    rw [swp_sgm ln, swp_sgm A _ _ i]
    refine ⟨fun a ha => by rw [swp_lo ha hjb]; exact h1 a ha, ?_⟩
    rcases h2 with ⟨h2, h3⟩ | ⟨a, h2, h3⟩
    · exact Or.inl ⟨h2, h3⟩
    · exact Or.inr ⟨a, h2, by rw [swp_lo h2 hjb]; exact h3⟩
theorem nodup_get {l : List Nat} (h : l.Nodup) {i k : Nat} (hi : i < l.length) (hk : k < l.length) (e : l[i] = l[k]) : i = k := by
  have hp := List.pairwise_iff_getElem.mp h
  rcases Nat.lt_trichotomy i k with q | q | q
  · exact absurd e (hp i k hi hk q)
  · exact q
  · exact absurd e.symm (hp k i hk hi q)
def dA (dt : Nat → gPt) (a b : Nat) : Int64 := pDist (dt a).2 (dt b).2

set_option maxHeartbeats 4000000 in
set_option maxRecDepth 100000 in
theorem c_joinAll (l : Launch) (Γ : gG) (K : gK) (F : gF) (sz : Nat) (J lb pts lens : Nat) (nd : Nat → Option Nat) (dt : Nat → gPt) (pl : Nat → Nat) (dd : Nat → Bool) (hk : K J = some (0, 0)) (hkl : K lb = some (11, 100)) (hkp : K pts = some (11, 60)) (hke : K lens = some (9, 60)) (hlp : lb ≠ pts) (h0 : F J 0 = .ref pts) (h1 : F J 1 = .ref lens) (hN9 : rowN F lb nd) (hnk : ∀ i a, i < 100 → nd i = some a → K a = some (2, 0)) (hND : NDs K F dt pl dd (gLive nd 100)) (hnd : (gLive nd 100).Nodup) (h60 : (gLive nd 100).length ≤ 60) : gMM l yX0_joinAll wsX0_joinAll 3 0 0 Γ K F sz [.ref J, .ref lb] (fun v K' F' => v = none ∧ K' = K ∧ ∃ (A : Nat → Nat) (ln : Nat → Int64), pPrm (gLive nd 100) A (gLive nd 100).length ∧ pFin (dA dt) A ln (gLive nd 100).length (gLive nd 100).length ∧ F' J 2 = .int (nI (gLive nd 100).length) ∧ (∀ i, i < (gLive nd 100).length → F' lens i = .long (ln i)) ∧ ∀ b i, b ≠ pts → b ≠ lens → ¬ (b = J ∧ i = 2) → F' b i = F b i) := by
  refine g_mM (cc := cX0_joinAll) (maxL := 3) (ret := none) (by decide) rfl (Nat.le_of_ble_eq_true rfl) ?_
  intro p e s m args below meth c ls Z hsz hx hb hts hown hml hnm hN hW hret hl
  have hl : lv_has ls 3 [(0, .ref J), (1, .ref lb)] := hl
  have hown : s.vm.findClass RX0 = some m.cls := hown
  have hi0 : ∀ w ∈ wsX00, w ∈ wsX0_joinAll := by decide +kernel
  have hfX0_11 : Cond.fieldLink RX0 11 (TX0 0).1 (TX0 0).2.1 (TX0 0).2.2.1 ∈ wsX0_joinAll := by decide +kernel
  have hfX0_17 : Cond.fieldLink RX0 17 (TX0 1).1 (TX0 1).2.1 (TX0 1).2.2.1 ∈ wsX0_joinAll := by decide +kernel
  have hfX0_21 : Cond.fieldLink RX0 21 (TX0 2).1 (TX0 2).2.1 (TX0 2).2.2.1 ∈ wsX0_joinAll := by decide +kernel
  generalize hG : gLive nd 100 = G at hret h60 hND hnd
  generalize hn : G.length = n at hret h60
  have hJp : J ≠ pts := kne hk hkp (by decide)
  have hJe : J ≠ lens := kne hk hke (by decide)
  have hpe : pts ≠ lens := kne hkp hke (by decide)
  have main : ∀ (r j : Nat) (A : Nat → Nat) (ln : Nat → Int64) (F1 : gF) (H : Heap) (locs : List Loc) (ls : Array Slot), n ≤ j + r → 1 ≤ j → j ≤ 61 → pPrm G A n → pFin (dA dt) A ln n j → pPen (dA dt) A ln n j (j - 1) → F1 J 2 = .int (nI n) → (∀ i, i < n → F1 pts i = .ref (A i)) → (∀ i, i < n → F1 lens i = .long (ln i)) → (∀ b i, b ≠ pts → b ≠ lens → ¬ (b = J ∧ i = 2) → F1 b i = F b i) → gW Γ (gA K sz) s.heap K F1 H locs → lv_has ls 3 [(2, .int (nI j)), (0, .ref J), (1, .ref lb)] → W p l e (gRm 3 0 0) s m args below meth c H locs 0 0 Z (F0 m 32 ls []) := by
    intro r
    induction r with
    | zero =>
      intro j A ln F1 H locs ls hr hj1 hj61 hprm hfin hpen hz hpt hln hfr hW hl
      have nJ : ∀ i, i ≠ 2 → F1 J i = F J i := fun i hi => hfr J i hJp hJe (fun z => hi z.2)
      refine lv_iload_n hx hb dX0_joinAll_32 rfl (lv_at hl 0 rfl) ?_
      refine lv_aload_n hx hb dX0_joinAll_33 rfl (lv_at hl 1 rfl) ?_
      refine g_get (C := RX0) (T := TX0) (N := 6) hx hb hts hi0 hown hN hW.1 hk rfl (by decide) 2 (by decide) hfX0_21 (v := .int (nI n)) hz dX0_joinAll_34 ?_
      refine lv_icmp_ge (tgt := 69) hx hb dX0_joinAll_37 (by decide) (fun c1 => ?_) (fun c1 => ?_)
      · have c1 : n ≤ j := (nI_leI (by omega) (by omega)).mp c1
        exact hret none _ _ _ _ _ _ hW (⟨rfl, rfl, A, ln, hprm, fun i i1 _ i2 => hfin i i1 (by omega) i2, hz, hln, hfr⟩) (rt_v dX0_joinAll_69)
      · have c1 : j < n := Nat.not_le.mp (fun z => c1 ((nI_leI (by omega) (by omega)).mpr z))
        exact absurd c1 (by omega)
    | succ r ih =>
      intro j A ln F1 H locs ls hr hj1 hj61 hprm hfin hpen hz hpt hln hfr hW hl
      have nJ : ∀ i, i ≠ 2 → F1 J i = F J i := fun i hi => hfr J i hJp hJe (fun z => hi z.2)
      refine lv_iload_n hx hb dX0_joinAll_32 rfl (lv_at hl 0 rfl) ?_
      refine lv_aload_n hx hb dX0_joinAll_33 rfl (lv_at hl 1 rfl) ?_
      refine g_get (C := RX0) (T := TX0) (N := 6) hx hb hts hi0 hown hN hW.1 hk rfl (by decide) 2 (by decide) hfX0_21 (v := .int (nI n)) hz dX0_joinAll_34 ?_
      refine lv_icmp_ge (tgt := 69) hx hb dX0_joinAll_37 (by decide) (fun c1 => ?_) (fun c1 => ?_)
      · have c1 : n ≤ j := (nI_leI (by omega) (by omega)).mp c1
        exact hret none _ _ _ _ _ _ hW (⟨rfl, rfl, A, ln, hprm, fun i i1 _ i2 => hfin i i1 (by omega) i2, hz, hln, hfr⟩) (rt_v dX0_joinAll_69)
      · have c1 : j < n := Nat.not_le.mp (fun z => c1 ((nI_leI (by omega) (by omega)).mpr z))
        have np : ∀ b j, (K b = some (2, 0) ∧ j < 2) ∨ K b = some (3, 0) → F1 b j = F b j := fun b j q => hfr b j (q.elim (fun q => kne q.1 hkp (by decide)) (fun q => kne q hkp (by decide))) (q.elim (fun q => kne q.1 hke (by decide)) (fun q => kne q hke (by decide))) (fun z => q.elim (fun q => kne q.1 hk (by decide) z.1) (fun q => kne q hk (by decide) z.1))
        have nd1 : ∀ i, i < n → ndD K F1 (A i) (pl (A i)) (dt (A i)) := fun i hi => ndD_congr np (hND (A i) (hprm.2.1 i hi)).1
        have e1 : j + (n - j) = n := by omega
        have e2 : j + 1 + (n - j - 1) = n := by omega
        refine lv_aload_n hx hb dX0_joinAll_40 rfl (lv_at hl 1 rfl) ?_
        refine lv_aload_n hx hb dX0_joinAll_41 rfl (lv_at hl 1 rfl) ?_
        refine g_get (C := RX0) (T := TX0) (N := 6) hx hb hts hi0 hown hN hW.1 hk rfl (by decide) 0 (by decide) hfX0_11 (v := .ref pts) ((nJ 0 (by decide)).trans h0) dX0_joinAll_42 ?_
        refine lv_iload_n hx hb dX0_joinAll_45 rfl (lv_at hl 0 rfl) ?_
        refine lv_iconst (v := nI 1) hx hb dX0_joinAll_46 (by decide) ?_
        refine lv_isub hx hb dX0_joinAll_47 ?_
        refine g_asi (show _ = nI (j - 1) from pk_sub (by omega)) ?_
        refine g_aald (j := j - 1) hx hb hN hW.1 hkp (by decide) (show _ = nI (j - 1) from rfl) (by omega) (v := .ref (A (j - 1))) (hpt (j - 1) (by omega)) dX0_joinAll_48 ?_
        refine lv_iload_n hx hb dX0_joinAll_49 rfl (lv_at hl 0 rfl) ?_
        refine g_mV (As := [.ref (A (j - 1)), .int (nI j)]) (b := J) (rest := []) hx hb hml hown hts hN hW (c_reachFrom l Γ K F1 H.size J pts lens (A (j - 1)) (pl (A (j - 1))) j (n - j) (dt (A (j - 1))) A (fun i => pl (A i)) (fun i => dt (A i)) ln hk hkp hke ((nJ 0 (by decide)).trans h0) ((nJ 1 (by decide)).trans h1) (by rw [e1]; exact hz) (nd1 (j - 1) (by omega)) (fun i _ i2 => ⟨hpt i (by omega), nd1 i (by omega)⟩) (fun i _ i2 => hln i (by omega)) (by omega)) gX0_joinAll_X0_reachFrom rfl hk (by decide) rfl (na := 2) rfl (by decide +kernel) ⟨by decide, by decide⟩ ⟨Nat.le_of_ble_eq_true rfl, Nat.le_of_ble_eq_true rfl⟩ rfl hl.1 (Nat.le_of_ble_eq_true rfl) dX0_joinAll_50 (fun v K' F2 H locs hp hW hsz' => ?_)
        obtain ⟨rfl, hK9, hln2, hfr2⟩ := hp
        subst K'
        show W _ _ _ _ _ _ _ _ _ _ _ _ _ _ _ (F0 m 53 ls [])
        rw [e1] at hln2 hfr2
        obtain ⟨ln2, hle⟩ : ∃ ln2 : Nat → Int64, ln2 = fun i => if j ≤ i then (if dA dt (A (j - 1)) (A i) < ln i then dA dt (A (j - 1)) (A i) else ln i) else ln i := ⟨_, rfl⟩
        have hlo : ∀ i, i < j → ln2 i = ln i := fun i hi => by rw [hle]; exact if_neg (by omega)
        have hhi : ∀ i, j ≤ i → ln2 i = if dA dt (A (j - 1)) (A i) < ln i then dA dt (A (j - 1)) (A i) else ln i := fun i hi => by rw [hle]; exact if_pos hi
        have hl2 : ∀ i, i < n → F2 lens i = .long (ln2 i) := fun i hi => by
          rcases Nat.lt_or_ge i j with q | q
          · rw [hfr2 lens i (fun z => by omega), hln i hi, hlo i q]
          · rw [hln2 i q hi, hhi i q]; rfl
        have hpen2 : pPen (dA dt) A ln2 n j j := fun i i1 i2 => by
          have := pPen_reach hpen i i1 i2
          rw [show j - 1 + 1 = j by omega] at this
          rw [hhi i i1]
          exact this
        have hfin2 : pFin (dA dt) A ln2 n j := fun i i1 i2 i3 => by
          rw [hlo i i2]
          exact hfin i i1 i2 i3
        have n2J : ∀ i, F2 J i = F1 J i := fun i => hfr2 J i (fun z => hJe z.1)
        have n2p : ∀ i, F2 pts i = F1 pts i := fun i => hfr2 pts i (fun z => hpe z.1)
        have hb1 := lstF_in (ln := ln2) (fr := j) (n := n - j - 1)
        have hb2 := lstF_min (ln := ln2) (fr := j) (n := n - j - 1)
        rw [e2] at hb1 hb2
        refine lv_aload_n hx hb dX0_joinAll_53 rfl (lv_at hl 1 rfl) ?_
        refine lv_iload_n hx hb dX0_joinAll_54 rfl (lv_at hl 0 rfl) ?_
        refine lv_aload_n hx hb dX0_joinAll_55 rfl (lv_at hl 1 rfl) ?_
        refine lv_iload_n hx hb dX0_joinAll_56 rfl (lv_at hl 0 rfl) ?_
        refine g_cV (v := (some (.int (nI (lstF ln2 j (n - j - 1)))))) (As := [.int (nI j)]) (b := J) (rest := [.int (nI j), .ref J]) hx hb hml hown hts hN hW.1 (c_leastFrom l Γ K F2 J lens j (n - j - 1) ln2 hk hke (by rw [n2J]; exact (nJ 1 (by decide)).trans h1) (by rw [n2J, e2]; exact hz) (fun i hi => hl2 i (by omega)) (by omega)) gX0_joinAll_X0_leastFrom rfl hk (by decide) rfl (na := 1) rfl (by decide +kernel) ⟨by decide, by decide⟩ ⟨Nat.zero_le _, Nat.zero_le _⟩ rfl hl.1 (Nat.le_of_ble_eq_true rfl) dX0_joinAll_57 ?_
        show W _ _ _ _ _ _ _ _ _ _ _ _ _ _ _ (F0 m 60 ls [.int (nI (lstF ln2 j (n - j - 1))), .int (nI j), .ref J])
        generalize hbe : lstF ln2 j (n - j - 1) = b at hb1 hb2
        show W _ _ _ _ _ _ _ _ _ _ _ _ _ _ _ (F0 m 60 ls [.int (nI b), .int (nI j), .ref J])
        refine g_mV (As := [.int (nI j), .int (nI b)]) (b := J) (rest := []) hx hb hml hown hts hN hW (c_swap l Γ K F2 H.size J pts lens j b (A j) (A b) (ln2 j) (ln2 b) hk hkp hke (by rw [n2J]; exact (nJ 0 (by decide)).trans h0) (by rw [n2J]; exact (nJ 1 (by decide)).trans h1) (nd1 j (by omega)).1 (nd1 b (by omega)).1 (by omega) (by omega) (by rw [n2p]; exact hpt j (by omega)) (by rw [n2p]; exact hpt b (by omega)) (hl2 j (by omega)) (hl2 b (by omega))) gX0_joinAll_X0_swap rfl hk (by decide) rfl (na := 2) rfl (by decide +kernel) ⟨by decide, by decide⟩ ⟨Nat.le_of_ble_eq_true rfl, Nat.le_of_ble_eq_true rfl⟩ rfl hl.1 (Nat.le_of_ble_eq_true rfl) dX0_joinAll_60 (fun v K' F3 H locs hp hW hsz' => ?_)
        obtain ⟨rfl, hK9, hF3⟩ := hp
        subst K'
        show W _ _ _ _ _ _ _ _ _ _ _ _ _ _ _ (F0 m 63 ls [])
        refine lv_iinc (v := nI (j + 1)) (lv' := [(2, .int (nI (j + 1))), (0, .ref J), (1, .ref lb)]) hx hb dX0_joinAll_63 hl (k := 0) rfl (inc1 _) (by decide) rfl (fun ls hl => ?_)
        refine lv_goto (tgt := 32) hx hb dX0_joinAll_66 (by decide) ?_
        have hst := prim_step c1 hj1 hb1.1 hb1.2 hb2 hfin2 hpen2
        refine ih (j + 1) (swp A j b) (swp ln2 j b) F3 H locs ls (by omega) (by omega) (by omega) (pPrm_swp c1 hb1.2 hprm) hst.1 (by rw [show j + 1 - 1 = j by omega]; exact hst.2) ?_ (fun i hi => ?_) (fun i hi => ?_) (fun c i c1 c2 c3 => ?_) hW (lv_sub hl [0, 1, 2] rfl)
        · rw [hF3, gU_a hJe, gU_a hJe, gU_a hJp, gU_a hJp, n2J]; exact hz
        · rw [hF3, gU_a hpe, gU_a hpe]
          unfold swp
          by_cases q1 : i = b
          · rw [if_pos q1, q1, gU_self]
          · rw [if_neg q1, gU_k q1]
            by_cases q2 : i = j
            · rw [if_pos q2, q2, gU_self]
            · rw [if_neg q2, gU_k q2, n2p]; exact hpt i hi
        · rw [hF3]
          unfold swp
          by_cases q1 : i = b
          · rw [if_pos q1, q1, gU_self]
          · rw [if_neg q1, gU_k q1]
            by_cases q2 : i = j
            · rw [if_pos q2, q2, gU_self]
            · rw [if_neg q2, gU_k q2, gU_a (Ne.symm hpe), gU_a (Ne.symm hpe)]; exact hl2 i hi
        · rw [hF3, gU_a c2, gU_a c2, gU_a c1, gU_a c1, hfr2 c i (fun z => c2 z.1)]; exact hfr c i c1 c2 c3
  have fill : ∀ (r k : Nat) (F1 : gF) (H : Heap) (locs : List Loc) (ls : Array Slot), k + r = n → F1 J 2 = .int (nI n) → rowL F1 pts 0 (G.map vRf) → (∀ i, i < k → F1 lens i = .long 9223372036854775807) → (∀ b i, b ≠ pts → b ≠ lens → ¬ (b = J ∧ i = 2) → F1 b i = F b i) → gW Γ (gA K sz) s.heap K F1 H locs → lv_has ls 3 [(2, .int (nI k)), (0, .ref J), (1, .ref lb)] → W p l e (gRm 3 0 0) s m args below meth c H locs 0 0 Z (F0 m 7 ls []) := by
    intro r
    induction r with
    | zero =>
      intro k F1 H locs ls hr hz hrow hln hfr hW hl
      have nJ : ∀ i, i ≠ 2 → F1 J i = F J i := fun i hi => hfr J i hJp hJe (fun z => hi z.2)
      refine lv_iload_n hx hb dX0_joinAll_7 rfl (lv_at hl 0 rfl) ?_
      refine lv_aload_n hx hb dX0_joinAll_8 rfl (lv_at hl 1 rfl) ?_
      refine g_get (C := RX0) (T := TX0) (N := 6) hx hb hts hi0 hown hN hW.1 hk rfl (by decide) 2 (by decide) hfX0_21 (v := .int (nI n)) hz dX0_joinAll_9 ?_
      refine lv_icmp_ge (tgt := 30) hx hb dX0_joinAll_12 (by decide) (fun c1 => ?_) (fun c1 => ?_)
      · have c1 : n ≤ k := (nI_leI (by omega) (by omega)).mp c1
        refine lv_iconst (v := nI 1) hx hb dX0_joinAll_30 (by decide) ?_
        refine lv_istore_n (lv' := [(2, .int (nI 1)), (0, .ref J), (1, .ref lb)]) hx hb dX0_joinAll_31 rfl hl (by decide) rfl (fun ls hl => ?_)
        refine main n 1 (fun i => G.getD i 0) (fun _ => 9223372036854775807) F1 H locs ls (by omega) (by omega) (by omega) ⟨fun i k hi hk e => ?_, fun i hi => ?_, fun g hg => ?_⟩ (fun i i1 i2 _ => absurd i1 (by omega)) (fun i _ _ => ⟨fun a ha => absurd ha (by omega), Or.inl ⟨rfl, rfl⟩⟩) hz (fun i hi => ?_) (fun i hi => hln i (by omega)) hfr hW (lv_sub hl [0, 1, 2] rfl)
        · rw [← hn] at hi hk
          simp only [List.getD_eq_getElem?_getD, List.getElem?_eq_getElem hi, List.getElem?_eq_getElem hk, Option.getD_some] at e
          exact nodup_get hnd hi hk e
        · rw [← hn] at hi
          simp only [List.getD_eq_getElem?_getD, List.getElem?_eq_getElem hi, Option.getD_some]
          exact List.getElem_mem hi
        · obtain ⟨i, hi, e⟩ := List.mem_iff_getElem.mp hg
          exact ⟨i, by omega, by simp only [List.getD_eq_getElem?_getD, List.getElem?_eq_getElem hi, Option.getD_some]; exact e⟩
        · rw [← hn] at hi
          have := hrow i (.ref (G.getD i 0)) (by rw [List.getElem?_map, List.getD_eq_getElem?_getD, List.getElem?_eq_getElem hi]; rfl)
          rw [Nat.zero_add] at this
          exact this
      · have c1 : k < n := Nat.not_le.mp (fun z => c1 ((nI_leI (by omega) (by omega)).mpr z))
        exact absurd c1 (by omega)
    | succ r ih =>
      intro k F1 H locs ls hr hz hrow hln hfr hW hl
      have nJ : ∀ i, i ≠ 2 → F1 J i = F J i := fun i hi => hfr J i hJp hJe (fun z => hi z.2)
      refine lv_iload_n hx hb dX0_joinAll_7 rfl (lv_at hl 0 rfl) ?_
      refine lv_aload_n hx hb dX0_joinAll_8 rfl (lv_at hl 1 rfl) ?_
      refine g_get (C := RX0) (T := TX0) (N := 6) hx hb hts hi0 hown hN hW.1 hk rfl (by decide) 2 (by decide) hfX0_21 (v := .int (nI n)) hz dX0_joinAll_9 ?_
      refine lv_icmp_ge (tgt := 30) hx hb dX0_joinAll_12 (by decide) (fun c1 => ?_) (fun c1 => ?_)
      · have c1 : n ≤ k := (nI_leI (by omega) (by omega)).mp c1
        exact absurd c1 (by omega)
      · have c1 : k < n := Nat.not_le.mp (fun z => c1 ((nI_leI (by omega) (by omega)).mpr z))
        refine lv_aload_n hx hb dX0_joinAll_15 rfl (lv_at hl 1 rfl) ?_
        refine g_get (C := RX0) (T := TX0) (N := 6) hx hb hts hi0 hown hN hW.1 hk rfl (by decide) 1 (by decide) hfX0_17 (v := .ref lens) ((nJ 1 (by decide)).trans h1) dX0_joinAll_16 ?_
        refine lv_iload_n hx hb dX0_joinAll_19 rfl (lv_at hl 0 rfl) ?_
        refine lv_ldc2 (v := 9223372036854775807) hx hb hown (hts _ (show Cond.constantLong RX0 27 (9223372036854775807) ∈ _ by decide +kernel)) dX0_joinAll_20 ?_
        refine g_last (j := k) hx hb hN hW hke (by decide) (show _ = nI k from rfl) (by omega) dX0_joinAll_23 (fun H locs hW => ?_)
        refine lv_iinc (v := nI (k + 1)) (lv' := [(2, .int (nI (k + 1))), (0, .ref J), (1, .ref lb)]) hx hb dX0_joinAll_24 hl (k := 0) rfl (inc1 _) (by decide) rfl (fun ls hl => ?_)
        refine lv_goto (tgt := 7) hx hb dX0_joinAll_27 (by decide) ?_
        exact ih (k + 1) _ H locs ls (by omega) (by rw [gU_a hJe]; exact hz) (hrow.up (Or.inl (Ne.symm hpe))) (fun i hi => by
          rcases Nat.lt_or_ge i k with q | q
          · rw [gU_k (by omega)]; exact hln i q
          · rw [show i = k by omega]; exact gU_self) (fun b i b1 b2 b3 => by rw [gU_a b2]; exact hfr b i b1 b2 b3) hW (lv_sub hl [0, 1, 2] rfl)
  refine lv_aload_n hx hb dX0_joinAll_0 rfl (lv_at hl 0 rfl) ?_
  refine lv_aload_n hx hb dX0_joinAll_1 rfl (lv_at hl 1 rfl) ?_
  refine g_mV (As := [.ref lb]) (b := J) (rest := []) hx hb hml hown hts hN hW (c_gather l Γ K F _ J lb pts nd hk hkl hkp hlp h0 hN9 hnk (by rw [hG, hn]; exact h60)) gX0_joinAll_X0_gather rfl hk (by decide) rfl (na := 1) rfl (by decide +kernel) ⟨by decide, by decide⟩ ⟨Nat.le_of_ble_eq_true rfl, Nat.le_of_ble_eq_true rfl⟩ rfl hl.1 (Nat.le_of_ble_eq_true rfl) dX0_joinAll_2 (fun v K' F1 H locs hp hW hsz' => ?_)
  obtain ⟨rfl, hK9, hz1, hrow1, hfr1⟩ := hp
  subst K'
  show W _ _ _ _ _ _ _ _ _ _ _ _ _ _ _ (F0 m 5 ls [])
  rw [hG] at hz1 hrow1
  rw [hn] at hz1
  refine lv_iconst (v := nI 0) hx hb dX0_joinAll_5 (by decide) ?_
  refine lv_istore_n (lv' := [(2, .int (nI 0)), (0, .ref J), (1, .ref lb)]) hx hb dX0_joinAll_6 rfl hl (by decide) rfl (fun ls hl => ?_)
  exact fill n 0 F1 H locs ls (by omega) hz1 hrow1 (fun i hi => absurd hi (by omega)) (fun b i b1 _ b3 => hfr1 b i b1 b3) hW (lv_sub hl [0, 1, 2] rfl)
