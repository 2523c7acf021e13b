/-- n rounds of a loop from the index a on -/
def itr {σ : Type} (f : Nat → σ → σ) (a : Nat) : Nat → σ → σ
  | 0, s => s
  | n + 1, s => f (a + n) (itr f a n s)
/-- the live ones, by their IDS -/
def gLive (nd : Nat → Option Nat) (k : Nat) : List Nat := (List.range k).filterMap nd
theorem gLive_none {nd : Nat → Option Nat} {k : Nat} (h : nd k = none) : gLive nd (k + 1) = gLive nd k := by simp [gLive, List.range_succ, List.filterMap_append, h]
theorem gLive_some {nd : Nat → Option Nat} {k a : Nat} (h : nd k = some a) : gLive nd (k + 1) = gLive nd k ++ [a] := by simp [gLive, List.range_succ, List.filterMap_append, h]
theorem gLive_le {nd : Nat → Option Nat} {k m : Nat} (h : k ≤ m) : (gLive nd k).length ≤ (gLive nd m).length := by
  induction m with
  | zero => rw [Nat.le_zero.mp h]; exact Nat.le_refl _
  | succ m ih =>
    rcases Nat.lt_or_ge m k with q | q
    · rw [show k = m + 1 by omega]; exact Nat.le_refl _
    · refine Nat.le_trans (ih q) ?_
      cases e : nd m with
      | none => rw [gLive_none e]; exact Nat.le_refl _
      | some a => rw [gLive_some e, List.length_append]; omega
/-- a row by the IDS -/
def rowN (F : gF) (lb : Nat) (nd : Nat → Option Nat) : Prop := ∀ i, i < 100 → F lb i = va_rf (nd i)

set_option maxHeartbeats 4000000 in
set_option maxRecDepth 100000 in
theorem c_gather (l : Launch) (Γ : gG) (K : gK) (F : gF) (sz : Nat) (J lb pts : Nat) (nd : Nat → Option Nat) (hk : K J = some (0, 0)) (hkl : K lb = some (11, 100)) (hkp : K pts = some (11, 60)) (hlp : lb ≠ pts) (h0 : F J 0 = .ref pts) (hN9 : rowN F lb nd) (hnk : ∀ i a, i < 100 → nd i = some a → K a = some (2, 0)) (h60 : (gLive nd 100).length ≤ 60) : gMM l yX0_gather wsX0_gather 0 0 0 Γ K F sz [.ref J, .ref lb] (fun v K' F' => v = none ∧ K' = K ∧ F' J 2 = .int (nI (gLive nd 100).length) ∧ rowL F' pts 0 ((gLive nd 100).map vRf) ∧ ∀ b i, b ≠ pts → ¬ (b = J ∧ i = 2) → F' b i = F b i) := by
  refine g_mM (cc := cX0_gather) (maxL := 6) (ret := none) (by decide) rfl (Nat.le_of_ble_eq_true rfl) ?_
  intro p e s m args below meth c ls Z hsz hx hb hts hown hml hnm hN hW hret hl
  have hl : lv_has ls 6 [(0, .ref J), (1, .ref lb)] := hl
  have hown : s.vm.findClass RX0 = some m.cls := hown
  have hi0 : ∀ w ∈ wsX00, w ∈ wsX0_gather := by decide +kernel
  have hfX0_11 : Cond.fieldLink RX0 11 (TX0 0).1 (TX0 0).2.1 (TX0 0).2.2.1 ∈ wsX0_gather := by decide +kernel
  have hfX0_21 : Cond.fieldLink RX0 21 (TX0 2).1 (TX0 2).2.1 (TX0 2).2.2.1 ∈ wsX0_gather := by decide +kernel
  have loop : ∀ (j k : Nat) (F1 : gF) (H : Heap) (locs : List Loc) (ls : Array Slot), k + j = 100 → F1 J 2 = .int (nI (gLive nd k).length) → rowL F1 pts 0 ((gLive nd k).map vRf) → (∀ b i, b ≠ pts → ¬ (b = J ∧ i = 2) → F1 b i = F b i) → gW Γ (gA K sz) s.heap K F1 H locs → lv_has ls 6 [(4, .int (nI k)), (3, .int (nI 100)), (2, .ref lb), (0, .ref J), (1, .ref lb)] → W p l e (gRm 0 0 0) s m args below meth c H locs 0 0 Z (F0 m 13 ls []) := by
    intro j
    induction j with
    | zero =>
      intro k F1 H locs ls hj hz hrow hfr hW hl
      have f0 : F1 J 0 = .ref pts := (hfr J 0 (kne hk hkp (by decide)) (fun z => absurd z.2 (by decide))).trans h0
      refine lv_iload hx hb dX0_gather_13 (lv_at hl 0 rfl) ?_
      refine lv_iload_n hx hb dX0_gather_15 rfl (lv_at hl 1 rfl) ?_
      refine lv_icmp_ge (tgt := 69) hx hb dX0_gather_16 (by decide) (fun c1 => ?_) (fun c1 => ?_)
      · have c1 : 100 ≤ k := (nI_leI (by omega) (by omega)).mp c1
        obtain rfl : k = 100 := by omega
        exact hret none _ _ _ _ _ _ hW (⟨rfl, rfl, hz, hrow, hfr⟩) (rt_v dX0_gather_69)
      · have c1 : k < 100 := Nat.not_le.mp (fun z => c1 ((nI_leI (by omega) (by omega)).mpr z))
        exact absurd c1 (by omega)
    | succ j ih =>
      intro k F1 H locs ls hj hz hrow hfr hW hl
      have f0 : F1 J 0 = .ref pts := (hfr J 0 (kne hk hkp (by decide)) (fun z => absurd z.2 (by decide))).trans h0
      refine lv_iload hx hb dX0_gather_13 (lv_at hl 0 rfl) ?_
      refine lv_iload_n hx hb dX0_gather_15 rfl (lv_at hl 1 rfl) ?_
      refine lv_icmp_ge (tgt := 69) hx hb dX0_gather_16 (by decide) (fun c1 => ?_) (fun c1 => ?_)
      · have c1 : 100 ≤ k := (nI_leI (by omega) (by omega)).mp c1
        exact absurd c1 (by omega)
      · have c1 : k < 100 := Nat.not_le.mp (fun z => c1 ((nI_leI (by omega) (by omega)).mpr z))
        have hv : F1 lb k = va_rf (nd k) := (hfr lb k hlp (fun z => kne hkl hk (by decide) z.1)).trans (hN9 k c1)
        refine lv_aload_n hx hb dX0_gather_19 rfl (lv_at hl 2 rfl) ?_
        refine lv_iload hx hb dX0_gather_20 (lv_at hl 0 rfl) ?_
        refine g_aald (j := k) hx hb hN hW.1 hkl (by decide) (show _ = nI k from rfl) c1 (v := va_rf (nd k)) hv dX0_gather_22 ?_
        refine g_astore (r := nd k) (lv' := [(5, va_rf (nd k)), (4, .int (nI k)), (3, .int (nI 100)), (2, .ref lb), (0, .ref J), (1, .ref lb)]) hx hb dX0_gather_23 hl (by decide) rfl (fun ls hl => ?_)
        refine g_aload (r := nd k) hx hb dX0_gather_25 (lv_at hl 0 rfl) ?_
        refine g_ifnull (r := nd k) (tgt := 63) hx hb dX0_gather_27 (by decide) (fun c2 => ?_) (fun xc2 c2 => ?_)
        · refine lv_iinc (v := nI (k + 1)) (lv' := [(4, .int (nI (k + 1))), (5, va_rf (nd k)), (3, .int (nI 100)), (2, .ref lb), (0, .ref J), (1, .ref lb)]) hx hb dX0_gather_63 hl (k := 1) rfl (inc1 _) (by decide) rfl (fun ls hl => ?_)
          refine lv_goto (tgt := 13) hx hb dX0_gather_66 (by decide) ?_
          exact ih (k + 1) F1 H locs ls (by omega) (by rw [gLive_none c2]; exact hz) (by rw [gLive_none c2]; exact hrow) hfr hW (lv_sub hl [0, 2, 3, 4, 5] rfl)
        · have hle := gLive_le (nd := nd) (show k + 1 ≤ 100 by omega)
          rw [gLive_some c2, List.length_append] at hle
          have hle : (gLive nd k).length + 1 ≤ (gLive nd 100).length := hle
          have hkx : K xc2 = some (2, 0) := hnk k xc2 c1 c2
          rw [c2] at hl
          have hl : lv_has ls 6 [(5, .ref xc2), (4, .int (nI k)), (3, .int (nI 100)), (2, .ref lb), (0, .ref J), (1, .ref lb)] := hl
          refine lv_aload_n hx hb dX0_gather_30 rfl (lv_at hl 4 rfl) ?_
          refine g_get (C := RX0) (T := TX0) (N := 6) hx hb hts hi0 hown hN hW.1 hk rfl (by decide) 2 (by decide) hfX0_21 (v := .int (nI (gLive nd k).length)) hz dX0_gather_31 ?_
          refine lv_aload_n hx hb dX0_gather_34 rfl (lv_at hl 4 rfl) ?_
          refine g_get (C := RX0) (T := TX0) (N := 6) hx hb hts hi0 hown hN hW.1 hk rfl (by decide) 0 (by decide) hfX0_11 (v := .ref pts) f0 dX0_gather_35 ?_
          refine g_alen (t := 3) hx hb hN hW.1 hkp rfl dX0_gather_38 ?_
          refine lv_icmp_ge (tgt := 63) hx hb dX0_gather_39 (by decide) (fun c3 => ?_) (fun c3 => ?_)
          · have c3 : 60 ≤ (gLive nd k).length := (nI_leI (by omega) (by omega)).mp c3
            exact absurd c3 (by omega)
          · have c3 : (gLive nd k).length < 60 := Nat.not_le.mp (fun z => c3 ((nI_leI (by omega) (by omega)).mpr z))
            refine lv_aload_n hx hb dX0_gather_42 rfl (lv_at hl 4 rfl) ?_
            refine g_get (C := RX0) (T := TX0) (N := 6) hx hb hts hi0 hown hN hW.1 hk rfl (by decide) 0 (by decide) hfX0_11 (v := .ref pts) f0 dX0_gather_43 ?_
            refine lv_aload_n hx hb dX0_gather_46 rfl (lv_at hl 4 rfl) ?_
            refine g_get (C := RX0) (T := TX0) (N := 6) hx hb hts hi0 hown hN hW.1 hk rfl (by decide) 2 (by decide) hfX0_21 (v := .int (nI (gLive nd k).length)) hz dX0_gather_47 ?_
            refine lv_aload hx hb dX0_gather_50 (lv_at hl 0 rfl) ?_
            refine g_aast (j := (gLive nd k).length) hx hb hN hW hkp (by decide) hkx (show _ = nI ((gLive nd k).length) from rfl) (by omega) dX0_gather_52 (fun H locs hW => ?_)
            refine lv_aload_n hx hb dX0_gather_53 rfl (lv_at hl 4 rfl) ?_
            refine lv_dup hx hb dX0_gather_54 rfl ?_
            refine g_get (C := RX0) (T := TX0) (N := 6) hx hb hts hi0 hown hN hW.1 hk rfl (by decide) 2 (by decide) hfX0_21 (v := .int (nI (gLive nd k).length)) ((gU_a (kne hk hkp (by decide))).trans hz) dX0_gather_55 ?_
            refine lv_iconst (v := nI 1) hx hb dX0_gather_58 (by decide) ?_
            refine lv_iadd hx hb dX0_gather_59 ?_
            refine g_asi (show _ = nI ((gLive nd k).length + 1) from (nI_add _ _).trans (by rfl)) ?_
            refine g_put (C := RX0) (T := TX0) (N := 6) hx hb hts hi0 tyX0 tyX0_ok nmX0 hown hN hW hk rfl (by decide) 2 (by decide) hfX0_21 rfl rfl rfl dX0_gather_60 (fun H locs hW => ?_)
            refine lv_iinc (v := nI (k + 1)) (lv' := [(4, .int (nI (k + 1))), (5, .ref xc2), (3, .int (nI 100)), (2, .ref lb), (0, .ref J), (1, .ref lb)]) hx hb dX0_gather_63 hl (k := 1) rfl (inc1 _) (by decide) rfl (fun ls hl => ?_)
            refine lv_goto (tgt := 13) hx hb dX0_gather_66 (by decide) ?_
            have q := rowL.fill (v := vRf xc2) hrow (Q := []) rowL.nil
            rw [List.length_map, Nat.zero_add] at q
            exact ih (k + 1) _ H locs ls (by omega) (by rw [gLive_some c2, List.length_append]; exact gU_self) (by rw [gLive_some c2, List.map_append]; exact q.up (Or.inl (kne hk hkp (by decide)))) (fun b i b1 b2 => by rw [gU_ne b2, gU_a b1]; exact hfr b i b1 b2) hW (lv_sub hl [0, 2, 3, 4, 5] rfl)
  refine lv_aload_n hx hb dX0_gather_0 rfl (lv_at hl 0 rfl) ?_
  refine lv_iconst (v := nI 0) hx hb dX0_gather_1 (by decide) ?_
  refine g_put (C := RX0) (T := TX0) (N := 6) hx hb hts hi0 tyX0 tyX0_ok nmX0 hown hN hW hk rfl (by decide) 2 (by decide) hfX0_21 rfl rfl rfl dX0_gather_2 (fun H locs hW => ?_)
  refine lv_aload_n hx hb dX0_gather_5 rfl (lv_at hl 1 rfl) ?_
  refine lv_astore_n (lv' := [(2, .ref lb), (0, .ref J), (1, .ref lb)]) hx hb dX0_gather_6 rfl hl (by decide) rfl (fun ls hl => ?_)
  refine lv_aload_n hx hb dX0_gather_7 rfl (lv_at hl 0 rfl) ?_
  refine g_alen (t := 3) hx hb hN hW.1 hkl rfl dX0_gather_8 ?_
  refine lv_istore_n (lv' := [(3, .int (nI 100)), (2, .ref lb), (0, .ref J), (1, .ref lb)]) hx hb dX0_gather_9 rfl hl (by decide) rfl (fun ls hl => ?_)
  refine lv_iconst (v := nI 0) hx hb dX0_gather_10 (by decide) ?_
  refine lv_istore (lv' := [(4, .int (nI 0)), (3, .int (nI 100)), (2, .ref lb), (0, .ref J), (1, .ref lb)]) hx hb dX0_gather_11 hl (by decide) rfl (fun ls hl => ?_)
  exact loop 100 0 _ H locs ls rfl gU_self rowL.nil (fun b i _ b2 => gU_ne b2) hW (lv_sub hl [0, 1, 2, 3, 4] rfl)

def lstF (ln : Nat → Int64) (fr n : Nat) : Nat := itr (fun i b => if ln i < ln b then i else b) (fr + 1) n fr
theorem lstF_in {ln : Nat → Int64} {fr n : Nat} : fr ≤ lstF ln fr n ∧ lstF ln fr n < fr + 1 + n := by
  induction n with
  | zero => exact ⟨Nat.le_refl _, by show fr < _; omega⟩
  | succ n ih =>
    show fr ≤ (if ln (fr + 1 + n) < ln (lstF ln fr n) then fr + 1 + n else lstF ln fr n) ∧ _ < _
    show fr ≤ (if ln (fr + 1 + n) < ln (lstF ln fr n) then fr + 1 + n else lstF ln fr n) ∧ (if ln (fr + 1 + n) < ln (lstF ln fr n) then fr + 1 + n else lstF ln fr n) < _
    split <;> omega
theorem lstF_min {ln : Nat → Int64} {fr n : Nat} : ∀ i, fr ≤ i → i < fr + 1 + n → ln (lstF ln fr n) ≤ ln i := by
  induction n with
  | zero => intro i h1 h2; rw [show i = fr by omega]; exact Int64.le_refl _
  | succ n ih =>
    intro i h1 h2
    show ln (if ln (fr + 1 + n) < ln (lstF ln fr n) then fr + 1 + n else lstF ln fr n) ≤ ln i
    by_cases q : ln (fr + 1 + n) < ln (lstF ln fr n)
    · rw [if_pos q]
      rcases Nat.lt_or_ge i (fr + 1 + n) with e | e
      · exact Int64.le_trans (Int64.le_of_lt q) (ih i h1 e)
      · rw [show i = fr + 1 + n by omega]; exact Int64.le_refl _
    · rw [if_neg q]
      rcases Nat.lt_or_ge i (fr + 1 + n) with e | e
      · exact ih i h1 e
      · rw [show i = fr + 1 + n by omega]; exact Int64.not_lt.mp q

set_option maxHeartbeats 4000000 in
set_option maxRecDepth 100000 in
theorem c_leastFrom (l : Launch) (Γ : gG) (K : gK) (F : gF) (J lens fr n : Nat) (ln : Nat → Int64) (hk : K J = some (0, 0)) (hke : K lens = some (9, 60)) (h1 : F J 1 = .ref lens) (h2 : F J 2 = .int (nI (fr + 1 + n))) (hln : ∀ i, i < fr + 1 + n → F lens i = .long (ln i)) (h60 : fr + 1 + n ≤ 60) : gMR l yX0_leastFrom wsX0_leastFrom 0 Γ K F [.ref J, .int (nI fr)] (some (.int (nI (lstF ln fr n)))) := by
  refine g_mR (cc := cX0_leastFrom) (maxL := 4) (ret := (some .int)) (by decide) rfl (Nat.le_of_ble_eq_true rfl) ?_
  intro p e s m args below meth c ls Z hx hb hts hown hml hN hP hret hl
  have hl : lv_has ls 4 [(0, .ref J), (1, .int (nI fr))] := hl
  have hown : s.vm.findClass RX0 = some m.cls := hown
  have hi0 : ∀ w ∈ wsX00, w ∈ wsX0_leastFrom := by decide +kernel
  have hfX0_17 : Cond.fieldLink RX0 17 (TX0 1).1 (TX0 1).2.1 (TX0 1).2.2.1 ∈ wsX0_leastFrom := by decide +kernel
  have hfX0_21 : Cond.fieldLink RX0 21 (TX0 2).1 (TX0 2).2.1 (TX0 2).2.2.1 ∈ wsX0_leastFrom := by decide +kernel
  have loop : ∀ (j k : Nat) (ls : Array Slot), k + j = n → lv_has ls 4 [(3, .int (nI (fr + 1 + k))), (2, .int (nI (lstF ln fr k))), (0, .ref J), (1, .int (nI fr))] → W p l e (gRm 0 0 0) s m args below meth c s.heap [] 0 0 Z (F0 m 6 ls []) := by
    intro j
    induction j with
    | zero =>
      intro k ls hj hl
      refine lv_iload_n hx hb dX0_leastFrom_6 rfl (lv_at hl 0 rfl) ?_
      refine lv_aload_n hx hb dX0_leastFrom_7 rfl (lv_at hl 2 rfl) ?_
      refine g_get (C := RX0) (T := TX0) (N := 6) hx hb hts hi0 hown hN hP hk rfl (by decide) 2 (by decide) hfX0_21 (v := .int (nI (fr + 1 + n))) h2 dX0_leastFrom_8 ?_
      refine lv_icmp_ge (tgt := 38) hx hb dX0_leastFrom_11 (by decide) (fun c1 => ?_) (fun c1 => ?_)
      · have c1 : (fr + 1 + n) ≤ (fr + 1 + k) := (nI_leI (by omega) (by omega)).mp c1
        refine lv_iload_n hx hb dX0_leastFrom_38 rfl (lv_at hl 1 rfl) ?_
        exact hret (some (.int (nI (lstF ln fr k)))) _ _ (by rw [show k = n by omega]) (rt_i dX0_leastFrom_39)
      · have c1 : (fr + 1 + k) < (fr + 1 + n) := Nat.not_le.mp (fun z => c1 ((nI_leI (by omega) (by omega)).mpr z))
        exact absurd c1 (by omega)
    | succ j ih =>
      intro k ls hj hl
      have hb9 := lstF_in (ln := ln) (fr := fr) (n := k)
      refine lv_iload_n hx hb dX0_leastFrom_6 rfl (lv_at hl 0 rfl) ?_
      refine lv_aload_n hx hb dX0_leastFrom_7 rfl (lv_at hl 2 rfl) ?_
      refine g_get (C := RX0) (T := TX0) (N := 6) hx hb hts hi0 hown hN hP hk rfl (by decide) 2 (by decide) hfX0_21 (v := .int (nI (fr + 1 + n))) h2 dX0_leastFrom_8 ?_
      refine lv_icmp_ge (tgt := 38) hx hb dX0_leastFrom_11 (by decide) (fun c1 => ?_) (fun c1 => ?_)
      · have c1 : (fr + 1 + n) ≤ (fr + 1 + k) := (nI_leI (by omega) (by omega)).mp c1
        exact absurd c1 (by omega)
      · have c1 : (fr + 1 + k) < (fr + 1 + n) := Nat.not_le.mp (fun z => c1 ((nI_leI (by omega) (by omega)).mpr z))
        refine lv_aload_n hx hb dX0_leastFrom_14 rfl (lv_at hl 2 rfl) ?_
        refine g_get (C := RX0) (T := TX0) (N := 6) hx hb hts hi0 hown hN hP hk rfl (by decide) 1 (by decide) hfX0_17 (v := .ref lens) h1 dX0_leastFrom_15 ?_
        refine lv_iload_n hx hb dX0_leastFrom_18 rfl (lv_at hl 0 rfl) ?_
        refine g_lald (j := fr + 1 + k) hx hb hN hP hke (by decide) (show _ = nI (fr + 1 + k) from rfl) (by omega) (v := .long (ln (fr + 1 + k))) (hln _ c1) dX0_leastFrom_19 ?_
        refine lv_aload_n hx hb dX0_leastFrom_20 rfl (lv_at hl 2 rfl) ?_
        refine g_get (C := RX0) (T := TX0) (N := 6) hx hb hts hi0 hown hN hP hk rfl (by decide) 1 (by decide) hfX0_17 (v := .ref lens) h1 dX0_leastFrom_21 ?_
        refine lv_iload_n hx hb dX0_leastFrom_24 rfl (lv_at hl 1 rfl) ?_
        refine g_lald (j := lstF ln fr k) hx hb hN hP hke (by decide) (show _ = nI (lstF ln fr k) from rfl) (by omega) (v := .long (ln (lstF ln fr k))) (hln _ (by omega)) dX0_leastFrom_25 ?_
        refine W.lcmp hx hb dX0_leastFrom_26 ?_
        refine lv_if_ge (tgt := 32) hx hb dX0_leastFrom_27 (by decide) (fun c2 => ?_) (fun c2 => ?_)
        · have c2 : _ := (lg_cmp_ge _ _).mp c2
          refine lv_iinc (v := nI ((fr + 1 + k) + 1)) (lv' := [(3, .int (nI ((fr + 1 + k) + 1))), (2, .int (nI (lstF ln fr k))), (0, .ref J), (1, .int (nI fr))]) hx hb dX0_leastFrom_32 hl (k := 0) rfl (inc1 _) (by decide) rfl (fun ls hl => ?_)
          refine lv_goto (tgt := 6) hx hb dX0_leastFrom_35 (by decide) ?_
          exact ih (k + 1) ls (by omega) (by rw [show lstF ln fr (k + 1) = lstF ln fr k from if_neg (Int64.not_lt.mpr c2)]; exact lv_sub hl [0, 1, 2, 3] rfl)
        · have c2 : ¬ _ := fun z => c2 ((lg_cmp_ge _ _).mpr z)
          refine lv_iload_n hx hb dX0_leastFrom_30 rfl (lv_at hl 0 rfl) ?_
          refine lv_istore_n (lv' := [(2, .int (nI (fr + 1 + k))), (3, .int (nI (fr + 1 + k))), (0, .ref J), (1, .int (nI fr))]) hx hb dX0_leastFrom_31 rfl hl (by decide) rfl (fun ls hl => ?_)
          refine lv_iinc (v := nI ((fr + 1 + k) + 1)) (lv' := [(3, .int (nI ((fr + 1 + k) + 1))), (2, .int (nI (fr + 1 + k))), (0, .ref J), (1, .int (nI fr))]) hx hb dX0_leastFrom_32 hl (k := 1) rfl (inc1 _) (by decide) rfl (fun ls hl => ?_)
          refine lv_goto (tgt := 6) hx hb dX0_leastFrom_35 (by decide) ?_
          exact ih (k + 1) ls (by omega) (by rw [show lstF ln fr (k + 1) = fr + 1 + k from if_pos (Int64.not_le.mp c2)]; exact lv_sub hl [0, 1, 2, 3] rfl)
  refine lv_iload_n hx hb dX0_leastFrom_0 rfl (lv_at hl 1 rfl) ?_
  refine lv_istore_n (lv' := [(2, .int (nI fr)), (0, .ref J), (1, .int (nI fr))]) hx hb dX0_leastFrom_1 rfl hl (by decide) rfl (fun ls hl => ?_)
  refine lv_iload_n hx hb dX0_leastFrom_2 rfl (lv_at hl 2 rfl) ?_
  refine lv_iconst (v := nI 1) hx hb dX0_leastFrom_3 (by decide) ?_
  refine lv_iadd hx hb dX0_leastFrom_4 ?_
  refine g_asi (show _ = nI (fr + 1) from (nI_add _ _).trans (by rfl)) ?_
  refine lv_istore_n (lv' := [(3, .int (nI (fr + 1))), (2, .int (nI fr)), (0, .ref J), (1, .int (nI fr))]) hx hb dX0_leastFrom_5 rfl hl (by decide) rfl (fun ls hl => ?_)
  exact loop n 0 ls (by omega) (lv_sub hl [0, 1, 2, 3] rfl)

set_option maxHeartbeats 4000000 in
set_option maxRecDepth 100000 in
theorem c_swap (l : Launch) (Γ : gG) (K : gK) (F : gF) (sz : Nat) (J pts lens i j x y : Nat) (a b : Int64) (hk : K J = some (0, 0)) (hkp : K pts = some (11, 60)) (hke : K lens = some (9, 60)) (h0 : F J 0 = .ref pts) (h1 : F J 1 = .ref lens) (hkx : K x = some (2, 0)) (hky : K y = some (2, 0)) (hi : i < 60) (hj : j < 60) (hpi : F pts i = .ref x) (hpj : F pts j = .ref y) (hli : F lens i = .long a) (hlj : F lens j = .long b) : gMM l yX0_swap wsX0_swap 0 0 0 Γ K F sz [.ref J, .int (nI i), .int (nI j)] (fun v K' F' => v = none ∧ K' = K ∧ F' = gU (gU (gU (gU F pts i (.ref y)) pts j (.ref x)) lens i (.long b)) lens j (.long a)) := by
  refine g_mM (cc := cX0_swap) (maxL := 6) (ret := none) (by decide) rfl (Nat.le_of_ble_eq_true rfl) ?_
  intro p e s m args below meth c ls Z hsz hx hb hts hown hml hnm hN hW hret hl
  have hl : lv_has ls 6 [(0, .ref J), (1, .int (nI i)), (2, .int (nI j))] := hl
  have hown : s.vm.findClass RX0 = some m.cls := hown
  have hi0 : ∀ w ∈ wsX00, w ∈ wsX0_swap := by decide +kernel
  have hfX0_11 : Cond.fieldLink RX0 11 (TX0 0).1 (TX0 0).2.1 (TX0 0).2.2.1 ∈ wsX0_swap := by decide +kernel
  have hfX0_17 : Cond.fieldLink RX0 17 (TX0 1).1 (TX0 1).2.1 (TX0 1).2.2.1 ∈ wsX0_swap := by decide +kernel
  refine lv_aload_n hx hb dX0_swap_0 rfl (lv_at hl 0 rfl) ?_
  refine g_get (C := RX0) (T := TX0) (N := 6) hx hb hts hi0 hown hN hW.1 hk rfl (by decide) 0 (by decide) hfX0_11 (v := .ref pts) h0 dX0_swap_1 ?_
  refine lv_iload_n hx hb dX0_swap_4 rfl (lv_at hl 1 rfl) ?_
  refine g_aald (j := i) hx hb hN hW.1 hkp (by decide) (show _ = nI i from rfl) (by omega) (v := .ref x) hpi dX0_swap_5 ?_
  refine lv_astore_n (lv' := [(3, .ref x), (0, .ref J), (1, .int (nI i)), (2, .int (nI j))]) hx hb dX0_swap_6 rfl hl (by decide) rfl (fun ls hl => ?_)
  refine lv_aload_n hx hb dX0_swap_7 rfl (lv_at hl 1 rfl) ?_
  refine g_get (C := RX0) (T := TX0) (N := 6) hx hb hts hi0 hown hN hW.1 hk rfl (by decide) 0 (by decide) hfX0_11 (v := .ref pts) h0 dX0_swap_8 ?_
  refine lv_iload_n hx hb dX0_swap_11 rfl (lv_at hl 2 rfl) ?_
  refine lv_aload_n hx hb dX0_swap_12 rfl (lv_at hl 1 rfl) ?_
  refine g_get (C := RX0) (T := TX0) (N := 6) hx hb hts hi0 hown hN hW.1 hk rfl (by decide) 0 (by decide) hfX0_11 (v := .ref pts) h0 dX0_swap_13 ?_
  refine lv_iload_n hx hb dX0_swap_16 rfl (lv_at hl 3 rfl) ?_
  refine g_aald (j := j) hx hb hN hW.1 hkp (by decide) (show _ = nI j from rfl) (by omega) (v := .ref y) hpj dX0_swap_17 ?_
  refine g_aast (j := i) hx hb hN hW hkp (by decide) hky (show _ = nI i from rfl) (by omega) dX0_swap_18 (fun H locs hW => ?_)
  refine lv_aload_n hx hb dX0_swap_19 rfl (lv_at hl 1 rfl) ?_
  refine g_get (C := RX0) (T := TX0) (N := 6) hx hb hts hi0 hown hN hW.1 hk rfl (by decide) 0 (by decide) hfX0_11 (v := .ref pts) ((gU_a (kne hk hkp (by decide))).trans h0) dX0_swap_20 ?_
  refine lv_iload_n hx hb dX0_swap_23 rfl (lv_at hl 3 rfl) ?_
  refine lv_aload_n hx hb dX0_swap_24 rfl (lv_at hl 0 rfl) ?_
  refine g_aast (j := j) hx hb hN hW hkp (by decide) hkx (show _ = nI j from rfl) (by omega) dX0_swap_25 (fun H locs hW => ?_)
  refine lv_aload_n hx hb dX0_swap_26 rfl (lv_at hl 1 rfl) ?_
  refine g_get (C := RX0) (T := TX0) (N := 6) hx hb hts hi0 hown hN hW.1 hk rfl (by decide) 1 (by decide) hfX0_17 (v := .ref lens) ((gU_a (kne hk hkp (by decide))).trans ((gU_a (kne hk hkp (by decide))).trans h1)) dX0_swap_27 ?_
  refine lv_iload_n hx hb dX0_swap_30 rfl (lv_at hl 2 rfl) ?_
  refine g_lald (j := i) hx hb hN hW.1 hke (by decide) (show _ = nI i from rfl) (by omega) (v := .long a) ((gU_a (kne hke hkp (by decide))).trans ((gU_a (kne hke hkp (by decide))).trans hli)) dX0_swap_31 ?_
  refine lv_lstore (lv' := [(4, .long a), (3, .ref x), (0, .ref J), (1, .int (nI i)), (2, .int (nI j))]) hx hb dX0_swap_32 hl (by decide) rfl (fun ls hl => ?_)
  refine lv_aload_n hx hb dX0_swap_34 rfl (lv_at hl 2 rfl) ?_
  refine g_get (C := RX0) (T := TX0) (N := 6) hx hb hts hi0 hown hN hW.1 hk rfl (by decide) 1 (by decide) hfX0_17 (v := .ref lens) ((gU_a (kne hk hkp (by decide))).trans ((gU_a (kne hk hkp (by decide))).trans h1)) dX0_swap_35 ?_
  refine lv_iload_n hx hb dX0_swap_38 rfl (lv_at hl 3 rfl) ?_
  refine lv_aload_n hx hb dX0_swap_39 rfl (lv_at hl 2 rfl) ?_
  refine g_get (C := RX0) (T := TX0) (N := 6) hx hb hts hi0 hown hN hW.1 hk rfl (by decide) 1 (by decide) hfX0_17 (v := .ref lens) ((gU_a (kne hk hkp (by decide))).trans ((gU_a (kne hk hkp (by decide))).trans h1)) dX0_swap_40 ?_
  refine lv_iload_n hx hb dX0_swap_43 rfl (lv_at hl 4 rfl) ?_
  refine g_lald (j := j) hx hb hN hW.1 hke (by decide) (show _ = nI j from rfl) (by omega) (v := .long b) ((gU_a (kne hke hkp (by decide))).trans ((gU_a (kne hke hkp (by decide))).trans hlj)) dX0_swap_44 ?_
  refine g_last (j := i) hx hb hN hW hke (by decide) (show _ = nI i from rfl) (by omega) dX0_swap_45 (fun H locs hW => ?_)
  refine lv_aload_n hx hb dX0_swap_46 rfl (lv_at hl 2 rfl) ?_
  refine g_get (C := RX0) (T := TX0) (N := 6) hx hb hts hi0 hown hN hW.1 hk rfl (by decide) 1 (by decide) hfX0_17 (v := .ref lens) ((gU_a (kne hk hke (by decide))).trans ((gU_a (kne hk hkp (by decide))).trans ((gU_a (kne hk hkp (by decide))).trans h1))) dX0_swap_47 ?_
  refine lv_iload_n hx hb dX0_swap_50 rfl (lv_at hl 4 rfl) ?_
  refine lv_lload hx hb dX0_swap_51 (lv_at hl 0 rfl) ?_
  refine g_last (j := j) hx hb hN hW hke (by decide) (show _ = nI j from rfl) (by omega) dX0_swap_53 (fun H locs hW => ?_)
  exact hret none _ _ _ _ _ _ hW (⟨rfl, rfl, rfl⟩) (rt_v dX0_swap_54)

set_option maxHeartbeats 4000000 in
set_option maxRecDepth 100000 in
theorem c_reachFrom (l : Launch) (Γ : gG) (K : gK) (F : gF) (sz : Nat) (J pts lens g pg fr n : Nat) (xg : gPt) (Aa pa : Nat → Nat) (xa : Nat → gPt) (ln : Nat → Int64) (hk : K J = some (0, 0)) (hkp : K pts = some (11, 60)) (hke : K lens = some (9, 60)) (h0 : F J 0 = .ref pts) (h1 : F J 1 = .ref lens) (h2 : F J 2 = .int (nI (fr + n))) (hg : ndD K F g pg xg) (hpa : ∀ i, fr ≤ i → i < fr + n → F pts i = .ref (Aa i) ∧ ndD K F (Aa i) (pa i) (xa i)) (hln : ∀ i, fr ≤ i → i < fr + n → F lens i = .long (ln i)) (h60 : fr + n ≤ 60) : gMM l yX0_reachFrom wsX0_reachFrom 2 0 0 Γ K F sz [.ref J, .ref g, .int (nI fr)] (fun v K' F' => v = none ∧ K' = K ∧ (∀ i, fr ≤ i → i < fr + n → F' lens i = .long (if pDist xg.2 (xa i).2 < ln i then pDist xg.2 (xa i).2 else ln i)) ∧ ∀ b i, ¬ (b = lens ∧ fr ≤ i ∧ i < fr + n) → F' b i = F b i) := by
  refine g_mM (cc := cX0_reachFrom) (maxL := 5) (ret := none) (by decide) rfl (Nat.le_of_ble_eq_true rfl) ?_
  intro p e s m args below meth c ls Z hsz hx hb hts hown hml hnm hN hW hret hl
  have hl : lv_has ls 5 [(0, .ref J), (1, .ref g), (2, .int (nI fr))] := hl
  have hown : s.vm.findClass RX0 = some m.cls := hown
  have hi0 : ∀ w ∈ wsX00, w ∈ wsX0_reachFrom := by decide +kernel
  have hi2 : ∀ w ∈ wsX20, w ∈ wsX0_reachFrom := by decide +kernel
  have hfX0_11 : Cond.fieldLink RX0 11 (TX0 0).1 (TX0 0).2.1 (TX0 0).2.2.1 ∈ wsX0_reachFrom := by decide +kernel
  have hfX0_17 : Cond.fieldLink RX0 17 (TX0 1).1 (TX0 1).2.1 (TX0 1).2.2.1 ∈ wsX0_reachFrom := by decide +kernel
  have hfX0_21 : Cond.fieldLink RX0 21 (TX0 2).1 (TX0 2).2.1 (TX0 2).2.2.1 ∈ wsX0_reachFrom := by decide +kernel
  have hfX0_37 : Cond.fieldLink RX0 37 (TX2 1).1 (TX2 1).2.1 (TX2 1).2.2.1 ∈ wsX0_reachFrom := by decide +kernel
  have loop : ∀ (j k : Nat) (F1 : gF) (H : Heap) (locs : List Loc) (ls : Array Slot), k + j = n → (∀ i, fr ≤ i → i < fr + k → F1 lens i = .long (if pDist xg.2 (xa i).2 < ln i then pDist xg.2 (xa i).2 else ln i)) → (∀ b i, ¬ (b = lens ∧ fr ≤ i ∧ i < fr + k) → F1 b i = F b i) → gW Γ (gA K sz) s.heap K F1 H locs → lv_has ls 5 [(3, .int (nI (fr + k))), (0, .ref J), (1, .ref g), (2, .int (nI fr))] → W p l e (gRm 2 0 0) s m args below meth c H locs 0 0 Z (F0 m 2 ls []) := by
    intro j
    induction j with
    | zero =>
      intro k F1 H locs ls hj hdn hfr hW hl
      have nJ : ∀ i, F1 J i = F J i := fun i => hfr J i (fun z => kne hk hke (by decide) z.1)
      refine lv_iload_n hx hb dX0_reachFrom_2 rfl (lv_at hl 0 rfl) ?_
      refine lv_aload_n hx hb dX0_reachFrom_3 rfl (lv_at hl 1 rfl) ?_
      refine g_get (C := RX0) (T := TX0) (N := 6) hx hb hts hi0 hown hN hW.1 hk rfl (by decide) 2 (by decide) hfX0_21 (v := .int (nI (fr + n))) ((nJ 2).trans h2) dX0_reachFrom_4 ?_
      refine lv_icmp_ge (tgt := 60) hx hb dX0_reachFrom_7 (by decide) (fun c1 => ?_) (fun c1 => ?_)
      · have c1 : (fr + n) ≤ (fr + k) := (nI_leI (by omega) (by omega)).mp c1
        obtain rfl : k = n := by omega
        exact hret none _ _ _ _ _ _ hW (⟨rfl, rfl, hdn, hfr⟩) (rt_v dX0_reachFrom_60)
      · have c1 : (fr + k) < (fr + n) := Nat.not_le.mp (fun z => c1 ((nI_leI (by omega) (by omega)).mpr z))
        exact absurd c1 (by omega)
    | succ j ih =>
      intro k F1 H locs ls hj hdn hfr hW hl
      have nJ : ∀ i, F1 J i = F J i := fun i => hfr J i (fun z => kne hk hke (by decide) z.1)
      refine lv_iload_n hx hb dX0_reachFrom_2 rfl (lv_at hl 0 rfl) ?_
      refine lv_aload_n hx hb dX0_reachFrom_3 rfl (lv_at hl 1 rfl) ?_
      refine g_get (C := RX0) (T := TX0) (N := 6) hx hb hts hi0 hown hN hW.1 hk rfl (by decide) 2 (by decide) hfX0_21 (v := .int (nI (fr + n))) ((nJ 2).trans h2) dX0_reachFrom_4 ?_
      refine lv_icmp_ge (tgt := 60) hx hb dX0_reachFrom_7 (by decide) (fun c1 => ?_) (fun c1 => ?_)
      · have c1 : (fr + n) ≤ (fr + k) := (nI_leI (by omega) (by omega)).mp c1
        exact absurd c1 (by omega)
      · have c1 : (fr + k) < (fr + n) := Nat.not_le.mp (fun z => c1 ((nI_leI (by omega) (by omega)).mpr z))
        have ha := hpa (fr + k) (by omega) (by omega)
        have np : ∀ b j, (K b = some (2, 0) ∧ j < 2) ∨ K b = some (3, 0) → F1 b j = F b j := fun b j q => hfr b j (fun z => q.elim (fun q => kne q.1 hke (by decide) z.1) (fun q => kne q hke (by decide) z.1))
        have hg1 := ndD_congr np hg
        have ha1 := ndD_congr np ha.2
        have hp1 : F1 pts (fr + k) = .ref (Aa (fr + k)) := (hfr pts (fr + k) (fun z => kne hkp hke (by decide) z.1)).trans ha.1
        have hl1 : F1 lens (fr + k) = .long (ln (fr + k)) := (hfr lens (fr + k) (fun z => by omega)).trans (hln (fr + k) (by omega) (by omega))
        refine lv_aload_n hx hb dX0_reachFrom_10 rfl (lv_at hl 1 rfl) ?_
        refine g_get (C := RX0) (T := TX0) (N := 6) hx hb hts hi0 hown hN hW.1 hk rfl (by decide) 0 (by decide) hfX0_11 (v := .ref pts) ((nJ 0).trans h0) dX0_reachFrom_11 ?_
        refine lv_iload_n hx hb dX0_reachFrom_14 rfl (lv_at hl 0 rfl) ?_
        refine g_aald (j := fr + k) hx hb hN hW.1 hkp (by decide) (show _ = nI (fr + k) from rfl) (by omega) (v := .ref (Aa (fr + k))) hp1 dX0_reachFrom_15 ?_
        refine lv_astore (lv' := [(4, .ref (Aa (fr + k))), (3, .int (nI (fr + k))), (0, .ref J), (1, .ref g), (2, .int (nI fr))]) hx hb dX0_reachFrom_16 hl (by decide) rfl (fun ls hl => ?_)
        refine lv_aload_n hx hb dX0_reachFrom_18 rfl (lv_at hl 3 rfl) ?_
        refine lv_ifnull hx hb dX0_reachFrom_19 ?_
        refine lv_aload hx hb dX0_reachFrom_22 (lv_at hl 0 rfl) ?_
        refine lv_ifnull hx hb dX0_reachFrom_24 ?_
        refine lv_aload_n hx hb dX0_reachFrom_27 rfl (lv_at hl 2 rfl) ?_
        refine g_get (C := RX0) (T := TX0) (N := 6) hx hb hts hi0 hown hN hW.1 hk rfl (by decide) 1 (by decide) hfX0_17 (v := .ref lens) ((nJ 1).trans h1) dX0_reachFrom_28 ?_
        refine lv_iload_n hx hb dX0_reachFrom_31 rfl (lv_at hl 1 rfl) ?_
        refine lv_aload_n hx hb dX0_reachFrom_32 rfl (lv_at hl 2 rfl) ?_
        refine g_get (C := RX0) (T := TX0) (N := 6) hx hb hts hi0 hown hN hW.1 hk rfl (by decide) 1 (by decide) hfX0_17 (v := .ref lens) ((nJ 1).trans h1) dX0_reachFrom_33 ?_
        refine lv_iload_n hx hb dX0_reachFrom_36 rfl (lv_at hl 1 rfl) ?_
        refine g_lald (j := fr + k) hx hb hN hW.1 hke (by decide) (show _ = nI (fr + k) from rfl) (by omega) (v := .long (ln (fr + k))) hl1 dX0_reachFrom_37 ?_
        refine lv_aload_n hx hb dX0_reachFrom_38 rfl (lv_at hl 3 rfl) ?_
        refine g_get (C := RX2) (T := TX2) (N := 9) hx hb hts hi2 hown hN hW.1 hg.1 rfl (by decide) 1 (by decide) hfX0_37 (v := .ref pg) hg1.2.2.2.1 dX0_reachFrom_39 ?_
        refine lv_aload hx hb dX0_reachFrom_42 (lv_at hl 0 rfl) ?_
        refine g_get (C := RX2) (T := TX2) (N := 9) hx hb hts hi2 hown hN hW.1 ha.2.1 rfl (by decide) 1 (by decide) hfX0_37 (v := .ref (pa (fr + k))) ha1.2.2.2.1 dX0_reachFrom_44 ?_
        refine g_cV (v := (some (.long (pDist xg.2 (xa (fr + k)).2)))) (As := [.ref (pa (fr + k))]) (b := pg) (rest := [.long (ln (fr + k)), .int (nI (fr + k)), .ref lens]) hx hb hml hown hts hN hW.1 (c_distanceTo l Γ K F1 pg (pa (fr + k)) xg.2 (xa (fr + k)).2 hg1.2.1 hg1.2.2.2.2.1 ha1.2.1 ha1.2.2.2.2.1) gX0_reachFrom_X3_distanceTo rfl hg.2.1 (by decide) rfl (na := 1) rfl (by decide +kernel) ⟨by decide, by decide⟩ ⟨Nat.zero_le _, Nat.zero_le _⟩ rfl hl.1 (Nat.le_of_ble_eq_true rfl) dX0_reachFrom_47 ?_
        show W _ _ _ _ _ _ _ _ _ _ _ _ _ _ _ (F0 m 50 ls [.long (pDist xg.2 (xa (fr + k)).2), .long (ln (fr + k)), .int (nI (fr + k)), .ref lens])
        refine va_mmin_long hx hb (hml.trans hl.1.symm) hown (hts _ (show Cond.methodLink RX0 72 Lib.MathLoose.min_long.x ∈ _ by decide +kernel)) (hts _ (by decide +kernel)) (hts _ (by decide +kernel)) (hts _ (by decide +kernel)) (by decide) (Nat.le_of_ble_eq_true rfl) (Nat.zero_le _) (Nat.zero_le _) dX0_reachFrom_50 ?_
        refine g_asl (show _ = if pDist xg.2 (xa (fr + k)).2 < ln (fr + k) then pDist xg.2 (xa (fr + k)).2 else ln (fr + k) from rfl) ?_
        refine g_last (j := fr + k) hx hb hN hW hke (by decide) (show _ = nI (fr + k) from rfl) (by omega) dX0_reachFrom_53 (fun H locs hW => ?_)
        refine lv_iinc (v := nI ((fr + k) + 1)) (lv' := [(3, .int (nI ((fr + k) + 1))), (4, .ref (Aa (fr + k))), (0, .ref J), (1, .ref g), (2, .int (nI fr))]) hx hb dX0_reachFrom_54 hl (k := 1) rfl (inc1 _) (by decide) rfl (fun ls hl => ?_)
        refine lv_goto (tgt := 2) hx hb dX0_reachFrom_57 (by decide) ?_
        refine ih (k + 1) _ H locs ls (by omega) (fun i i1 i2 => ?_) (fun b i hb => ?_) hW (lv_sub hl [0, 2, 3, 4] rfl)
        · rcases Nat.lt_or_ge i (fr + k) with e | e
          · rw [gU_k (by omega)]; exact hdn i i1 e
          · rw [show i = fr + k by omega]; exact gU_self
        · rw [gU_ne (fun z => hb ⟨z.1, by omega, by omega⟩)]; exact hfr b i (fun z => hb ⟨z.1, z.2.1, by omega⟩)
  refine lv_iload_n hx hb dX0_reachFrom_0 rfl (lv_at hl 2 rfl) ?_
  refine lv_istore_n (lv' := [(3, .int (nI fr)), (0, .ref J), (1, .ref g), (2, .int (nI fr))]) hx hb dX0_reachFrom_1 rfl hl (by decide) rfl (fun ls hl => ?_)
  exact loop n 0 F _ _ ls (by omega) (fun i h1 h2 => absurd h1 (by omega)) (fun _ _ _ => rfl) hW (lv_sub hl [0, 1, 2, 3] rfl)
