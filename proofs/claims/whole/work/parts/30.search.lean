def lastD (S : List (Nat × Int64)) : Int64 := match S.getLast? with
  | some x => x.2
  | none => 0
def shut (k : Nat) (S : List (Nat × Int64)) (g : Int64) : Bool := decide (k ≤ S.length ∧ (S.length = 0 ∨ lastD S < g))
/-- A SEARCH: the list and how many were looked at -/
def srchG {α : Type} (lb : α → gPt × Bool) (k d : Nat) (q : Nat → Int32) : TT α → Nat → List (Nat × Int64) × Nat → List (Nat × Int64) × Nat
  | .leaf, _, st => st
  | .inner _ a _ l r, dep, st =>
    if q (dep % d) - (lb a).1.2 (dep % d) < 0 then
      if shut k (srchG lb k d q l (dep + 1) (if (lb a).2 then st.1 else offL k ((lb a).1.1, pDist q (lb a).1.2) st.1, st.2 + 1)).1 (sqI (q (dep % d) - (lb a).1.2 (dep % d))) then srchG lb k d q l (dep + 1) (if (lb a).2 then st.1 else offL k ((lb a).1.1, pDist q (lb a).1.2) st.1, st.2 + 1)
      else srchG lb k d q r (dep + 1) (srchG lb k d q l (dep + 1) (if (lb a).2 then st.1 else offL k ((lb a).1.1, pDist q (lb a).1.2) st.1, st.2 + 1))
    else
      if shut k (srchG lb k d q r (dep + 1) (if (lb a).2 then st.1 else offL k ((lb a).1.1, pDist q (lb a).1.2) st.1, st.2 + 1)).1 (sqI (q (dep % d) - (lb a).1.2 (dep % d))) then srchG lb k d q r (dep + 1) (if (lb a).2 then st.1 else offL k ((lb a).1.1, pDist q (lb a).1.2) st.1, st.2 + 1)
      else srchG lb k d q l (dep + 1) (srchG lb k d q r (dep + 1) (if (lb a).2 then st.1 else offL k ((lb a).1.1, pDist q (lb a).1.2) st.1, st.2 + 1))
theorem lsR.lastd {K : gK} {F : gF} {h ai ad lim : Nat} {S : List (Nat × Int64)} (H : lsR K F h ai ad S lim) (h0 : 0 < S.length) : F ad (S.length - 1) = .long (lastD S) := by
  obtain ⟨P, z, rfl, hn⟩ := snoc_of (show S.length = (S.length - 1) + 1 by omega)
  have h5 := H.2.2.2.2.2.2.2.2.1
  rw [List.map_append] at h5
  have := rowL.last (v := vDi z) h5
  rw [List.length_map, Nat.zero_add] at this
  rw [show (P ++ [z]).length - 1 = P.length by simp, this]
  simp [vDi, lastD]
def lkP (K : gK) (F : gF) (s h pq : Nat) (q : Nat → Int32) (d : Nat) (dt : Nat → gPt) (pl : Nat → Nat) (dd : Nat → Bool) (t : TT Nat) (up : Option Nat) (dep : Nat) : Prop :=
  F s 0 = .ref pq ∧ F s 1 = .ref h ∧ (∀ i, i < 4 → F pq i = .int (q i)) ∧ NDs K F dt pl dd (tPre t) ∧ CT F d t up dep
def frS (s h ai ad : Nat) (F F' : gF) : Prop := ∀ b j, b ≠ h → b ≠ ai → b ≠ ad → ¬ (b = s ∧ j = 2) → F' b j = F b j
theorem frS.trans {s h ai ad : Nat} {F F1 F2 : gF} (h1 : frS s h ai ad F F1) (h2 : frS s h ai ad F1 F2) : frS s h ai ad F F2 := fun b j a1 a2 a3 a4 => (h2 b j a1 a2 a3 a4).trans (h1 b j a1 a2 a3 a4)
theorem lkP_congr {K : gK} {F F' : gF} {s h ai ad pq d : Nat} {q : Nat → Int32} {dt : Nat → gPt} {pl : Nat → Nat} {dd : Nat → Bool} {t : TT Nat} {up : Option Nat} {dep : Nat} (hks : K s = some (4, 0)) (hkh : K h = some (1, 0)) (hka : K ai = some (8, 100)) (hkd : K ad = some (9, 100)) (hkq : K pq = some (3, 0)) (hf : frS s h ai ad F F') (H : lkP K F s h pq q d dt pl dd t up dep) : lkP K F' s h pq q d dt pl dd t up dep := by
  obtain ⟨h1, h2, h3, h4, h5⟩ := H
  have hs : ∀ j, j ≠ 2 → F' s j = F s j := fun j hj => hf s j (kne hks hkh (by decide)) (kne hks hka (by decide)) (kne hks hkd (by decide)) (fun z => hj z.2)
  have hn : ∀ a j, K a = some (2, 0) → F' a j = F a j := fun a j ha => hf a j (kne ha hkh (by decide)) (kne ha hka (by decide)) (kne ha hkd (by decide)) (fun z => kne ha hks (by decide) z.1)
  have hp : ∀ a j, K a = some (3, 0) → F' a j = F a j := fun a j ha => hf a j (kne ha hkh (by decide)) (kne ha hka (by decide)) (kne ha hkd (by decide)) (fun z => kne ha hks (by decide) z.1)
  exact ⟨by rw [hs 0 (by decide), h1], by rw [hs 1 (by decide), h2], fun i hi => by rw [hp pq i hkq]; exact h3 i hi, NDs_congr (fun b j hb => hb.elim (fun z => hn b j z.1) (fun z => hp b j z)) h4, CT_congr (fun a ha k _ => hn a k (h4 a ha).1.1) h5⟩

set_option maxHeartbeats 4000000 in
set_option maxRecDepth 100000 in
/-- Search.lookAt -/
theorem c_lookAt (l : Launch) (Γ : gG) (K : gK) (s9 h ai ad pq : Nat) (q : Nat → Int32) (k d : Nat) (dt : Nat → gPt) (pl : Nat → Nat) (dd : Nat → Bool) (hks : K s9 = some (4, 0)) (hkh : K h = some (1, 0)) (hka : K ai = some (8, 100)) (hkd : K ad = some (9, 100)) (hkq : K pq = some (3, 0)) (hd1 : 0 < d) (hd4 : d ≤ 4) : ∀ (t : TT Nat) (F : gF) (sz : Nat) (up : Option Nat) (dep : Nat) (S : List (Nat × Int64)) (n : Nat) (hP9 : lkP K F s9 h pq q d dt pl dd t up dep) (hL : lsR K F h ai ad S k) (hn9 : F s9 2 = .int (nI n)) (hdep : dep + tSz t ≤ 120), gMM l yX4_lookAt wsX4_lookAt (tSz t + 3) 0 0 Γ K F sz [.ref s9, va_rf (tRt t), .int (nI dep)] (fun v K' F' => v = none ∧ K' = K ∧ lsR K F' h ai ad (srchG (fun a => (dt a, dd a)) k d q t dep (S, n)).1 k ∧ F' s9 2 = .int (nI (srchG (fun a => (dt a, dd a)) k d q t dep (S, n)).2) ∧ frS s9 h ai ad F F') := by
  intro t
  induction t with
  | leaf =>
    intro F sz up dep S n hP9 hL hn9 hdep
    refine g_mM (cc := cX4_lookAt) (maxL := 4) (ret := none) (by decide) rfl (Nat.le_of_ble_eq_true rfl) ?_
    intro p e s m args below meth c ls Z hsz hx hb hts hown hml hnm hN hW hret hl
    have hl : lv_has ls 4 [(0, .ref s9), (1, .null), (2, .int (nI dep))] := hl
    have hown : s.vm.findClass RX4 = some m.cls := hown
    refine lv_aload_nN hx hb dX4_lookAt_0 rfl (lv_at hl 1 rfl) ?_
    refine lv_ifnullN (tgt := 10) hx hb dX4_lookAt_1 (by decide) ?_
    exact hret none _ _ _ _ _ _ hW (⟨rfl, rfl, hL, hn9, fun _ _ _ _ _ _ => rfl⟩) (rt_v dX4_lookAt_10)
  | inner s8 a v8 L R ihl ihr =>
    intro F sz up dep S n hP9 hL hn9 hdep
    refine g_mM (cc := cX4_lookAt) (maxL := 4) (ret := none) (by decide) rfl (Nat.le_of_ble_eq_true rfl) ?_
    intro p e s m args below meth c ls Z hsz hx hb hts hown hml hnm hN hW hret hl
    have hl : lv_has ls 4 [(0, .ref s9), (1, .ref a), (2, .int (nI dep))] := hl
    have hown : s.vm.findClass RX4 = some m.cls := hown
    have hi2 : ∀ w ∈ wsX20, w ∈ wsX4_lookAt := by decide +kernel
    have hi4 : ∀ w ∈ wsX40, w ∈ wsX4_lookAt := by decide +kernel
    have hfX4_9 : Cond.fieldLink RX4 9 (TX4 0).1 (TX4 0).2.1 (TX4 0).2.2.1 ∈ wsX4_lookAt := by decide +kernel
    have hfX4_15 : Cond.fieldLink RX4 15 (TX4 1).1 (TX4 1).2.1 (TX4 1).2.2.1 ∈ wsX4_lookAt := by decide +kernel
    have hfX4_19 : Cond.fieldLink RX4 19 (TX4 2).1 (TX4 2).2.1 (TX4 2).2.2.1 ∈ wsX4_lookAt := by decide +kernel
    have hfX4_27 : Cond.fieldLink RX4 27 (TX2 2).1 (TX2 2).2.1 (TX2 2).2.2.1 ∈ wsX4_lookAt := by decide +kernel
    have hfX4_33 : Cond.fieldLink RX4 33 (TX2 0).1 (TX2 0).2.1 (TX2 0).2.2.1 ∈ wsX4_lookAt := by decide +kernel
    have hfX4_36 : Cond.fieldLink RX4 36 (TX2 1).1 (TX2 1).2.1 (TX2 1).2.2.1 ∈ wsX4_lookAt := by decide +kernel
    have hfX4_49 : Cond.fieldLink RX4 49 (TX2 4).1 (TX2 4).2.1 (TX2 4).2.2.1 ∈ wsX4_lookAt := by decide +kernel
    have hfX4_56 : Cond.fieldLink RX4 56 (TX2 7).1 (TX2 7).2.1 (TX2 7).2.2.1 ∈ wsX4_lookAt := by decide +kernel
    have hfX4_60 : Cond.fieldLink RX4 60 (TX2 8).1 (TX2 8).2.1 (TX2 8).2.2.1 ∈ wsX4_lookAt := by decide +kernel
    obtain ⟨g1, g2, g3, g4, g5⟩ := id hP9
    have hka9 := (g4 a List.mem_cons_self).1
    have hdd := (g4 a List.mem_cons_self).2
    obtain ⟨e1, e2, e3, e4, e5, e6, e7, e8⟩ := id g5
    have hax : dep % d < 4 := Nat.lt_of_lt_of_le (Nat.mod_lt _ hd1) hd4
    have hdep : dep + (tSz L + tSz R + 1) ≤ 120 := hdep
    generalize hS1 : (if dd a then S else offL k ((dt a).1, pDist q (dt a).2) S) = S1 at hret
    generalize hgap : q (dep % d) - (dt a).2 (dep % d) = gap at hret
    have cont : ∀ (F2 : gF) (H : Heap) (locs : List Loc) (ls : Array Slot), lsR K F2 h ai ad S1 k → F2 s9 2 = .int (nI (n + 1)) → frS s9 h ai ad F F2 → gW Γ (gA K sz) s.heap K F2 H locs → lv_has ls 4 [(0, .ref s9), (1, .ref a), (2, .int (nI dep))] → W p l e (gRm (tSz L + tSz R + 1 + 3) 0 0) s m args below meth c H locs 0 0 Z (F0 m 50 ls []) := by
      intro F2 H locs ls hL2 hn2 hf2 hW hl
      obtain ⟨k1, k2, k3, k4, k5⟩ := lkP_congr hks hkh hka hkd hkq hf2 hP9
      obtain ⟨u1, u2, u3, u4, u5, u6, u7, u8⟩ := id k5
      have hka2 := (k4 a List.mem_cons_self).1
      refine lv_aload_n hx hb dX4_lookAt_50 rfl (lv_at hl 0 rfl) ?_
      refine g_get (C := RX4) (T := TX4) (N := 3) hx hb hts hi4 hown hN hW.1 hks rfl (by decide) 0 (by decide) hfX4_9 (v := .ref pq) k1 dX4_lookAt_51 ?_
      refine lv_aload_n hx hb dX4_lookAt_54 rfl (lv_at hl 1 rfl) ?_
      refine g_get (C := RX2) (T := TX2) (N := 9) hx hb hts hi2 hown hN hW.1 hka9.1 rfl (by decide) 4 (by decide) hfX4_49 (v := .int (nI (dep % d))) u2 dX4_lookAt_55 ?_
      refine g_cV (v := (some (.int (q (dep % d))))) (As := [.int (nI (dep % d))]) (b := pq) (rest := []) hx hb hml hown hts hN hW.1 (c_number l Γ K F2 pq q (dep % d) hkq k3 hax) gX4_lookAt_X3_number rfl hkq (by decide) rfl (na := 1) rfl (by decide +kernel) ⟨by simp only [gRm]; omega, by simp only [gRm]; omega⟩ ⟨Nat.zero_le _, Nat.zero_le _⟩ rfl hl.1 (Nat.le_of_ble_eq_true rfl) dX4_lookAt_58 ?_
      show W _ _ _ _ _ _ _ _ _ _ _ _ _ _ _ (F0 m 61 ls [.int (q (dep % d))])
      refine lv_aload_n hx hb dX4_lookAt_61 rfl (lv_at hl 1 rfl) ?_
      refine g_get (C := RX2) (T := TX2) (N := 9) hx hb hts hi2 hown hN hW.1 hka9.1 rfl (by decide) 1 (by decide) hfX4_36 (v := .ref (pl a)) hka2.2.2.2.1 dX4_lookAt_62 ?_
      refine lv_aload_n hx hb dX4_lookAt_65 rfl (lv_at hl 1 rfl) ?_
      refine g_get (C := RX2) (T := TX2) (N := 9) hx hb hts hi2 hown hN hW.1 hka9.1 rfl (by decide) 4 (by decide) hfX4_49 (v := .int (nI (dep % d))) u2 dX4_lookAt_66 ?_
      refine g_cV (v := (some (.int ((dt a).2 (dep % d))))) (As := [.int (nI (dep % d))]) (b := pl a) (rest := [.int (q (dep % d))]) hx hb hml hown hts hN hW.1 (c_number l Γ K F2 (pl a) (dt a).2 (dep % d) hka2.2.1 hka2.2.2.2.2.1 hax) gX4_lookAt_X3_number rfl hka9.2.1 (by decide) rfl (na := 1) rfl (by decide +kernel) ⟨by simp only [gRm]; omega, by simp only [gRm]; omega⟩ ⟨Nat.zero_le _, Nat.zero_le _⟩ rfl hl.1 (Nat.le_of_ble_eq_true rfl) dX4_lookAt_69 ?_
      show W _ _ _ _ _ _ _ _ _ _ _ _ _ _ _ (F0 m 72 ls [.int ((dt a).2 (dep % d)), .int (q (dep % d))])
      refine lv_isub hx hb dX4_lookAt_72 ?_
      refine g_asi (show _ = gap from hgap) ?_
      refine lv_istore_n (lv' := [(3, .int gap), (0, .ref s9), (1, .ref a), (2, .int (nI dep))]) hx hb dX4_lookAt_73 rfl hl (by decide) rfl (fun ls hl => ?_)
      refine lv_aload_n hx hb dX4_lookAt_74 rfl (lv_at hl 1 rfl) ?_
      refine lv_iload_n hx hb dX4_lookAt_75 rfl (lv_at hl 0 rfl) ?_
      refine lv_if_ge (tgt := 86) hx hb dX4_lookAt_76 (by decide) (fun c1 => ?_) (fun c1 => ?_)
      · refine lv_aload_n hx hb dX4_lookAt_86 rfl (lv_at hl 2 rfl) ?_
        refine g_get (C := RX2) (T := TX2) (N := 9) hx hb hts hi2 hown hN hW.1 hka9.1 rfl (by decide) 8 (by decide) hfX4_60 (v := va_rf (tRt R)) u6 dX4_lookAt_87 ?_
        refine lv_iload_n hx hb dX4_lookAt_90 rfl (lv_at hl 3 rfl) ?_
        refine lv_iconst (v := nI 1) hx hb dX4_lookAt_91 (by decide) ?_
        refine lv_iadd hx hb dX4_lookAt_92 ?_
        refine g_asi (show _ = nI (dep + 1) from (nI_add _ _).trans (by rfl)) ?_
        refine g_mV (As := [va_rf (tRt R), .int (nI (dep + 1))]) (b := s9) (rest := []) hx hb hml hown hts hN hW (ihr F2 H.size (some a) (dep + 1) S1 (n + 1) ⟨k1, k2, k3, NDs_sub k4 (fun z hz => List.mem_cons_of_mem _ (List.mem_append_right _ hz)), u8⟩ hL2 hn2 (by omega)) gX4_lookAt_X4_lookAt rfl hks (by decide) rfl (na := 2) rfl (by decide +kernel) ⟨by simp only [gRm]; omega, by simp only [gRm]; omega⟩ ⟨Nat.le_of_ble_eq_true rfl, Nat.le_of_ble_eq_true rfl⟩ rfl hl.1 (Nat.le_of_ble_eq_true rfl) dX4_lookAt_93 (fun v K' F3 H locs hp hW hsz' => ?_)
        obtain ⟨rfl, hK9, hL3, hn3, hf3⟩ := hp
        subst K'
        show W _ _ _ _ _ _ _ _ _ _ _ _ _ _ _ (F0 m 96 ls [])
        generalize hst : srchG (fun a => (dt a, dd a)) k d q R (dep + 1) (S1, n + 1) = st at hL3 hn3
        obtain ⟨S2, n2⟩ := st
        have hf4 := hf2.trans hf3
        obtain ⟨m1, m2, m3, m4, m5⟩ := lkP_congr hks hkh hka hkd hkq hf4 hP9
        obtain ⟨w1, w2, w3, w4, w5, w6, w7, w8⟩ := id m5
        obtain ⟨-, -, -, b0, b1, b2, b3, -, -, b6, b7, -⟩ := id hL3
        have hsp : srchG (fun a => (dt a, dd a)) k d q (Std.DTreeMap.Internal.Impl.inner s8 a v8 L R) dep (S, n) = if shut k S2 (sqI gap) then (S2, n2) else srchG (fun a => (dt a, dd a)) k d q L (dep + 1) (S2, n2) := by
          rw [srchG]
          simp only []
          rw [hS1, hgap, if_neg (Int32.not_lt.mpr c1), hst]
        refine lv_aload_n hx hb dX4_lookAt_96 rfl (lv_at hl 1 rfl) ?_
        refine g_get (C := RX4) (T := TX4) (N := 3) hx hb hts hi4 hown hN hW.1 hks rfl (by decide) 1 (by decide) hfX4_15 (v := .ref h) m2 dX4_lookAt_97 ?_
        refine lv_iload_n hx hb dX4_lookAt_100 rfl (lv_at hl 0 rfl) ?_
        refine lv_i2l (v := gap.toInt64) hx hb dX4_lookAt_101 rfl ?_
        refine g_cS (v := (some (.long (sqI gap)))) (As := [.long gap.toInt64]) (rest := [.ref h]) hx hb hml hown hts hN hW.1 (c_square l Γ K F3 gap.toInt64) gX4_lookAt_X3_square rfl (na := 1) rfl (by decide +kernel) ⟨by simp only [gRm]; omega, by simp only [gRm]; omega⟩ ⟨Nat.zero_le _, Nat.zero_le _⟩ rfl hl.1 (Nat.le_of_ble_eq_true rfl) dX4_lookAt_102 ?_
        show W _ _ _ _ _ _ _ _ _ _ _ _ _ _ _ (F0 m 105 ls [.long (sqI gap), .ref h])
        refine g_cV (v := (some (.int (bI (shut k S2 (sqI gap)))))) (As := [.long (sqI gap)]) (b := h) (rest := []) hx hb hml hown hts hN hW.1 (c_shutsOut l Γ K F3 h ad S2.length k (lastD S2) (sqI gap) hkh hkd b1 b2 b3 (Nat.le_trans b6 b7) b7 hL3.lastd) gX4_lookAt_X1_shutsOut rfl hkh (by decide) rfl (na := 1) rfl (by decide +kernel) ⟨by simp only [gRm]; omega, by simp only [gRm]; omega⟩ ⟨Nat.zero_le _, Nat.zero_le _⟩ rfl hl.1 (Nat.le_of_ble_eq_true rfl) dX4_lookAt_105 ?_
        show W _ _ _ _ _ _ _ _ _ _ _ _ _ _ _ (F0 m 108 ls [.int (bI (shut k S2 (sqI gap)))])
        refine lv_if_ne (tgt := 133) hx hb dX4_lookAt_108 (by decide) (fun c2 => ?_) (fun c2 => ?_)
        · have c2 : (shut k S2 (sqI gap)) = true := bI_n0.mp c2
          rw [hsp, if_pos c2] at hret
          exact hret none _ _ _ _ _ _ hW (⟨rfl, rfl, hL3, hn3, hf4⟩) (rt_v dX4_lookAt_133)
        · have c2 : (shut k S2 (sqI gap)) = false := bI_0.mp c2
          rw [hsp, if_neg (by rw [c2]; decide)] at hret
          refine lv_aload_n hx hb dX4_lookAt_111 rfl (lv_at hl 1 rfl) ?_
          refine lv_iload_n hx hb dX4_lookAt_112 rfl (lv_at hl 0 rfl) ?_
          refine lv_if_ge (tgt := 123) hx hb dX4_lookAt_113 (by decide) (fun c3 => ?_) (fun c3 => ?_)
          · refine lv_aload_n hx hb dX4_lookAt_123 rfl (lv_at hl 2 rfl) ?_
            refine g_get (C := RX2) (T := TX2) (N := 9) hx hb hts hi2 hown hN hW.1 hka9.1 rfl (by decide) 7 (by decide) hfX4_56 (v := va_rf (tRt L)) w5 dX4_lookAt_124 ?_
            refine lv_iload_n hx hb dX4_lookAt_127 rfl (lv_at hl 3 rfl) ?_
            refine lv_iconst (v := nI 1) hx hb dX4_lookAt_128 (by decide) ?_
            refine lv_iadd hx hb dX4_lookAt_129 ?_
            refine g_asi (show _ = nI (dep + 1) from (nI_add _ _).trans (by rfl)) ?_
            refine g_mV (As := [va_rf (tRt L), .int (nI (dep + 1))]) (b := s9) (rest := []) hx hb hml hown hts hN hW (ihl F3 H.size (some a) (dep + 1) S2 n2 ⟨m1, m2, m3, NDs_sub m4 (fun z hz => List.mem_cons_of_mem _ (List.mem_append_left _ hz)), w7⟩ hL3 hn3 (by omega)) gX4_lookAt_X4_lookAt rfl hks (by decide) rfl (na := 2) rfl (by decide +kernel) ⟨by simp only [gRm]; omega, by simp only [gRm]; omega⟩ ⟨Nat.le_of_ble_eq_true rfl, Nat.le_of_ble_eq_true rfl⟩ rfl hl.1 (Nat.le_of_ble_eq_true rfl) dX4_lookAt_130 (fun v K' F5 H locs hp hW hsz' => ?_)
            obtain ⟨rfl, hK9, hL5, hn5, hf5⟩ := hp
            subst K'
            show W _ _ _ _ _ _ _ _ _ _ _ _ _ _ _ (F0 m 133 ls [])
            exact hret none _ _ _ _ _ _ hW (⟨rfl, rfl, hL5, hn5, hf4.trans hf5⟩) (rt_v dX4_lookAt_133)
          · exact absurd c1 c3
      · refine lv_aload_n hx hb dX4_lookAt_79 rfl (lv_at hl 2 rfl) ?_
        refine g_get (C := RX2) (T := TX2) (N := 9) hx hb hts hi2 hown hN hW.1 hka9.1 rfl (by decide) 7 (by decide) hfX4_56 (v := va_rf (tRt L)) u5 dX4_lookAt_80 ?_
        refine lv_goto (tgt := 90) hx hb dX4_lookAt_83 (by decide) ?_
        refine lv_iload_n hx hb dX4_lookAt_90 rfl (lv_at hl 3 rfl) ?_
        refine lv_iconst (v := nI 1) hx hb dX4_lookAt_91 (by decide) ?_
        refine lv_iadd hx hb dX4_lookAt_92 ?_
        refine g_asi (show _ = nI (dep + 1) from (nI_add _ _).trans (by rfl)) ?_
        refine g_mV (As := [va_rf (tRt L), .int (nI (dep + 1))]) (b := s9) (rest := []) hx hb hml hown hts hN hW (ihl F2 H.size (some a) (dep + 1) S1 (n + 1) ⟨k1, k2, k3, NDs_sub k4 (fun z hz => List.mem_cons_of_mem _ (List.mem_append_left _ hz)), u7⟩ hL2 hn2 (by omega)) gX4_lookAt_X4_lookAt rfl hks (by decide) rfl (na := 2) rfl (by decide +kernel) ⟨by simp only [gRm]; omega, by simp only [gRm]; omega⟩ ⟨Nat.le_of_ble_eq_true rfl, Nat.le_of_ble_eq_true rfl⟩ rfl hl.1 (Nat.le_of_ble_eq_true rfl) dX4_lookAt_93 (fun v K' F3 H locs hp hW hsz' => ?_)
        obtain ⟨rfl, hK9, hL3, hn3, hf3⟩ := hp
        subst K'
        show W _ _ _ _ _ _ _ _ _ _ _ _ _ _ _ (F0 m 96 ls [])
        generalize hst : srchG (fun a => (dt a, dd a)) k d q L (dep + 1) (S1, n + 1) = st at hL3 hn3
        obtain ⟨S2, n2⟩ := st
        have hf4 := hf2.trans hf3
        obtain ⟨m1, m2, m3, m4, m5⟩ := lkP_congr hks hkh hka hkd hkq hf4 hP9
        obtain ⟨w1, w2, w3, w4, w5, w6, w7, w8⟩ := id m5
        obtain ⟨-, -, -, b0, b1, b2, b3, -, -, b6, b7, -⟩ := id hL3
        have hsp : srchG (fun a => (dt a, dd a)) k d q (Std.DTreeMap.Internal.Impl.inner s8 a v8 L R) dep (S, n) = if shut k S2 (sqI gap) then (S2, n2) else srchG (fun a => (dt a, dd a)) k d q R (dep + 1) (S2, n2) := by
          rw [srchG]
          simp only []
          rw [hS1, hgap, if_pos (Int32.not_le.mp c1), hst]
        refine lv_aload_n hx hb dX4_lookAt_96 rfl (lv_at hl 1 rfl) ?_
        refine g_get (C := RX4) (T := TX4) (N := 3) hx hb hts hi4 hown hN hW.1 hks rfl (by decide) 1 (by decide) hfX4_15 (v := .ref h) m2 dX4_lookAt_97 ?_
        refine lv_iload_n hx hb dX4_lookAt_100 rfl (lv_at hl 0 rfl) ?_
        refine lv_i2l (v := gap.toInt64) hx hb dX4_lookAt_101 rfl ?_
        refine g_cS (v := (some (.long (sqI gap)))) (As := [.long gap.toInt64]) (rest := [.ref h]) hx hb hml hown hts hN hW.1 (c_square l Γ K F3 gap.toInt64) gX4_lookAt_X3_square rfl (na := 1) rfl (by decide +kernel) ⟨by simp only [gRm]; omega, by simp only [gRm]; omega⟩ ⟨Nat.zero_le _, Nat.zero_le _⟩ rfl hl.1 (Nat.le_of_ble_eq_true rfl) dX4_lookAt_102 ?_
        show W _ _ _ _ _ _ _ _ _ _ _ _ _ _ _ (F0 m 105 ls [.long (sqI gap), .ref h])
        refine g_cV (v := (some (.int (bI (shut k S2 (sqI gap)))))) (As := [.long (sqI gap)]) (b := h) (rest := []) hx hb hml hown hts hN hW.1 (c_shutsOut l Γ K F3 h ad S2.length k (lastD S2) (sqI gap) hkh hkd b1 b2 b3 (Nat.le_trans b6 b7) b7 hL3.lastd) gX4_lookAt_X1_shutsOut rfl hkh (by decide) rfl (na := 1) rfl (by decide +kernel) ⟨by simp only [gRm]; omega, by simp only [gRm]; omega⟩ ⟨Nat.zero_le _, Nat.zero_le _⟩ rfl hl.1 (Nat.le_of_ble_eq_true rfl) dX4_lookAt_105 ?_
        show W _ _ _ _ _ _ _ _ _ _ _ _ _ _ _ (F0 m 108 ls [.int (bI (shut k S2 (sqI gap)))])
        refine lv_if_ne (tgt := 133) hx hb dX4_lookAt_108 (by decide) (fun c2 => ?_) (fun c2 => ?_)
        · have c2 : (shut k S2 (sqI gap)) = true := bI_n0.mp c2
          rw [hsp, if_pos c2] at hret
          exact hret none _ _ _ _ _ _ hW (⟨rfl, rfl, hL3, hn3, hf4⟩) (rt_v dX4_lookAt_133)
        · have c2 : (shut k S2 (sqI gap)) = false := bI_0.mp c2
          rw [hsp, if_neg (by rw [c2]; decide)] at hret
          refine lv_aload_n hx hb dX4_lookAt_111 rfl (lv_at hl 1 rfl) ?_
          refine lv_iload_n hx hb dX4_lookAt_112 rfl (lv_at hl 0 rfl) ?_
          refine lv_if_ge (tgt := 123) hx hb dX4_lookAt_113 (by decide) (fun c3 => ?_) (fun c3 => ?_)
          · exact absurd c3 c1
          · refine lv_aload_n hx hb dX4_lookAt_116 rfl (lv_at hl 2 rfl) ?_
            refine g_get (C := RX2) (T := TX2) (N := 9) hx hb hts hi2 hown hN hW.1 hka9.1 rfl (by decide) 8 (by decide) hfX4_60 (v := va_rf (tRt R)) w6 dX4_lookAt_117 ?_
            refine lv_goto (tgt := 127) hx hb dX4_lookAt_120 (by decide) ?_
            refine lv_iload_n hx hb dX4_lookAt_127 rfl (lv_at hl 3 rfl) ?_
            refine lv_iconst (v := nI 1) hx hb dX4_lookAt_128 (by decide) ?_
            refine lv_iadd hx hb dX4_lookAt_129 ?_
            refine g_asi (show _ = nI (dep + 1) from (nI_add _ _).trans (by rfl)) ?_
            refine g_mV (As := [va_rf (tRt R), .int (nI (dep + 1))]) (b := s9) (rest := []) hx hb hml hown hts hN hW (ihr F3 H.size (some a) (dep + 1) S2 n2 ⟨m1, m2, m3, NDs_sub m4 (fun z hz => List.mem_cons_of_mem _ (List.mem_append_right _ hz)), w8⟩ hL3 hn3 (by omega)) gX4_lookAt_X4_lookAt rfl hks (by decide) rfl (na := 2) rfl (by decide +kernel) ⟨by simp only [gRm]; omega, by simp only [gRm]; omega⟩ ⟨Nat.le_of_ble_eq_true rfl, Nat.le_of_ble_eq_true rfl⟩ rfl hl.1 (Nat.le_of_ble_eq_true rfl) dX4_lookAt_130 (fun v K' F5 H locs hp hW hsz' => ?_)
            obtain ⟨rfl, hK9, hL5, hn5, hf5⟩ := hp
            subst K'
            show W _ _ _ _ _ _ _ _ _ _ _ _ _ _ _ (F0 m 133 ls [])
            exact hret none _ _ _ _ _ _ hW (⟨rfl, rfl, hL5, hn5, hf4.trans hf5⟩) (rt_v dX4_lookAt_133)
    refine lv_aload_n hx hb dX4_lookAt_0 rfl (lv_at hl 1 rfl) ?_
    refine lv_ifnull hx hb dX4_lookAt_1 ?_
    refine lv_iload_n hx hb dX4_lookAt_4 rfl (lv_at hl 2 rfl) ?_
    refine lv_bipush (v := nI 120) hx hb dX4_lookAt_5 (by decide) ?_
    refine lv_icmp_lt (tgt := 11) hx hb dX4_lookAt_7 (by decide) (fun c0 => ?_) (fun c0 => ?_)
    · have c0 : dep < 120 := (nI_ltI (by omega) (by omega)).mp c0
      refine lv_aload_n hx hb dX4_lookAt_11 rfl (lv_at hl 0 rfl) ?_
      refine lv_dup hx hb dX4_lookAt_12 rfl ?_
      refine g_get (C := RX4) (T := TX4) (N := 3) hx hb hts hi4 hown hN hW.1 hks rfl (by decide) 2 (by decide) hfX4_19 (v := .int (nI n)) hn9 dX4_lookAt_13 ?_
      refine lv_iconst (v := nI 1) hx hb dX4_lookAt_16 (by decide) ?_
      refine lv_iadd hx hb dX4_lookAt_17 ?_
      refine g_asi (show _ = nI (n + 1) from (nI_add _ _).trans (by rfl)) ?_
      refine g_put (C := RX4) (T := TX4) (N := 3) hx hb hts hi4 tyX4 tyX4_ok nmX4 hown hN hW hks rfl (by decide) 2 (by decide) hfX4_19 rfl rfl rfl dX4_lookAt_18 (fun H locs hW => ?_)
      obtain ⟨F1, hF1⟩ : ∃ F1, F1 = (gU F s9 2 (.int (nI (n + 1)))) := ⟨_, rfl⟩
      rw [← hF1] at hW
      have hf1 : frS s9 h ai ad F F1 := fun b j _ _ _ hb => by rw [hF1, gU_ne hb]
      have hn1 : F1 s9 2 = .int (nI (n + 1)) := by rw [hF1, gU_self]
      have hL1 : lsR K F1 h ai ad S k := by
        obtain ⟨b0, b1, b2, b3, b4, b5, b6, b7, b8, b9, b10, b11⟩ := hL
        have na : h ≠ s9 := kne hkh hks (by decide)
        have nb : ai ≠ s9 := kne hka hks (by decide)
        have nc : ad ≠ s9 := kne hkd hks (by decide)
        rw [hF1]
        exact ⟨b0, b1, b2, by rw [gU_a na, b3], by rw [gU_a na, b4], by rw [gU_a na, b5], by rw [gU_a na, b6], b7.up (Or.inl (Ne.symm nb)), b8.up (Or.inl (Ne.symm nc)), b9, b10, b11⟩
      obtain ⟨k1, k2, k3, k4, k5⟩ := lkP_congr hks hkh hka hkd hkq hf1 hP9
      have hka2 := (k4 a List.mem_cons_self).1
      refine lv_aload_n hx hb dX4_lookAt_21 rfl (lv_at hl 1 rfl) ?_
      refine g_get (C := RX2) (T := TX2) (N := 9) hx hb hts hi2 hown hN hW.1 hka9.1 rfl (by decide) 2 (by decide) hfX4_27 (v := .int (bI (dd a))) (k4 a List.mem_cons_self).2 dX4_lookAt_22 ?_
      refine lv_if_ne (tgt := 50) hx hb dX4_lookAt_25 (by decide) (fun c1 => ?_) (fun c1 => ?_)
      · have c1 : (dd a) = true := bI_n0.mp c1
        exact cont F1 H locs ls (by rw [← hS1, if_pos c1]; exact hL1) hn1 hf1 hW (lv_sub hl [0, 1, 2] rfl)
      · have c1 : (dd a) = false := bI_0.mp c1
        refine lv_aload_n hx hb dX4_lookAt_28 rfl (lv_at hl 0 rfl) ?_
        refine g_get (C := RX4) (T := TX4) (N := 3) hx hb hts hi4 hown hN hW.1 hks rfl (by decide) 1 (by decide) hfX4_15 (v := .ref h) k2 dX4_lookAt_29 ?_
        refine lv_aload_n hx hb dX4_lookAt_32 rfl (lv_at hl 1 rfl) ?_
        refine g_get (C := RX2) (T := TX2) (N := 9) hx hb hts hi2 hown hN hW.1 hka9.1 rfl (by decide) 0 (by decide) hfX4_33 (v := .int (nI (dt a).1)) hka2.2.2.1 dX4_lookAt_33 ?_
        refine lv_aload_n hx hb dX4_lookAt_36 rfl (lv_at hl 0 rfl) ?_
        refine g_get (C := RX4) (T := TX4) (N := 3) hx hb hts hi4 hown hN hW.1 hks rfl (by decide) 0 (by decide) hfX4_9 (v := .ref pq) k1 dX4_lookAt_37 ?_
        refine lv_aload_n hx hb dX4_lookAt_40 rfl (lv_at hl 1 rfl) ?_
        refine g_get (C := RX2) (T := TX2) (N := 9) hx hb hts hi2 hown hN hW.1 hka9.1 rfl (by decide) 1 (by decide) hfX4_36 (v := .ref (pl a)) hka2.2.2.2.1 dX4_lookAt_41 ?_
        refine g_cV (v := (some (.long (pDist q (dt a).2)))) (As := [.ref (pl a)]) (b := pq) (rest := [.int (nI (dt a).1), .ref h]) hx hb hml hown hts hN hW.1 (c_distanceTo l Γ K F1 pq (pl a) q (dt a).2 hkq k3 hka2.2.1 hka2.2.2.2.2.1) gX4_lookAt_X3_distanceTo rfl hkq (by decide) rfl (na := 1) rfl (by decide +kernel) ⟨by simp only [gRm]; omega, by simp only [gRm]; omega⟩ ⟨Nat.zero_le _, Nat.zero_le _⟩ rfl hl.1 (Nat.le_of_ble_eq_true rfl) dX4_lookAt_44 ?_
        show W _ _ _ _ _ _ _ _ _ _ _ _ _ _ _ (F0 m 47 ls [.long (pDist q (dt a).2), .int (nI (dt a).1), .ref h])
        refine g_mV (As := [.int (nI (dt a).1), .long (pDist q (dt a).2)]) (b := h) (rest := []) hx hb hml hown hts hN hW (c_offer l Γ K F1 H.size h ai ad ((dt a).1, pDist q (dt a).2) S k hL1 hka2.2.2.2.2.2) gX4_lookAt_X1_offer rfl hkh (by decide) rfl (na := 2) rfl (by decide +kernel) ⟨by simp only [gRm]; omega, by simp only [gRm]; omega⟩ ⟨Nat.le_of_ble_eq_true rfl, Nat.le_of_ble_eq_true rfl⟩ rfl hl.1 (Nat.le_of_ble_eq_true rfl) dX4_lookAt_47 (fun v K' F2 H locs hp hW hsz' => ?_)
        obtain ⟨rfl, hK9, hL2, hfr2⟩ := hp
        subst K'
        show W _ _ _ _ _ _ _ _ _ _ _ _ _ _ _ (F0 m 50 ls [])
        exact cont F2 H locs ls (by rw [← hS1, if_neg (by rw [c1]; decide)]; exact hL2) ((hfr2 s9 2 (kne hks hkh (by decide)) (kne hks hka (by decide)) (kne hks hkd (by decide))).trans hn1) (hf1.trans (fun b j a1 a2 a3 _ => hfr2 b j a1 a2 a3)) hW (lv_sub hl [0, 1, 2] rfl)
    · have c0 : 120 ≤ dep := Nat.not_lt.mp (fun z => c0 ((nI_ltI (by omega) (by omega)).mpr z))
      exact absurd c0 (by omega)

set_option maxHeartbeats 4000000 in
set_option maxRecDepth 100000 in
theorem c_start (l : Launch) (Γ : gG) (K : gK) (F : gF) (sz : Nat) (s9 h ai ad pq : Nat) (q : Nat → Int32) (k d : Nat) (dt : Nat → gPt) (pl : Nat → Nat) (dd : Nat → Bool) (hks : K s9 = some (4, 0)) (hkh : K h = some (1, 0)) (hka : K ai = some (8, 100)) (hkd : K ad = some (9, 100)) (hkq : K pq = some (3, 0)) (hd1 : 0 < d) (hd4 : d ≤ 4) (t : TT Nat) (S : List (Nat × Int64)) (r0 : Option Nat) (hr0 : r0 = tRt t) (hP9 : lkP K F s9 h pq q d dt pl dd t none 0) (hL : lsR K F h ai ad S k) (hs : tSz t ≤ 120) : gMM l yX4_start wsX4_start (tSz t + 4) 0 0 Γ K F sz [.ref s9, va_rf r0] (fun v K' F' => v = none ∧ K' = K ∧ lsR K F' h ai ad (srchG (fun a => (dt a, dd a)) k d q t 0 (S, 0)).1 k ∧ F' s9 2 = .int (nI (srchG (fun a => (dt a, dd a)) k d q t 0 (S, 0)).2) ∧ frS s9 h ai ad F F') := by
  refine g_mM (cc := cX4_start) (maxL := 2) (ret := none) (by decide) rfl (by cases r0 <;> exact Nat.le_of_ble_eq_true rfl) ?_
  intro p e s m args below meth c ls Z hsz hx hb hts hown hml hnm hN hW hret hl
  have hl : lv_has ls 2 [(0, .ref s9), (1, va_rf r0)] := by cases r0 <;> exact hl
  have hown : s.vm.findClass RX4 = some m.cls := hown
  have hi4 : ∀ w ∈ wsX40, w ∈ wsX4_start := by decide +kernel
  have hfX4_19 : Cond.fieldLink RX4 19 (TX4 2).1 (TX4 2).2.1 (TX4 2).2.2.1 ∈ wsX4_start := by decide +kernel
  refine lv_aload_n hx hb dX4_start_0 rfl (lv_at hl 0 rfl) ?_
  refine lv_iconst (v := nI 0) hx hb dX4_start_1 (by decide) ?_
  refine g_put (C := RX4) (T := TX4) (N := 3) hx hb hts hi4 tyX4 tyX4_ok nmX4 hown hN hW hks rfl (by decide) 2 (by decide) hfX4_19 rfl rfl rfl dX4_start_2 (fun H locs hW => ?_)
  obtain ⟨F1, hF1⟩ : ∃ F1, F1 = (gU F s9 2 (.int (nI 0))) := ⟨_, rfl⟩
  rw [← hF1] at hW
  have hf1 : frS s9 h ai ad F F1 := fun b j _ _ _ hb => by rw [hF1, gU_ne hb]
  have hn1 : F1 s9 2 = .int (nI 0) := by rw [hF1, gU_self]
  have hL1 : lsR K F1 h ai ad S k := by
    obtain ⟨b0, b1, b2, b3, b4, b5, b6, b7, b8, b9, b10, b11⟩ := hL
    have na : h ≠ s9 := kne hkh hks (by decide)
    have nb : ai ≠ s9 := kne hka hks (by decide)
    have nc : ad ≠ s9 := kne hkd hks (by decide)
    rw [hF1]
    exact ⟨b0, b1, b2, by rw [gU_a na, b3], by rw [gU_a na, b4], by rw [gU_a na, b5], by rw [gU_a na, b6], b7.up (Or.inl (Ne.symm nb)), b8.up (Or.inl (Ne.symm nc)), b9, b10, b11⟩
  refine lv_aload_n hx hb dX4_start_5 rfl (lv_at hl 0 rfl) ?_
  refine g_aload_n (r := r0) hx hb dX4_start_6 rfl (lv_at hl 1 rfl) ?_
  refine lv_iconst (v := nI 0) hx hb dX4_start_7 (by decide) ?_
  refine g_mV (As := [va_rf r0, .int (nI 0)]) (b := s9) (rest := []) hx hb hml hown hts hN hW (by
      have q9 := c_lookAt l Γ K s9 h ai ad pq q k d dt pl dd hks hkh hka hkd hkq hd1 hd4 t F1 H.size none 0 S 0 (lkP_congr hks hkh hka hkd hkq hf1 hP9) hL1 hn1 (by omega)
      rw [← hr0] at q9
      exact q9) gX4_start_X4_lookAt rfl hks (by decide) rfl (na := 2) rfl (by decide +kernel) ⟨by simp only [gRm]; omega, by simp only [gRm]; omega⟩ ⟨Nat.le_of_ble_eq_true rfl, Nat.le_of_ble_eq_true rfl⟩ rfl hl.1 (Nat.le_of_ble_eq_true rfl) dX4_start_8 (fun v K' F2 H locs hp hW hsz' => ?_)
  obtain ⟨rfl, hK9, hL2, hn2, hf2⟩ := hp
  subst K'
  show W _ _ _ _ _ _ _ _ _ _ _ _ _ _ _ (F0 m 11 ls [])
  exact hret none _ _ _ _ _ _ hW (⟨rfl, rfl, hL2, hn2, hf1.trans hf2⟩) (rt_v dX4_start_11)
