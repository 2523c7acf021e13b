set_option maxHeartbeats 4000000 in
set_option maxRecDepth 100000 in
theorem c_nodeCount (l : Launch) (Γ : gG) (K : gK) (F : gF) (T d : Nat) (t : TT Nat) (hk : K T = some (5, 0)) (h2 : F T 2 = va_rf (tRt t)) (hC : CT F d t none 0) (hnk : ∀ a ∈ tPre t, K a = some (2, 0)) : gMR l yX5_nodeCount wsX5_nodeCount 1 Γ K F [.ref T] (some (.int (nI (tSz t)))) := by
  refine g_mR (cc := cX5_nodeCount) (maxL := 1) (ret := (some .int)) (by decide) rfl (Nat.le_of_ble_eq_true rfl) ?_
  intro p e s m args below meth c ls Z hx hb hts hown hml hN hP hret hl
  have hl : lv_has ls 1 [(0, .ref T)] := hl
  have hown : s.vm.findClass RX5 = some m.cls := hown
  have hi5 : ∀ w ∈ wsX50, w ∈ wsX5_nodeCount := by decide +kernel
  have hfX5_21 : Cond.fieldLink RX5 21 (TX5 2).1 (TX5 2).2.1 (TX5 2).2.2.1 ∈ wsX5_nodeCount := by decide +kernel
  refine lv_aload_n hx hb dX5_nodeCount_0 rfl (lv_at hl 0 rfl) ?_
  refine g_get (C := RX5) (T := TX5) (N := 4) hx hb hts hi5 hown hN hP hk rfl (by decide) 2 (by decide) hfX5_21 (v := va_rf (tRt t)) h2 dX5_nodeCount_1 ?_
  refine g_cS (v := (some (.int (nI (tSz t))))) (As := [va_rf (tRt t)]) (rest := []) hx hb hml hown hts hN hP (c_sizeOf l Γ K F (tRt t) (tSz t) tRt_none (fun a h => ⟨hnk a (tRt_mem h), CT_root hC h⟩)) gX5_nodeCount_X2_sizeOf rfl (na := 1) rfl (by decide +kernel) ⟨by decide, by decide⟩ ⟨Nat.zero_le _, Nat.zero_le _⟩ rfl hl.1 (Nat.le_of_ble_eq_true rfl) dX5_nodeCount_4 ?_
  show W _ _ _ _ _ _ _ _ _ _ _ _ _ _ _ (F0 m 7 ls [.int (nI (tSz t))])
  exact hret (some (.int (nI (tSz t)))) _ _ (rfl) (rt_i dX5_nodeCount_7)

set_option maxHeartbeats 4000000 in
set_option maxRecDepth 100000 in
theorem c_axisBehind (l : Launch) (Γ : gG) (K : gK) (F : gF) (T d ax : Nat) (hk : K T = some (5, 0)) (h0 : F T 0 = .int (nI d)) (hax : ax < d) (hd : d ≤ 4) : gMR l yX5_axisBehind wsX5_axisBehind 0 Γ K F [.ref T, .int (nI ax)] (some (.int (nI ((ax + 1) % d)))) := by
  refine g_mR (cc := cX5_axisBehind) (maxL := 2) (ret := (some .int)) (by decide) rfl (Nat.le_of_ble_eq_true rfl) ?_
  intro p e s m args below meth c ls Z hx hb hts hown hml hN hP hret hl
  have hl : lv_has ls 2 [(0, .ref T), (1, .int (nI ax))] := hl
  have hown : s.vm.findClass RX5 = some m.cls := hown
  have hi5 : ∀ w ∈ wsX50, w ∈ wsX5_axisBehind := by decide +kernel
  have hfX5_9 : Cond.fieldLink RX5 9 (TX5 0).1 (TX5 0).2.1 (TX5 0).2.2.1 ∈ wsX5_axisBehind := by decide +kernel
  refine lv_iload_n hx hb dX5_axisBehind_0 rfl (lv_at hl 1 rfl) ?_
  refine lv_iconst (v := nI 1) hx hb dX5_axisBehind_1 (by decide) ?_
  refine lv_iadd hx hb dX5_axisBehind_2 ?_
  refine g_asi (show _ = nI (ax + 1) from (nI_add _ _).trans (by rfl)) ?_
  refine lv_aload_n hx hb dX5_axisBehind_3 rfl (lv_at hl 0 rfl) ?_
  refine g_get (C := RX5) (T := TX5) (N := 4) hx hb hts hi5 hown hN hP hk rfl (by decide) 0 (by decide) hfX5_9 (v := .int (nI d)) h0 dX5_axisBehind_4 ?_
  refine lv_icmp_ge (tgt := 16) hx hb dX5_axisBehind_7 (by decide) (fun c1 => ?_) (fun c1 => ?_)
  · have c1 : d ≤ (ax + 1) := (nI_leI (by omega) (by omega)).mp c1
    refine lv_iconst (v := nI 0) hx hb dX5_axisBehind_16 (by decide) ?_
    exact hret (some (.int (nI 0))) _ _ (by rw [show (ax + 1) % d = 0 by rw [show ax + 1 = d by omega]; exact Nat.mod_self d]) (rt_i dX5_axisBehind_17)
  · have c1 : (ax + 1) < d := Nat.not_le.mp (fun z => c1 ((nI_leI (by omega) (by omega)).mpr z))
    refine lv_iload_n hx hb dX5_axisBehind_10 rfl (lv_at hl 1 rfl) ?_
    refine lv_iconst (v := nI 1) hx hb dX5_axisBehind_11 (by decide) ?_
    refine lv_iadd hx hb dX5_axisBehind_12 ?_
    refine g_asi (show _ = nI (ax + 1) from (nI_add _ _).trans (by rfl)) ?_
    refine lv_goto (tgt := 17) hx hb dX5_axisBehind_13 (by decide) ?_
    exact hret (some (.int (nI (ax + 1)))) _ _ (by rw [Nat.mod_eq_of_lt c1]) (rt_i dX5_axisBehind_17)

set_option maxHeartbeats 4000000 in
set_option maxRecDepth 100000 in
theorem c_isAheadT (l : Launch) (Γ : gG) (K : gK) (F : gF) (a b pa pb : Nat) (x y : gPt) (ax : Nat) (ha : ndD K F a pa x) (hb2 : ndD K F b pb y) (hax : ax < 4) : gMR l yX5_isAhead wsX5_isAhead 2 Γ K F [.ref a, .ref b, .int (nI ax)] (some (.int (bI (pLess ax x y)))) := by
  refine g_mR (cc := cX5_isAhead) (maxL := 3) (ret := (some .boolean)) (by decide) rfl (Nat.le_of_ble_eq_true rfl) ?_
  intro p e s m args below meth c ls Z hx hb hts hown hml hN hP hret hl
  have hl : lv_has ls 3 [(0, .ref a), (1, .ref b), (2, .int (nI ax))] := hl
  have hown : s.vm.findClass RX5 = some m.cls := hown
  refine lv_aload_n hx hb dX5_isAhead_0 rfl (lv_at hl 0 rfl) ?_
  refine lv_ifnull hx hb dX5_isAhead_1 ?_
  refine lv_aload_n hx hb dX5_isAhead_4 rfl (lv_at hl 1 rfl) ?_
  refine lv_ifnull hx hb dX5_isAhead_5 ?_
  refine lv_aload_n hx hb dX5_isAhead_8 rfl (lv_at hl 0 rfl) ?_
  refine lv_aload_n hx hb dX5_isAhead_9 rfl (lv_at hl 1 rfl) ?_
  refine lv_iload_n hx hb dX5_isAhead_10 rfl (lv_at hl 2 rfl) ?_
  refine g_cV (v := (some (.int (bI (pLess ax x y))))) (As := [.ref b, .int (nI ax)]) (b := a) (rest := []) hx hb hml hown hts hN hP (c_isLess l Γ K F a b pa pb x y ax ha hb2 hax) gX5_isAhead_X2_isLess rfl ha.1 (by decide) rfl (na := 2) rfl (by decide +kernel) ⟨by decide, by decide⟩ ⟨Nat.zero_le _, Nat.zero_le _⟩ rfl hl.1 (Nat.le_of_ble_eq_true rfl) dX5_isAhead_11 ?_
  show W _ _ _ _ _ _ _ _ _ _ _ _ _ _ _ (F0 m 14 ls [.int (bI (pLess ax x y))])
  refine lv_if_eq (tgt := 21) hx hb dX5_isAhead_14 (by decide) (fun c1 => ?_) (fun c1 => ?_)
  · have c1 : (pLess ax x y) = false := bI_0.mp c1
    refine lv_iconst (v := nI 0) hx hb dX5_isAhead_21 (by decide) ?_
    refine g_asi (show _ = bI false from bI_f') ?_
    exact hret (some (.int (bI false))) _ _ (by rw [c1]) (rt_z dX5_isAhead_22)
  · have c1 : (pLess ax x y) = true := bI_n0.mp c1
    refine lv_iconst (v := nI 1) hx hb dX5_isAhead_17 (by decide) ?_
    refine lv_goto (tgt := 22) hx hb dX5_isAhead_18 (by decide) ?_
    refine g_asi (show _ = bI true from bI_t') ?_
    exact hret (some (.int (bI true))) _ _ (by rw [c1]) (rt_z dX5_isAhead_22)

set_option maxHeartbeats 4000000 in
set_option maxRecDepth 100000 in
theorem c_nodeOnWalk (l : Launch) (Γ : gG) (K : gK) (F : gF) (r0 : Option Nat) (t : TT Nat) (d : Nat) (up : Option Nat) (dep k : Nat) (v : Option Nat) (hr0 : r0 = tRt t) (hC : CT F d t up dep) (hnk : ∀ a ∈ tPre t, K a = some (2, 0)) (hs : tSz t ≤ 1000) (hk31 : k < 2 ^ 31) (hv : (tPre t)[k]? = v) : gMR l yX5_nodeOnWalk wsX5_nodeOnWalk 1 Γ K F [va_rf r0, .int (nI k)] (some (va_rf v)) := by
  refine g_mR (cc := cX5_nodeOnWalk) (maxL := 5) (ret := (some (.object "NearTree$Node"))) (by decide) rfl (by cases r0 <;> exact Nat.le_of_ble_eq_true rfl) ?_
  intro p e s m args below meth c ls Z hx hb hts hown hml hN hP hret hl
  have hl : lv_has ls 5 [(0, va_rf r0), (1, .int (nI k))] := by cases r0 <;> exact hl
  have hown : s.vm.findClass RX5 = some m.cls := hown
  have hi2 : ∀ w ∈ wsX20, w ∈ wsX5_nodeOnWalk := by decide +kernel
  have hfX5_53 : Cond.fieldLink RX5 53 (TX2 7).1 (TX2 7).2.1 (TX2 7).2.2.1 ∈ wsX5_nodeOnWalk := by decide +kernel
  have hfX5_56 : Cond.fieldLink RX5 56 (TX2 8).1 (TX2 8).2.1 (TX2 8).2.2.1 ∈ wsX5_nodeOnWalk := by decide +kernel
  have loop : ∀ (t : TT Nat) (up : Option Nat) (dep k : Nat) (ls : Array Slot), CT F d t up dep → (∀ a ∈ tPre t, K a = some (2, 0)) → tSz t ≤ 1000 → k < 2 ^ 31 → (tPre t)[k]? = v → lv_has ls 5 [(2, va_rf (tRt t)), (3, .int (nI k))] → W p l e (gRm 1 0 0) s m args below meth c s.heap [] 0 0 Z (F0 m 4 ls []) := by
    intro t
    induction t with
    | leaf =>
      intro up dep k ls hC hnk hs hk31 hv hl
      have hl : lv_has ls 5 [(2, .null), (3, .int (nI k))] := hl
      refine lv_aload_nN hx hb dX5_nodeOnWalk_4 rfl (lv_at hl 0 rfl) ?_
      refine lv_ifnullN (tgt := 51) hx hb dX5_nodeOnWalk_5 (by decide) ?_
      refine lv_aload_nN hx hb dX5_nodeOnWalk_51 rfl (lv_at hl 0 rfl) ?_
      exact hret (some (va_rf none)) _ _ (by rw [← hv]; rfl) (rt_a dX5_nodeOnWalk_52)
    | inner s9 a v9 L R ihl ihr =>
      intro up dep k ls hC hnk hs hk31 hv hl
      have hl : lv_has ls 5 [(2, .ref a), (3, .int (nI k))] := hl
      obtain ⟨q1, q2, q3, q4, q5, q6, q7, q8⟩ := hC
      have hka := hnk a List.mem_cons_self
      have hs : tSz L + tSz R + 1 ≤ 1000 := hs
      refine lv_aload_n hx hb dX5_nodeOnWalk_4 rfl (lv_at hl 0 rfl) ?_
      refine lv_ifnull hx hb dX5_nodeOnWalk_5 ?_
      refine lv_iload_n hx hb dX5_nodeOnWalk_8 rfl (lv_at hl 1 rfl) ?_
      refine lv_if_le (tgt := 51) hx hb dX5_nodeOnWalk_9 (by decide) (fun c1 => ?_) (fun c1 => ?_)
      · have c1 : k = 0 := (nI_le0 (by omega)).mp c1
        subst c1
        refine lv_aload_n hx hb dX5_nodeOnWalk_51 rfl (lv_at hl 0 rfl) ?_
        exact hret (some (va_rf (some a))) _ _ (by rw [← hv]; rfl) (rt_a dX5_nodeOnWalk_52)
      · have c1 : 0 < k := Nat.pos_of_ne_zero (fun z => c1 ((nI_le0 (by omega)).mpr z))
        obtain ⟨j, rfl⟩ : ∃ j, k = j + 1 := ⟨k - 1, by omega⟩
        refine lv_iinc (v := nI j) (lv' := [(3, .int (nI j)), (2, .ref a)]) hx hb dX5_nodeOnWalk_12 hl (k := 1) rfl (dec1s _) (by decide) rfl (fun ls hl => ?_)
        refine lv_aload_n hx hb dX5_nodeOnWalk_15 rfl (lv_at hl 1 rfl) ?_
        refine g_get (C := RX2) (T := TX2) (N := 9) hx hb hts hi2 hown hN hP hka rfl (by decide) 7 (by decide) hfX5_53 (v := va_rf (tRt L)) q5 dX5_nodeOnWalk_16 ?_
        refine g_cS (v := (some (.int (nI (tSz L))))) (As := [va_rf (tRt L)]) (rest := []) hx hb hml hown hts hN hP (c_sizeOf l Γ K F (tRt L) (tSz L) tRt_none (fun a h => ⟨hnk a (List.mem_cons_of_mem _ (List.mem_append_left _ (tRt_mem h))), CT_root q7 h⟩)) gX5_nodeOnWalk_X2_sizeOf rfl (na := 1) rfl (by decide +kernel) ⟨by decide, by decide⟩ ⟨Nat.zero_le _, Nat.zero_le _⟩ rfl hl.1 (Nat.le_of_ble_eq_true rfl) dX5_nodeOnWalk_19 ?_
        show W _ _ _ _ _ _ _ _ _ _ _ _ _ _ _ (F0 m 22 ls [.int (nI (tSz L))])
        refine lv_istore (lv' := [(4, .int (nI (tSz L))), (3, .int (nI j)), (2, .ref a)]) hx hb dX5_nodeOnWalk_22 hl (by decide) rfl (fun ls hl => ?_)
        refine lv_iload_n hx hb dX5_nodeOnWalk_24 rfl (lv_at hl 1 rfl) ?_
        refine lv_iload hx hb dX5_nodeOnWalk_25 (lv_at hl 0 rfl) ?_
        refine lv_icmp_ge (tgt := 38) hx hb dX5_nodeOnWalk_27 (by decide) (fun c2 => ?_) (fun c2 => ?_)
        · have c2 : (tSz L) ≤ j := (nI_leI (by omega) (by omega)).mp c2
          refine lv_iload_n hx hb dX5_nodeOnWalk_38 rfl (lv_at hl 1 rfl) ?_
          refine lv_iload hx hb dX5_nodeOnWalk_39 (lv_at hl 0 rfl) ?_
          refine lv_isub hx hb dX5_nodeOnWalk_41 ?_
          refine g_asi (show _ = nI (j - (tSz L)) from pk_sub (by omega)) ?_
          refine lv_istore_n (lv' := [(3, .int (nI (j - (tSz L)))), (4, .int (nI (tSz L))), (2, .ref a)]) hx hb dX5_nodeOnWalk_42 rfl hl (by decide) rfl (fun ls hl => ?_)
          refine lv_aload_n hx hb dX5_nodeOnWalk_43 rfl (lv_at hl 2 rfl) ?_
          refine g_get (C := RX2) (T := TX2) (N := 9) hx hb hts hi2 hown hN hP hka rfl (by decide) 8 (by decide) hfX5_56 (v := va_rf (tRt R)) q6 dX5_nodeOnWalk_44 ?_
          refine g_astore_n (r := tRt R) (lv' := [(2, va_rf (tRt R)), (3, .int (nI (j - (tSz L)))), (4, .int (nI (tSz L)))]) hx hb dX5_nodeOnWalk_47 rfl hl (by decide) rfl (fun ls hl => ?_)
          refine lv_goto (tgt := 4) hx hb dX5_nodeOnWalk_48 (by decide) ?_
          exact ihr (some a) (dep + 1) (j - tSz L) ls q8 (fun b hb => hnk b (List.mem_cons_of_mem _ (List.mem_append_right _ hb))) (by omega) (by omega) (by rw [← hv]; show _ = (tPre L ++ tPre R)[j]?; rw [List.getElem?_append_right (by rw [tPre_len]; omega), tPre_len]) (lv_sub hl [0, 1] rfl)
        · have c2 : j < (tSz L) := Nat.not_le.mp (fun z => c2 ((nI_leI (by omega) (by omega)).mpr z))
          refine lv_aload_n hx hb dX5_nodeOnWalk_30 rfl (lv_at hl 2 rfl) ?_
          refine g_get (C := RX2) (T := TX2) (N := 9) hx hb hts hi2 hown hN hP hka rfl (by decide) 7 (by decide) hfX5_53 (v := va_rf (tRt L)) q5 dX5_nodeOnWalk_31 ?_
          refine g_astore_n (r := tRt L) (lv' := [(2, va_rf (tRt L)), (4, .int (nI (tSz L))), (3, .int (nI j))]) hx hb dX5_nodeOnWalk_34 rfl hl (by decide) rfl (fun ls hl => ?_)
          refine lv_goto (tgt := 48) hx hb dX5_nodeOnWalk_35 (by decide) ?_
          refine lv_goto (tgt := 4) hx hb dX5_nodeOnWalk_48 (by decide) ?_
          exact ihl (some a) (dep + 1) j ls q7 (fun b hb => hnk b (List.mem_cons_of_mem _ (List.mem_append_left _ hb))) (by omega) (by omega) (by rw [← hv]; show _ = (tPre L ++ tPre R)[j]?; rw [List.getElem?_append_left (by rw [tPre_len]; omega)]) (lv_sub hl [0, 2] rfl)
  refine g_aload_n (r := r0) hx hb dX5_nodeOnWalk_0 rfl (lv_at hl 0 rfl) ?_
  refine g_astore_n (r := r0) (lv' := [(2, va_rf r0), (0, va_rf r0), (1, .int (nI k))]) hx hb dX5_nodeOnWalk_1 rfl hl (by decide) rfl (fun ls hl => ?_)
  refine lv_iload_n hx hb dX5_nodeOnWalk_2 rfl (lv_at hl 2 rfl) ?_
  refine lv_istore_n (lv' := [(3, .int (nI k)), (2, va_rf r0), (0, va_rf r0), (1, .int (nI k))]) hx hb dX5_nodeOnWalk_3 rfl hl (by decide) (by generalize r0 = r9; cases r9 <;> rfl) (fun ls hl => ?_)
  rw [hr0] at hl
  exact loop t up dep k ls hC hnk hs hk31 hv (lv_sub hl [1, 0] rfl)
