set_option maxHeartbeats 4000000 in
set_option maxRecDepth 100000 in
theorem c_square (l : Launch) (Γ : gG) (K : gK) (F : gF) (x : Int64) : gMR l yX3_square wsX3_square 0 Γ K F [.long x] (some (.long (x * x))) := by
  refine g_mR (cc := cX3_square) (maxL := 2) (ret := (some .long)) (by decide) rfl (Nat.le_of_ble_eq_true rfl) ?_
  intro p e s m args below meth c ls Z hx hb hts hown hml hN hP hret hl
  have hl : lv_has ls 2 [(0, .long x)] := hl
  have hown : s.vm.findClass RX3 = some m.cls := hown
  refine lv_lload_n hx hb dX3_square_0 rfl (lv_at hl 0 rfl) ?_
  refine lv_lload_n hx hb dX3_square_1 rfl (lv_at hl 0 rfl) ?_
  refine lv_lmul hx hb dX3_square_2 ?_
  exact hret (some (.long (x * x))) _ _ (rfl) (rt_l dX3_square_3)

set_option maxHeartbeats 4000000 in
set_option maxRecDepth 100000 in
theorem c_number (l : Launch) (Γ : gG) (K : gK) (F : gF) (h : Nat) (q : Nat → Int32) (ax : Nat) (hk : K h = some (3, 0)) (hq : ∀ i, i < 4 → F h i = .int (q i)) (hax : ax < 4) : gMR l yX3_number wsX3_number 0 Γ K F [.ref h, .int (nI ax)] (some (.int (q ax))) := by
  refine g_mR (cc := cX3_number) (maxL := 2) (ret := (some .int)) (by decide) rfl (Nat.le_of_ble_eq_true rfl) ?_
  intro p e s m args below meth c ls Z hx hb hts hown hml hN hP hret hl
  have hl : lv_has ls 2 [(0, .ref h), (1, .int (nI ax))] := hl
  have hown : s.vm.findClass RX3 = some m.cls := hown
  have hi3 : ∀ w ∈ wsX30, w ∈ wsX3_number := by decide +kernel
  have hfX3_7 : Cond.fieldLink RX3 7 (TX3 0).1 (TX3 0).2.1 (TX3 0).2.2.1 ∈ wsX3_number := by decide +kernel
  have hfX3_13 : Cond.fieldLink RX3 13 (TX3 1).1 (TX3 1).2.1 (TX3 1).2.2.1 ∈ wsX3_number := by decide +kernel
  have hfX3_16 : Cond.fieldLink RX3 16 (TX3 2).1 (TX3 2).2.1 (TX3 2).2.2.1 ∈ wsX3_number := by decide +kernel
  have hfX3_19 : Cond.fieldLink RX3 19 (TX3 3).1 (TX3 3).2.1 (TX3 3).2.2.1 ∈ wsX3_number := by decide +kernel
  rcases (show ax = 0 ∨ ax = 1 ∨ ax = 2 ∨ ax = 3 by omega) with rfl | rfl | rfl | rfl
  · refine lv_iload_n hx hb dX3_number_0 rfl (lv_at hl 1 rfl) ?_
    refine lv_tableIn (tgt := 28) hx hb dX3_number_1 (by decide) (by decide) (off := 27) (by decide) (by decide) ?_
    refine lv_aload_n hx hb dX3_number_28 rfl (lv_at hl 0 rfl) ?_
    refine g_get (C := RX3) (T := TX3) (N := 4) hx hb hts hi3 hown hN hP hk rfl (by decide) 0 (by decide) hfX3_7 (v := .int (q 0)) (hq 0 (by decide)) dX3_number_29 ?_
    exact hret (some (.int (q 0))) _ _ (rfl) (rt_i dX3_number_32)
  · refine lv_iload_n hx hb dX3_number_0 rfl (lv_at hl 1 rfl) ?_
    refine lv_tableIn (tgt := 33) hx hb dX3_number_1 (by decide) (by decide) (off := 32) (by decide) (by decide) ?_
    refine lv_aload_n hx hb dX3_number_33 rfl (lv_at hl 0 rfl) ?_
    refine g_get (C := RX3) (T := TX3) (N := 4) hx hb hts hi3 hown hN hP hk rfl (by decide) 1 (by decide) hfX3_13 (v := .int (q 1)) (hq 1 (by decide)) dX3_number_34 ?_
    exact hret (some (.int (q 1))) _ _ (rfl) (rt_i dX3_number_37)
  · refine lv_iload_n hx hb dX3_number_0 rfl (lv_at hl 1 rfl) ?_
    refine lv_tableIn (tgt := 38) hx hb dX3_number_1 (by decide) (by decide) (off := 37) (by decide) (by decide) ?_
    refine lv_aload_n hx hb dX3_number_38 rfl (lv_at hl 0 rfl) ?_
    refine g_get (C := RX3) (T := TX3) (N := 4) hx hb hts hi3 hown hN hP hk rfl (by decide) 2 (by decide) hfX3_16 (v := .int (q 2)) (hq 2 (by decide)) dX3_number_39 ?_
    exact hret (some (.int (q 2))) _ _ (rfl) (rt_i dX3_number_42)
  · refine lv_iload_n hx hb dX3_number_0 rfl (lv_at hl 1 rfl) ?_
    refine lv_tableOut (tgt := 43) hx hb dX3_number_1 (by decide) (by decide) ?_
    refine lv_aload_n hx hb dX3_number_43 rfl (lv_at hl 0 rfl) ?_
    refine g_get (C := RX3) (T := TX3) (N := 4) hx hb hts hi3 hown hN hP hk rfl (by decide) 3 (by decide) hfX3_19 (v := .int (q 3)) (hq 3 (by decide)) dX3_number_44 ?_
    exact hret (some (.int (q 3))) _ _ (rfl) (rt_i dX3_number_47)

set_option maxHeartbeats 4000000 in
set_option maxRecDepth 100000 in
theorem c_distanceTo (l : Launch) (Γ : gG) (K : gK) (F : gF) (h g : Nat) (q q2 : Nat → Int32) (hk : K h = some (3, 0)) (hq : ∀ i, i < 4 → F h i = .int (q i)) (hk2 : K g = some (3, 0)) (hq2 : ∀ i, i < 4 → F g i = .int (q2 i)) : gMR l yX3_distanceTo wsX3_distanceTo 1 Γ K F [.ref h, .ref g] (some (.long (pDist q q2))) := by
  refine g_mR (cc := cX3_distanceTo) (maxL := 2) (ret := (some .long)) (by decide) rfl (Nat.le_of_ble_eq_true rfl) ?_
  intro p e s m args below meth c ls Z hx hb hts hown hml hN hP hret hl
  have hl : lv_has ls 2 [(0, .ref h), (1, .ref g)] := hl
  have hown : s.vm.findClass RX3 = some m.cls := hown
  have hi3 : ∀ w ∈ wsX30, w ∈ wsX3_distanceTo := by decide +kernel
  have hfX3_7 : Cond.fieldLink RX3 7 (TX3 0).1 (TX3 0).2.1 (TX3 0).2.2.1 ∈ wsX3_distanceTo := by decide +kernel
  have hfX3_13 : Cond.fieldLink RX3 13 (TX3 1).1 (TX3 1).2.1 (TX3 1).2.2.1 ∈ wsX3_distanceTo := by decide +kernel
  have hfX3_16 : Cond.fieldLink RX3 16 (TX3 2).1 (TX3 2).2.1 (TX3 2).2.2.1 ∈ wsX3_distanceTo := by decide +kernel
  have hfX3_19 : Cond.fieldLink RX3 19 (TX3 3).1 (TX3 3).2.1 (TX3 3).2.2.1 ∈ wsX3_distanceTo := by decide +kernel
  refine lv_aload_n hx hb dX3_distanceTo_0 rfl (lv_at hl 0 rfl) ?_
  refine g_get (C := RX3) (T := TX3) (N := 4) hx hb hts hi3 hown hN hP hk rfl (by decide) 0 (by decide) hfX3_7 (v := .int (q 0)) (hq 0 (by decide)) dX3_distanceTo_1 ?_
  refine lv_aload_n hx hb dX3_distanceTo_4 rfl (lv_at hl 1 rfl) ?_
  refine g_get (C := RX3) (T := TX3) (N := 4) hx hb hts hi3 hown hN hP hk2 rfl (by decide) 0 (by decide) hfX3_7 (v := .int (q2 0)) (hq2 0 (by decide)) dX3_distanceTo_5 ?_
  refine lv_isub hx hb dX3_distanceTo_8 ?_
  refine lv_i2l (v := ((q 0) - (q2 0)).toInt64) hx hb dX3_distanceTo_9 rfl ?_
  refine g_cS (v := (some (.long (sqI (q 0 - q2 0))))) (As := [.long (((q 0) - (q2 0)).toInt64)]) (rest := []) hx hb hml hown hts hN hP (c_square l Γ K F (q 0 - q2 0).toInt64) gX3_distanceTo_X3_square rfl (na := 1) rfl (by decide +kernel) ⟨by decide, by decide⟩ ⟨Nat.zero_le _, Nat.zero_le _⟩ rfl hl.1 (Nat.le_of_ble_eq_true rfl) dX3_distanceTo_10 ?_
  show W _ _ _ _ _ _ _ _ _ _ _ _ _ _ _ (F0 m 13 ls [.long (sqI (q 0 - q2 0))])
  refine lv_aload_n hx hb dX3_distanceTo_13 rfl (lv_at hl 0 rfl) ?_
  refine g_get (C := RX3) (T := TX3) (N := 4) hx hb hts hi3 hown hN hP hk rfl (by decide) 1 (by decide) hfX3_13 (v := .int (q 1)) (hq 1 (by decide)) dX3_distanceTo_14 ?_
  refine lv_aload_n hx hb dX3_distanceTo_17 rfl (lv_at hl 1 rfl) ?_
  refine g_get (C := RX3) (T := TX3) (N := 4) hx hb hts hi3 hown hN hP hk2 rfl (by decide) 1 (by decide) hfX3_13 (v := .int (q2 1)) (hq2 1 (by decide)) dX3_distanceTo_18 ?_
  refine lv_isub hx hb dX3_distanceTo_21 ?_
  refine lv_i2l (v := ((q 1) - (q2 1)).toInt64) hx hb dX3_distanceTo_22 rfl ?_
  refine g_cS (v := (some (.long (sqI (q 1 - q2 1))))) (As := [.long (((q 1) - (q2 1)).toInt64)]) (rest := [.long (sqI (q 0 - q2 0))]) hx hb hml hown hts hN hP (c_square l Γ K F (q 1 - q2 1).toInt64) gX3_distanceTo_X3_square rfl (na := 1) rfl (by decide +kernel) ⟨by decide, by decide⟩ ⟨Nat.zero_le _, Nat.zero_le _⟩ rfl hl.1 (Nat.le_of_ble_eq_true rfl) dX3_distanceTo_23 ?_
  show W _ _ _ _ _ _ _ _ _ _ _ _ _ _ _ (F0 m 26 ls [.long (sqI (q 1 - q2 1)), .long (sqI (q 0 - q2 0))])
  refine lv_ladd hx hb dX3_distanceTo_26 ?_
  refine lv_aload_n hx hb dX3_distanceTo_27 rfl (lv_at hl 0 rfl) ?_
  refine g_get (C := RX3) (T := TX3) (N := 4) hx hb hts hi3 hown hN hP hk rfl (by decide) 2 (by decide) hfX3_16 (v := .int (q 2)) (hq 2 (by decide)) dX3_distanceTo_28 ?_
  refine lv_aload_n hx hb dX3_distanceTo_31 rfl (lv_at hl 1 rfl) ?_
  refine g_get (C := RX3) (T := TX3) (N := 4) hx hb hts hi3 hown hN hP hk2 rfl (by decide) 2 (by decide) hfX3_16 (v := .int (q2 2)) (hq2 2 (by decide)) dX3_distanceTo_32 ?_
  refine lv_isub hx hb dX3_distanceTo_35 ?_
  refine lv_i2l (v := ((q 2) - (q2 2)).toInt64) hx hb dX3_distanceTo_36 rfl ?_
  refine g_cS (v := (some (.long (sqI (q 2 - q2 2))))) (As := [.long (((q 2) - (q2 2)).toInt64)]) (rest := [.long ((sqI (q 0 - q2 0)) + (sqI (q 1 - q2 1)))]) hx hb hml hown hts hN hP (c_square l Γ K F (q 2 - q2 2).toInt64) gX3_distanceTo_X3_square rfl (na := 1) rfl (by decide +kernel) ⟨by decide, by decide⟩ ⟨Nat.zero_le _, Nat.zero_le _⟩ rfl hl.1 (Nat.le_of_ble_eq_true rfl) dX3_distanceTo_37 ?_
  show W _ _ _ _ _ _ _ _ _ _ _ _ _ _ _ (F0 m 40 ls [.long (sqI (q 2 - q2 2)), .long ((sqI (q 0 - q2 0)) + (sqI (q 1 - q2 1)))])
  refine lv_ladd hx hb dX3_distanceTo_40 ?_
  refine lv_aload_n hx hb dX3_distanceTo_41 rfl (lv_at hl 0 rfl) ?_
  refine g_get (C := RX3) (T := TX3) (N := 4) hx hb hts hi3 hown hN hP hk rfl (by decide) 3 (by decide) hfX3_19 (v := .int (q 3)) (hq 3 (by decide)) dX3_distanceTo_42 ?_
  refine lv_aload_n hx hb dX3_distanceTo_45 rfl (lv_at hl 1 rfl) ?_
  refine g_get (C := RX3) (T := TX3) (N := 4) hx hb hts hi3 hown hN hP hk2 rfl (by decide) 3 (by decide) hfX3_19 (v := .int (q2 3)) (hq2 3 (by decide)) dX3_distanceTo_46 ?_
  refine lv_isub hx hb dX3_distanceTo_49 ?_
  refine lv_i2l (v := ((q 3) - (q2 3)).toInt64) hx hb dX3_distanceTo_50 rfl ?_
  refine g_cS (v := (some (.long (sqI (q 3 - q2 3))))) (As := [.long (((q 3) - (q2 3)).toInt64)]) (rest := [.long (((sqI (q 0 - q2 0)) + (sqI (q 1 - q2 1))) + (sqI (q 2 - q2 2)))]) hx hb hml hown hts hN hP (c_square l Γ K F (q 3 - q2 3).toInt64) gX3_distanceTo_X3_square rfl (na := 1) rfl (by decide +kernel) ⟨by decide, by decide⟩ ⟨Nat.zero_le _, Nat.zero_le _⟩ rfl hl.1 (Nat.le_of_ble_eq_true rfl) dX3_distanceTo_51 ?_
  show W _ _ _ _ _ _ _ _ _ _ _ _ _ _ _ (F0 m 54 ls [.long (sqI (q 3 - q2 3)), .long (((sqI (q 0 - q2 0)) + (sqI (q 1 - q2 1))) + (sqI (q 2 - q2 2)))])
  refine lv_ladd hx hb dX3_distanceTo_54 ?_
  exact hret (some (.long ((((sqI (q 0 - q2 0)) + (sqI (q 1 - q2 1))) + (sqI (q 2 - q2 2))) + (sqI (q 3 - q2 3))))) _ _ (rfl) (rt_l dX3_distanceTo_55)

set_option maxHeartbeats 4000000 in
set_option maxRecDepth 100000 in
theorem c_isBetween (l : Launch) (Γ : gG) (K : gK) (F : gF) (h : Nat) (q : Nat → Int32) (ax : Nat) (lo hi : Int32) (hk : K h = some (3, 0)) (hq : ∀ i, i < 4 → F h i = .int (q i)) (hax : ax < 4) : gMR l yX3_isBetween wsX3_isBetween 1 Γ K F [.ref h, .int (nI ax), .int lo, .int hi] (some (.int (bI (decide (lo ≤ q ax ∧ q ax ≤ hi))))) := by
  refine g_mR (cc := cX3_isBetween) (maxL := 5) (ret := (some .boolean)) (by decide) rfl (Nat.le_of_ble_eq_true rfl) ?_
  intro p e s m args below meth c ls Z hx hb hts hown hml hN hP hret hl
  have hl : lv_has ls 5 [(0, .ref h), (1, .int (nI ax)), (2, .int lo), (3, .int hi)] := hl
  have hown : s.vm.findClass RX3 = some m.cls := hown
  refine lv_aload_n hx hb dX3_isBetween_0 rfl (lv_at hl 0 rfl) ?_
  refine lv_iload_n hx hb dX3_isBetween_1 rfl (lv_at hl 1 rfl) ?_
  refine g_cV (v := (some (.int (q ax)))) (As := [.int (nI ax)]) (b := h) (rest := []) hx hb hml hown hts hN hP (c_number l Γ K F h q ax hk hq hax) gX3_isBetween_X3_number rfl hk (by decide) rfl (na := 1) rfl (by decide +kernel) ⟨by decide, by decide⟩ ⟨Nat.zero_le _, Nat.zero_le _⟩ rfl hl.1 (Nat.le_of_ble_eq_true rfl) dX3_isBetween_2 ?_
  show W _ _ _ _ _ _ _ _ _ _ _ _ _ _ _ (F0 m 5 ls [.int (q ax)])
  refine lv_istore (lv' := [(4, .int (q ax)), (0, .ref h), (1, .int (nI ax)), (2, .int lo), (3, .int hi)]) hx hb dX3_isBetween_5 hl (by decide) rfl (fun ls hl => ?_)
  refine lv_iload hx hb dX3_isBetween_7 (lv_at hl 0 rfl) ?_
  refine lv_iload_n hx hb dX3_isBetween_9 rfl (lv_at hl 3 rfl) ?_
  refine lv_icmp_lt (tgt := 23) hx hb dX3_isBetween_10 (by decide) (fun c1 => ?_) (fun c1 => ?_)
  · refine lv_iconst (v := nI 0) hx hb dX3_isBetween_23 (by decide) ?_
    refine g_asi (show _ = bI false from bI_f') ?_
    exact hret (some (.int (bI false))) _ _ (by simp [Int32.not_le.mpr c1]) (rt_z dX3_isBetween_24)
  · refine lv_iload hx hb dX3_isBetween_13 (lv_at hl 0 rfl) ?_
    refine lv_iload_n hx hb dX3_isBetween_15 rfl (lv_at hl 4 rfl) ?_
    refine lv_icmp_gt (tgt := 23) hx hb dX3_isBetween_16 (by decide) (fun c2 => ?_) (fun c2 => ?_)
    · refine lv_iconst (v := nI 0) hx hb dX3_isBetween_23 (by decide) ?_
      refine g_asi (show _ = bI false from bI_f') ?_
      exact hret (some (.int (bI false))) _ _ (by simp [Int32.not_le.mpr c2]) (rt_z dX3_isBetween_24)
    · refine lv_iconst (v := nI 1) hx hb dX3_isBetween_19 (by decide) ?_
      refine lv_goto (tgt := 24) hx hb dX3_isBetween_20 (by decide) ?_
      refine g_asi (show _ = bI true from bI_t') ?_
      exact hret (some (.int (bI true))) _ _ (by simp [Int32.not_lt.mp c1, Int32.not_lt.mp c2]) (rt_z dX3_isBetween_24)

set_option maxHeartbeats 4000000 in
set_option maxRecDepth 100000 in
theorem c_isLess (l : Launch) (Γ : gG) (K : gK) (F : gF) (a b pa pb : Nat) (x y : gPt) (ax : Nat) (ha : ndD K F a pa x) (hb2 : ndD K F b pb y) (hax : ax < 4) : gMR l yX2_isLess wsX2_isLess 1 Γ K F [.ref a, .ref b, .int (nI ax)] (some (.int (bI (pLess ax x y)))) := by
  refine g_mR (cc := cX2_isLess) (maxL := 5) (ret := (some .boolean)) (by decide) rfl (Nat.le_of_ble_eq_true rfl) ?_
  intro p e s m args below meth c ls Z hx hb hts hown hml hN hP hret hl
  have hl : lv_has ls 5 [(0, .ref a), (1, .ref b), (2, .int (nI ax))] := hl
  have hown : s.vm.findClass RX2 = some m.cls := hown
  have hi2 : ∀ w ∈ wsX20, w ∈ wsX2_isLess := by decide +kernel
  have hfX2_7 : Cond.fieldLink RX2 7 (TX2 0).1 (TX2 0).2.1 (TX2 0).2.2.1 ∈ wsX2_isLess := by decide +kernel
  have hfX2_13 : Cond.fieldLink RX2 13 (TX2 1).1 (TX2 1).2.1 (TX2 1).2.2.1 ∈ wsX2_isLess := by decide +kernel
  refine lv_aload_n hx hb dX2_isLess_0 rfl (lv_at hl 0 rfl) ?_
  refine g_get (C := RX2) (T := TX2) (N := 9) hx hb hts hi2 hown hN hP ha.1 rfl (by decide) 1 (by decide) hfX2_13 (v := .ref pa) ha.2.2.2.1 dX2_isLess_1 ?_
  refine lv_iload_n hx hb dX2_isLess_4 rfl (lv_at hl 2 rfl) ?_
  refine g_cV (v := (some (.int (x.2 ax)))) (As := [.int (nI ax)]) (b := pa) (rest := []) hx hb hml hown hts hN hP (c_number l Γ K F pa x.2 ax ha.2.1 ha.2.2.2.2.1 hax) gX2_isLess_X3_number rfl ha.2.1 (by decide) rfl (na := 1) rfl (by decide +kernel) ⟨by decide, by decide⟩ ⟨Nat.zero_le _, Nat.zero_le _⟩ rfl hl.1 (Nat.le_of_ble_eq_true rfl) dX2_isLess_5 ?_
  show W _ _ _ _ _ _ _ _ _ _ _ _ _ _ _ (F0 m 8 ls [.int (x.2 ax)])
  refine lv_istore_n (lv' := [(3, .int (x.2 ax)), (0, .ref a), (1, .ref b), (2, .int (nI ax))]) hx hb dX2_isLess_8 rfl hl (by decide) rfl (fun ls hl => ?_)
  refine lv_aload_n hx hb dX2_isLess_9 rfl (lv_at hl 2 rfl) ?_
  refine g_get (C := RX2) (T := TX2) (N := 9) hx hb hts hi2 hown hN hP hb2.1 rfl (by decide) 1 (by decide) hfX2_13 (v := .ref pb) hb2.2.2.2.1 dX2_isLess_10 ?_
  refine lv_iload_n hx hb dX2_isLess_13 rfl (lv_at hl 3 rfl) ?_
  refine g_cV (v := (some (.int (y.2 ax)))) (As := [.int (nI ax)]) (b := pb) (rest := []) hx hb hml hown hts hN hP (c_number l Γ K F pb y.2 ax hb2.2.1 hb2.2.2.2.2.1 hax) gX2_isLess_X3_number rfl hb2.2.1 (by decide) rfl (na := 1) rfl (by decide +kernel) ⟨by decide, by decide⟩ ⟨Nat.zero_le _, Nat.zero_le _⟩ rfl hl.1 (Nat.le_of_ble_eq_true rfl) dX2_isLess_14 ?_
  show W _ _ _ _ _ _ _ _ _ _ _ _ _ _ _ (F0 m 17 ls [.int (y.2 ax)])
  refine lv_istore (lv' := [(4, .int (y.2 ax)), (3, .int (x.2 ax)), (0, .ref a), (1, .ref b), (2, .int (nI ax))]) hx hb dX2_isLess_17 hl (by decide) rfl (fun ls hl => ?_)
  refine lv_iload_n hx hb dX2_isLess_19 rfl (lv_at hl 1 rfl) ?_
  refine lv_iload hx hb dX2_isLess_20 (lv_at hl 0 rfl) ?_
  refine lv_icmp_lt (tgt := 42) hx hb dX2_isLess_22 (by decide) (fun c1 => ?_) (fun c1 => ?_)
  · refine lv_iconst (v := nI 1) hx hb dX2_isLess_42 (by decide) ?_
    refine lv_goto (tgt := 47) hx hb dX2_isLess_43 (by decide) ?_
    refine g_asi (show _ = bI true from bI_t') ?_
    exact hret (some (.int (bI true))) _ _ (by simp [pLess, c1]) (rt_z dX2_isLess_47)
  · refine lv_iload_n hx hb dX2_isLess_25 rfl (lv_at hl 1 rfl) ?_
    refine lv_iload hx hb dX2_isLess_26 (lv_at hl 0 rfl) ?_
    refine lv_icmp_ne (tgt := 46) hx hb dX2_isLess_28 (by decide) (fun c2 => ?_) (fun c2 => ?_)
    · refine lv_iconst (v := nI 0) hx hb dX2_isLess_46 (by decide) ?_
      refine g_asi (show _ = bI false from bI_f') ?_
      exact hret (some (.int (bI false))) _ _ (by simp [pLess, c1, c2]) (rt_z dX2_isLess_47)
    · have g1 := ha.2.2.2.2.2
      have g2 := hb2.2.2.2.2.2
      refine lv_aload_n hx hb dX2_isLess_31 rfl (lv_at hl 2 rfl) ?_
      refine g_get (C := RX2) (T := TX2) (N := 9) hx hb hts hi2 hown hN hP ha.1 rfl (by decide) 0 (by decide) hfX2_7 (v := .int (nI x.1)) ha.2.2.1 dX2_isLess_32 ?_
      refine lv_aload_n hx hb dX2_isLess_35 rfl (lv_at hl 3 rfl) ?_
      refine g_get (C := RX2) (T := TX2) (N := 9) hx hb hts hi2 hown hN hP hb2.1 rfl (by decide) 0 (by decide) hfX2_7 (v := .int (nI y.1)) hb2.2.2.1 dX2_isLess_36 ?_
      refine lv_icmp_ge (tgt := 46) hx hb dX2_isLess_39 (by decide) (fun c3 => ?_) (fun c3 => ?_)
      · have c3 : y.1 ≤ x.1 := (nI_leI (by omega) (by omega)).mp c3
        refine lv_iconst (v := nI 0) hx hb dX2_isLess_46 (by decide) ?_
        refine g_asi (show _ = bI false from bI_f') ?_
        exact hret (some (.int (bI false))) _ _ (by simp [pLess, c1, c2, Nat.not_lt.mpr c3]) (rt_z dX2_isLess_47)
      · have c3 : x.1 < y.1 := Nat.not_le.mp (fun z => c3 ((nI_leI (by omega) (by omega)).mpr z))
        refine lv_iconst (v := nI 1) hx hb dX2_isLess_42 (by decide) ?_
        refine lv_goto (tgt := 47) hx hb dX2_isLess_43 (by decide) ?_
        refine g_asi (show _ = bI true from bI_t') ?_
        exact hret (some (.int (bI true))) _ _ (by simp [pLess, c2, c3]) (rt_z dX2_isLess_47)

set_option maxHeartbeats 4000000 in
set_option maxRecDepth 100000 in
theorem c_sideOf (l : Launch) (Γ : gG) (K : gK) (F : gF) (a b pa pb : Nat) (x y : gPt) (ax : Nat) (lf rg : Option Nat) (ha : ndD K F a pa x) (hb2 : ndD K F b pb y) (hax : ax < 4) (hx4 : F a 4 = .int (nI ax)) (hlf : F a 7 = va_rf lf) (hrg : F a 8 = va_rf rg) : gMR l yX2_sideOf wsX2_sideOf 2 Γ K F [.ref a, .ref b] (some (va_rf (if pLess ax y x then lf else rg))) := by
  refine g_mR (cc := cX2_sideOf) (maxL := 2) (ret := (some (.object "NearTree$Node"))) (by decide) rfl (Nat.le_of_ble_eq_true rfl) ?_
  intro p e s m args below meth c ls Z hx hb hts hown hml hN hP hret hl
  have hl : lv_has ls 2 [(0, .ref a), (1, .ref b)] := hl
  have hown : s.vm.findClass RX2 = some m.cls := hown
  have hi2 : ∀ w ∈ wsX20, w ∈ wsX2_sideOf := by decide +kernel
  have hfX2_26 : Cond.fieldLink RX2 26 (TX2 4).1 (TX2 4).2.1 (TX2 4).2.2.1 ∈ wsX2_sideOf := by decide +kernel
  have hfX2_33 : Cond.fieldLink RX2 33 (TX2 7).1 (TX2 7).2.1 (TX2 7).2.2.1 ∈ wsX2_sideOf := by decide +kernel
  have hfX2_37 : Cond.fieldLink RX2 37 (TX2 8).1 (TX2 8).2.1 (TX2 8).2.2.1 ∈ wsX2_sideOf := by decide +kernel
  refine lv_aload_n hx hb dX2_sideOf_0 rfl (lv_at hl 1 rfl) ?_
  refine lv_aload_n hx hb dX2_sideOf_1 rfl (lv_at hl 0 rfl) ?_
  refine lv_aload_n hx hb dX2_sideOf_2 rfl (lv_at hl 0 rfl) ?_
  refine g_get (C := RX2) (T := TX2) (N := 9) hx hb hts hi2 hown hN hP ha.1 rfl (by decide) 4 (by decide) hfX2_26 (v := .int (nI ax)) hx4 dX2_sideOf_3 ?_
  refine g_cV (v := (some (.int (bI (pLess ax y x))))) (As := [.ref a, .int (nI ax)]) (b := b) (rest := []) hx hb hml hown hts hN hP (c_isLess l Γ K F b a pb pa y x ax hb2 ha hax) gX2_sideOf_X2_isLess rfl hb2.1 (by decide) rfl (na := 2) rfl (by decide +kernel) ⟨by decide, by decide⟩ ⟨Nat.zero_le _, Nat.zero_le _⟩ rfl hl.1 (Nat.le_of_ble_eq_true rfl) dX2_sideOf_6 ?_
  show W _ _ _ _ _ _ _ _ _ _ _ _ _ _ _ (F0 m 9 ls [.int (bI (pLess ax y x))])
  refine lv_if_eq (tgt := 19) hx hb dX2_sideOf_9 (by decide) (fun c1 => ?_) (fun c1 => ?_)
  · have c1 : (pLess ax y x) = false := bI_0.mp c1
    refine lv_aload_n hx hb dX2_sideOf_19 rfl (lv_at hl 0 rfl) ?_
    refine g_get (C := RX2) (T := TX2) (N := 9) hx hb hts hi2 hown hN hP ha.1 rfl (by decide) 8 (by decide) hfX2_37 (v := va_rf rg) hrg dX2_sideOf_20 ?_
    exact hret (some (va_rf rg)) _ _ (by rw [c1]; rfl) (rt_a dX2_sideOf_23)
  · have c1 : (pLess ax y x) = true := bI_n0.mp c1
    refine lv_aload_n hx hb dX2_sideOf_12 rfl (lv_at hl 0 rfl) ?_
    refine g_get (C := RX2) (T := TX2) (N := 9) hx hb hts hi2 hown hN hP ha.1 rfl (by decide) 7 (by decide) hfX2_33 (v := va_rf lf) hlf dX2_sideOf_13 ?_
    refine lv_goto (tgt := 23) hx hb dX2_sideOf_16 (by decide) ?_
    exact hret (some (va_rf lf)) _ _ (by rw [c1]; rfl) (rt_a dX2_sideOf_23)

set_option maxHeartbeats 4000000 in
set_option maxRecDepth 100000 in
theorem c_sizeOf (l : Launch) (Γ : gG) (K : gK) (F : gF) (r : Option Nat) (n : Nat) (h0 : r = none → n = 0) (h1 : ∀ a, r = some a → K a = some (2, 0) ∧ F a 5 = .int (nI n)) : gMR l yX2_sizeOf wsX2_sizeOf 0 Γ K F [va_rf r] (some (.int (nI n))) := by
  refine g_mR (cc := cX2_sizeOf) (maxL := 1) (ret := (some .int)) (by decide) rfl (by cases r <;> exact Nat.le_of_ble_eq_true rfl) ?_
  intro p e s m args below meth c ls Z hx hb hts hown hml hN hP hret hl
  have hl : lv_has ls 1 [(0, va_rf r)] := by cases r <;> exact hl
  have hown : s.vm.findClass RX2 = some m.cls := hown
  have hi2 : ∀ w ∈ wsX20, w ∈ wsX2_sizeOf := by decide +kernel
  have hfX2_17 : Cond.fieldLink RX2 17 (TX2 5).1 (TX2 5).2.1 (TX2 5).2.2.1 ∈ wsX2_sizeOf := by decide +kernel
  refine g_aload_n (r := r) hx hb dX2_sizeOf_0 rfl (lv_at hl 0 rfl) ?_
  refine g_ifnonnull (r := r) (tgt := 8) hx hb dX2_sizeOf_1 (by decide) (fun xc1 c1 => ?_) (fun c1 => ?_)
  · subst c1
    have hl : lv_has ls 1 [(0, .ref xc1)] := hl
    refine lv_aload_n hx hb dX2_sizeOf_8 rfl (lv_at hl 0 rfl) ?_
    refine g_get (C := RX2) (T := TX2) (N := 9) hx hb hts hi2 hown hN hP (h1 xc1 rfl).1 rfl (by decide) 5 (by decide) hfX2_17 (v := .int (nI n)) (h1 xc1 rfl).2 dX2_sizeOf_9 ?_
    exact hret (some (.int (nI n))) _ _ (rfl) (rt_i dX2_sizeOf_12)
  · refine lv_iconst (v := nI 0) hx hb dX2_sizeOf_4 (by decide) ?_
    refine lv_goto (tgt := 12) hx hb dX2_sizeOf_5 (by decide) ?_
    exact hret (some (.int (nI 0))) _ _ (by rw [h0 c1]) (rt_i dX2_sizeOf_12)

set_option maxHeartbeats 4000000 in
set_option maxRecDepth 100000 in
theorem c_leans (l : Launch) (Γ : gG) (K : gK) (F : gF) (a : Nat) (lf rg : Option Nat) (n1 n2 n : Nat) (hk : K a = some (2, 0)) (hlf : F a 7 = va_rf lf) (hrg : F a 8 = va_rf rg) (hn5 : F a 5 = .int (nI n)) (h10 : lf = none → n1 = 0) (h11 : ∀ a, lf = some a → K a = some (2, 0) ∧ F a 5 = .int (nI n1)) (h20 : rg = none → n2 = 0) (h21 : ∀ a, rg = some a → K a = some (2, 0) ∧ F a 5 = .int (nI n2)) (hn1 : n1 < 2 ^ 20) (hn2 : n2 < 2 ^ 20) (hn : n < 2 ^ 20) : gMR l yX2_leans wsX2_leans 1 Γ K F [.ref a] (some (.int (bI (decide (n * 2 < max n1 n2 * 3))))) := by
  refine g_mR (cc := cX2_leans) (maxL := 1) (ret := (some .boolean)) (by decide) rfl (Nat.le_of_ble_eq_true rfl) ?_
  intro p e s m args below meth c ls Z hx hb hts hown hml hN hP hret hl
  have hl : lv_has ls 1 [(0, .ref a)] := hl
  have hown : s.vm.findClass RX2 = some m.cls := hown
  have hi2 : ∀ w ∈ wsX20, w ∈ wsX2_leans := by decide +kernel
  have hfX2_17 : Cond.fieldLink RX2 17 (TX2 5).1 (TX2 5).2.1 (TX2 5).2.2.1 ∈ wsX2_leans := by decide +kernel
  have hfX2_33 : Cond.fieldLink RX2 33 (TX2 7).1 (TX2 7).2.1 (TX2 7).2.2.1 ∈ wsX2_leans := by decide +kernel
  have hfX2_37 : Cond.fieldLink RX2 37 (TX2 8).1 (TX2 8).2.1 (TX2 8).2.2.1 ∈ wsX2_leans := by decide +kernel
  refine lv_aload_n hx hb dX2_leans_0 rfl (lv_at hl 0 rfl) ?_
  refine g_get (C := RX2) (T := TX2) (N := 9) hx hb hts hi2 hown hN hP hk rfl (by decide) 7 (by decide) hfX2_33 (v := va_rf lf) hlf dX2_leans_1 ?_
  refine g_cS (v := (some (.int (nI n1)))) (As := [va_rf lf]) (rest := []) hx hb hml hown hts hN hP (c_sizeOf l Γ K F lf n1 h10 h11) gX2_leans_X2_sizeOf rfl (na := 1) rfl (by decide +kernel) ⟨by decide, by decide⟩ ⟨Nat.zero_le _, Nat.zero_le _⟩ rfl hl.1 (Nat.le_of_ble_eq_true rfl) dX2_leans_4 ?_
  show W _ _ _ _ _ _ _ _ _ _ _ _ _ _ _ (F0 m 7 ls [.int (nI n1)])
  refine lv_aload_n hx hb dX2_leans_7 rfl (lv_at hl 0 rfl) ?_
  refine g_get (C := RX2) (T := TX2) (N := 9) hx hb hts hi2 hown hN hP hk rfl (by decide) 8 (by decide) hfX2_37 (v := va_rf rg) hrg dX2_leans_8 ?_
  refine g_cS (v := (some (.int (nI n2)))) (As := [va_rf rg]) (rest := [.int (nI n1)]) hx hb hml hown hts hN hP (c_sizeOf l Γ K F rg n2 h20 h21) gX2_leans_X2_sizeOf rfl (na := 1) rfl (by decide +kernel) ⟨by decide, by decide⟩ ⟨Nat.zero_le _, Nat.zero_le _⟩ rfl hl.1 (Nat.le_of_ble_eq_true rfl) dX2_leans_11 ?_
  show W _ _ _ _ _ _ _ _ _ _ _ _ _ _ _ (F0 m 14 ls [.int (nI n2), .int (nI n1)])
  refine va_mmax hx hb (hml.trans hl.1.symm) hown (hts _ (show Cond.methodLink RX2 44 Lib.Math.max.name ∈ _ by decide +kernel)) (hts _ (by decide +kernel)) (hts _ (by decide +kernel)) (hts _ (by decide +kernel)) (by decide) (Nat.le_of_ble_eq_true rfl) (Nat.zero_le _) (Nat.zero_le _) dX2_leans_14 ?_
  refine g_asi (show _ = nI (max n1 n2) from mx_max hn1 hn2) ?_
  refine lv_iconst (v := nI 3) hx hb dX2_leans_17 (by decide) ?_
  refine lv_imul hx hb dX2_leans_18 ?_
  refine g_asi (show _ = nI ((max n1 n2) * 3) from (pk_mul _ _).trans (by rfl)) ?_
  refine lv_aload_n hx hb dX2_leans_19 rfl (lv_at hl 0 rfl) ?_
  refine g_get (C := RX2) (T := TX2) (N := 9) hx hb hts hi2 hown hN hP hk rfl (by decide) 5 (by decide) hfX2_17 (v := .int (nI n)) hn5 dX2_leans_20 ?_
  refine lv_iconst (v := nI 2) hx hb dX2_leans_23 (by decide) ?_
  refine lv_imul hx hb dX2_leans_24 ?_
  refine g_asi (show _ = nI (n * 2) from (pk_mul _ _).trans (by rfl)) ?_
  refine lv_icmp_le (tgt := 32) hx hb dX2_leans_25 (by decide) (fun c1 => ?_) (fun c1 => ?_)
  · have c1 : ((max n1 n2) * 3) ≤ (n * 2) := (nI_leI (by omega) (by omega)).mp c1
    refine lv_iconst (v := nI 0) hx hb dX2_leans_32 (by decide) ?_
    refine g_asi (show _ = bI false from bI_f') ?_
    exact hret (some (.int (bI false))) _ _ (by rw [decide_eq_false (by omega)]) (rt_z dX2_leans_33)
  · have c1 : (n * 2) < ((max n1 n2) * 3) := Nat.not_le.mp (fun z => c1 ((nI_leI (by omega) (by omega)).mpr z))
    refine lv_iconst (v := nI 1) hx hb dX2_leans_28 (by decide) ?_
    refine lv_goto (tgt := 33) hx hb dX2_leans_29 (by decide) ?_
    refine g_asi (show _ = bI true from bI_t') ?_
    exact hret (some (.int (bI true))) _ _ (by rw [decide_eq_true (by omega)]) (rt_z dX2_leans_33)
