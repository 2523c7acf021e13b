theorem okId_in (i : Int32) : decide ((0 : Int64) ≤ i.toInt64 ∧ i.toInt64 ≤ 99) = okId i := by
  unfold okId
  rw [decide_eq_decide]
  rw [Int64.le_iff_toInt_le, Int64.le_iff_toInt_le, Int32.toInt_toInt64, Int32.not_lt, Int32.le_iff_toInt_le, Int32.lt_iff_toInt_lt, show (0 : Int64).toInt = 0 from by decide, show (99 : Int64).toInt = 99 from by decide, show (0 : Int32).toInt = 0 from by decide, show (100 : Int32).toInt = 100 from by decide]
  omega
theorem okNum_in (i : Int32) : decide ((-10000 : Int64) ≤ i.toInt64 ∧ i.toInt64 ≤ 10000) = okNum i := by
  unfold okNum
  rw [decide_eq_decide]
  rw [Int64.le_iff_toInt_le, Int64.le_iff_toInt_le, Int32.toInt_toInt64, Int32.le_iff_toInt_le, Int32.le_iff_toInt_le, show (-10000 : Int64).toInt = -10000 from by decide, show (10000 : Int64).toInt = 10000 from by decide, show (-10000 : Int32).toInt = -10000 from by decide, show (10000 : Int32).toInt = 10000 from by decide]

set_option maxHeartbeats 4000000 in
set_option maxRecDepth 100000 in
theorem m_in (l : Launch) (Γ : gG) (K : gK) (F : gF) (v lo hi : Int64) : gMR l yX7_in wsX7_in 0 Γ K F [.long v, .long lo, .long hi] (some (.int (bI (decide (lo ≤ v ∧ v ≤ hi))))) := by
  refine g_mR (cc := cX7_in) (maxL := 6) (ret := (some .boolean)) (by decide) rfl (Nat.le_of_ble_eq_true rfl) ?_
  intro p e s m args below meth c ls Z hx hb hts hown hml hN hP hret hl
  have hl : lv_has ls 6 [(0, .long v), (2, .long lo), (4, .long hi)] := hl
  have hown : s.vm.findClass RX7 = some m.cls := hown
  refine lv_lload_n hx hb dX7_in_0 rfl (lv_at hl 0 rfl) ?_
  refine lv_lload_n hx hb dX7_in_1 rfl (lv_at hl 1 rfl) ?_
  refine W.lcmp hx hb dX7_in_2 ?_
  refine lv_if_lt (tgt := 17) hx hb dX7_in_3 (by decide) (fun c1 => ?_) (fun c1 => ?_)
  · have c1 : _ := (lg_cmp_lt _ _).mp c1
    refine lv_iconst (v := nI 0) hx hb dX7_in_17 (by decide) ?_
    refine g_asi (show _ = bI false from bI_f') ?_
    exact hret (some (.int (bI false))) _ _ (by rw [decide_eq_false (fun z => Int64.not_le.mpr c1 z.1)]) (rt_z dX7_in_18)
  · have c1 : ¬ _ := fun z => c1 ((lg_cmp_lt _ _).mpr z)
    refine lv_lload_n hx hb dX7_in_6 rfl (lv_at hl 0 rfl) ?_
    refine lv_lload hx hb dX7_in_7 (lv_at hl 2 rfl) ?_
    refine W.lcmp hx hb dX7_in_9 ?_
    refine lv_if_gt (tgt := 17) hx hb dX7_in_10 (by decide) (fun c2 => ?_) (fun c2 => ?_)
    · have c2 : _ := (lg_cmp_gt _ _).mp c2
      refine lv_iconst (v := nI 0) hx hb dX7_in_17 (by decide) ?_
      refine g_asi (show _ = bI false from bI_f') ?_
      exact hret (some (.int (bI false))) _ _ (by rw [decide_eq_false (fun z => Int64.not_le.mpr c2 z.2)]) (rt_z dX7_in_18)
    · have c2 : ¬ _ := fun z => c2 ((lg_cmp_gt _ _).mpr z)
      refine lv_iconst (v := nI 1) hx hb dX7_in_13 (by decide) ?_
      refine lv_goto (tgt := 18) hx hb dX7_in_14 (by decide) ?_
      refine g_asi (show _ = bI true from bI_t') ?_
      exact hret (some (.int (bI true))) _ _ (by rw [decide_eq_true ⟨Int64.not_lt.mp c1, Int64.not_lt.mp c2⟩]) (rt_z dX7_in_18)

set_option maxHeartbeats 4000000 in
set_option maxRecDepth 100000 in
theorem m_isId (l : Launch) (Γ : gG) (K : gK) (F : gF) (i : Int32) : gMR l yX7_isId wsX7_isId 1 Γ K F [.int i] (some (.int (bI (okId i)))) := by
  refine g_mR (cc := cX7_isId) (maxL := 1) (ret := (some .boolean)) (by decide) rfl (Nat.le_of_ble_eq_true rfl) ?_
  intro p e s m args below meth c ls Z hx hb hts hown hml hN hP hret hl
  have hl : lv_has ls 1 [(0, .int i)] := hl
  have hown : s.vm.findClass RX7 = some m.cls := hown
  refine lv_iload_n hx hb dX7_isId_0 rfl (lv_at hl 0 rfl) ?_
  refine lv_i2l (v := i.toInt64) hx hb dX7_isId_1 rfl ?_
  refine lv_lconst (v := 0) hx hb dX7_isId_2 (by decide) ?_
  refine lv_ldc2 (v := 99) hx hb hown (hts _ (show Cond.constantLong RX7 88 (99) ∈ _ by decide +kernel)) dX7_isId_3 ?_
  refine g_cS (v := (some (.int (bI (decide ((0 : Int64) ≤ i.toInt64 ∧ i.toInt64 ≤ 99)))))) (As := [.long i.toInt64, .long 0, .long 99]) (rest := []) hx hb hml hown hts hN hP (m_in l Γ K F i.toInt64 0 99) gX7_isId_X7_in rfl (na := 3) rfl (by decide +kernel) ⟨by decide, by decide⟩ ⟨Nat.zero_le _, Nat.zero_le _⟩ rfl hl.1 (Nat.le_of_ble_eq_true rfl) dX7_isId_6 ?_
  show W _ _ _ _ _ _ _ _ _ _ _ _ _ _ _ (F0 m 9 ls [.int (bI (decide ((0 : Int64) ≤ i.toInt64 ∧ i.toInt64 ≤ 99)))])
  exact hret (some (.int (bI (decide ((0 : Int64) ≤ i.toInt64 ∧ i.toInt64 ≤ 99))))) _ _ (by rw [okId_in]) (rt_z dX7_isId_9)

set_option maxHeartbeats 4000000 in
set_option maxRecDepth 100000 in
theorem m_areNumbers (l : Launch) (Γ : gG) (K : gK) (F : gF) (m9 d : Nat) (x y z w : Int32) (hk : K m9 = some (7, 0)) (h1 : F m9 1 = .int (nI d)) (hd4 : d ≤ 4) : gMR l yX7_areNumbers wsX7_areNumbers 1 Γ K F [.ref m9, .int x, .int y, .int z, .int w] (some (.int (bI (okPl d x y z w)))) := by
  refine g_mR (cc := cX7_areNumbers) (maxL := 5) (ret := (some .boolean)) (by decide) rfl (Nat.le_of_ble_eq_true rfl) ?_
  intro p e s m args below meth c ls Z hx hb hts hown hml hN hP hret hl
  have hl : lv_has ls 5 [(0, .ref m9), (1, .int x), (2, .int y), (3, .int z), (4, .int w)] := hl
  have hown : s.vm.findClass RX7 = some m.cls := hown
  have hi7 : ∀ w ∈ wsX70, w ∈ wsX7_areNumbers := by decide +kernel
  have hfX7_85 : Cond.fieldLink RX7 85 (TX7 1).1 (TX7 1).2.1 (TX7 1).2.2.1 ∈ wsX7_areNumbers := by decide +kernel
  refine lv_iload_n hx hb dX7_areNumbers_0 rfl (lv_at hl 1 rfl) ?_
  refine lv_i2l (v := x.toInt64) hx hb dX7_areNumbers_1 rfl ?_
  refine lv_ldc2 (v := (-10000)) hx hb hown (hts _ (show Cond.constantLong RX7 94 (-10000) ∈ _ by decide +kernel)) dX7_areNumbers_2 ?_
  refine lv_ldc2 (v := 10000) hx hb hown (hts _ (show Cond.constantLong RX7 96 (10000) ∈ _ by decide +kernel)) dX7_areNumbers_5 ?_
  refine g_cS (v := (some (.int (bI (decide ((-10000 : Int64) ≤ x.toInt64 ∧ x.toInt64 ≤ 10000)))))) (As := [.long x.toInt64, .long (-10000), .long 10000]) (rest := []) hx hb hml hown hts hN hP (m_in l Γ K F x.toInt64 (-10000) 10000) gX7_areNumbers_X7_in rfl (na := 3) rfl (by decide +kernel) ⟨by decide, by decide⟩ ⟨Nat.zero_le _, Nat.zero_le _⟩ rfl hl.1 (Nat.le_of_ble_eq_true rfl) dX7_areNumbers_8 ?_
  show W _ _ _ _ _ _ _ _ _ _ _ _ _ _ _ (F0 m 11 ls [.int (bI (decide ((-10000 : Int64) ≤ x.toInt64 ∧ x.toInt64 ≤ 10000)))])
  refine g_asi (show _ = bI (okNum x) from by rw [okNum_in]) ?_
  refine lv_if_eq (tgt := 85) hx hb dX7_areNumbers_11 (by decide) (fun c1 => ?_) (fun c1 => ?_)
  · have c1 : (okNum x) = false := bI_0.mp c1
    refine lv_iconst (v := nI 0) hx hb dX7_areNumbers_85 (by decide) ?_
    refine g_asi (show _ = bI false from bI_f') ?_
    exact hret (some (.int (bI false))) _ _ (by simp [okPl, c1]) (rt_z dX7_areNumbers_86)
  · have c1 : (okNum x) = true := bI_n0.mp c1
    refine lv_aload_n hx hb dX7_areNumbers_14 rfl (lv_at hl 0 rfl) ?_
    refine g_get (C := RX7) (T := TX7) (N := 31) hx hb hts hi7 hown hN hP hk rfl (by decide) 1 (by decide) hfX7_85 (v := .int (nI d)) h1 dX7_areNumbers_15 ?_
    refine lv_iconst (v := nI 2) hx hb dX7_areNumbers_18 (by decide) ?_
    refine lv_icmp_lt (tgt := 36) hx hb dX7_areNumbers_19 (by decide) (fun e1 => ?_) (fun e1 => ?_)
    · have e1 : d < 2 := (nI_ltI (by omega) (by omega)).mp e1
      refine lv_aload_n hx hb dX7_areNumbers_36 rfl (lv_at hl 0 rfl) ?_
      refine g_get (C := RX7) (T := TX7) (N := 31) hx hb hts hi7 hown hN hP hk rfl (by decide) 1 (by decide) hfX7_85 (v := .int (nI d)) h1 dX7_areNumbers_37 ?_
      refine lv_iconst (v := nI 3) hx hb dX7_areNumbers_40 (by decide) ?_
      refine lv_icmp_lt (tgt := 58) hx hb dX7_areNumbers_41 (by decide) (fun e2 => ?_) (fun e2 => ?_)
      · have e2 : d < 3 := (nI_ltI (by omega) (by omega)).mp e2
        refine lv_aload_n hx hb dX7_areNumbers_58 rfl (lv_at hl 0 rfl) ?_
        refine g_get (C := RX7) (T := TX7) (N := 31) hx hb hts hi7 hown hN hP hk rfl (by decide) 1 (by decide) hfX7_85 (v := .int (nI d)) h1 dX7_areNumbers_59 ?_
        refine lv_iconst (v := nI 4) hx hb dX7_areNumbers_62 (by decide) ?_
        refine lv_icmp_lt (tgt := 81) hx hb dX7_areNumbers_63 (by decide) (fun e3 => ?_) (fun e3 => ?_)
        · have e3 : d < 4 := (nI_ltI (by omega) (by omega)).mp e3
          refine lv_iconst (v := nI 1) hx hb dX7_areNumbers_81 (by decide) ?_
          refine lv_goto (tgt := 86) hx hb dX7_areNumbers_82 (by decide) ?_
          refine g_asi (show _ = bI true from bI_t') ?_
          exact hret (some (.int (bI true))) _ _ (by simp [okPl, c1, e1, e2, e3]) (rt_z dX7_areNumbers_86)
        · have e3 : 4 ≤ d := Nat.not_lt.mp (fun z => e3 ((nI_ltI (by omega) (by omega)).mpr z))
          refine lv_iload hx hb dX7_areNumbers_66 (lv_at hl 4 rfl) ?_
          refine lv_i2l (v := w.toInt64) hx hb dX7_areNumbers_68 rfl ?_
          refine lv_ldc2 (v := (-10000)) hx hb hown (hts _ (show Cond.constantLong RX7 94 (-10000) ∈ _ by decide +kernel)) dX7_areNumbers_69 ?_
          refine lv_ldc2 (v := 10000) hx hb hown (hts _ (show Cond.constantLong RX7 96 (10000) ∈ _ by decide +kernel)) dX7_areNumbers_72 ?_
          refine g_cS (v := (some (.int (bI (decide ((-10000 : Int64) ≤ w.toInt64 ∧ w.toInt64 ≤ 10000)))))) (As := [.long w.toInt64, .long (-10000), .long 10000]) (rest := []) hx hb hml hown hts hN hP (m_in l Γ K F w.toInt64 (-10000) 10000) gX7_areNumbers_X7_in rfl (na := 3) rfl (by decide +kernel) ⟨by decide, by decide⟩ ⟨Nat.zero_le _, Nat.zero_le _⟩ rfl hl.1 (Nat.le_of_ble_eq_true rfl) dX7_areNumbers_75 ?_
          show W _ _ _ _ _ _ _ _ _ _ _ _ _ _ _ (F0 m 78 ls [.int (bI (decide ((-10000 : Int64) ≤ w.toInt64 ∧ w.toInt64 ≤ 10000)))])
          refine g_asi (show _ = bI (okNum w) from by rw [okNum_in]) ?_
          refine lv_if_eq (tgt := 85) hx hb dX7_areNumbers_78 (by decide) (fun g3 => ?_) (fun g3 => ?_)
          · have g3 : (okNum w) = false := bI_0.mp g3
            refine lv_iconst (v := nI 0) hx hb dX7_areNumbers_85 (by decide) ?_
            refine g_asi (show _ = bI false from bI_f') ?_
            exact hret (some (.int (bI false))) _ _ (by simp [okPl, c1, e1, e2, Nat.not_lt.mpr e3, g3]) (rt_z dX7_areNumbers_86)
          · have g3 : (okNum w) = true := bI_n0.mp g3
            refine lv_iconst (v := nI 1) hx hb dX7_areNumbers_81 (by decide) ?_
            refine lv_goto (tgt := 86) hx hb dX7_areNumbers_82 (by decide) ?_
            refine g_asi (show _ = bI true from bI_t') ?_
            exact hret (some (.int (bI true))) _ _ (by simp [okPl, c1, e1, e2, g3]) (rt_z dX7_areNumbers_86)
      · have e2 : 3 ≤ d := Nat.not_lt.mp (fun z => e2 ((nI_ltI (by omega) (by omega)).mpr z))
        refine lv_iload_n hx hb dX7_areNumbers_44 rfl (lv_at hl 3 rfl) ?_
        refine lv_i2l (v := z.toInt64) hx hb dX7_areNumbers_45 rfl ?_
        refine lv_ldc2 (v := (-10000)) hx hb hown (hts _ (show Cond.constantLong RX7 94 (-10000) ∈ _ by decide +kernel)) dX7_areNumbers_46 ?_
        refine lv_ldc2 (v := 10000) hx hb hown (hts _ (show Cond.constantLong RX7 96 (10000) ∈ _ by decide +kernel)) dX7_areNumbers_49 ?_
        refine g_cS (v := (some (.int (bI (decide ((-10000 : Int64) ≤ z.toInt64 ∧ z.toInt64 ≤ 10000)))))) (As := [.long z.toInt64, .long (-10000), .long 10000]) (rest := []) hx hb hml hown hts hN hP (m_in l Γ K F z.toInt64 (-10000) 10000) gX7_areNumbers_X7_in rfl (na := 3) rfl (by decide +kernel) ⟨by decide, by decide⟩ ⟨Nat.zero_le _, Nat.zero_le _⟩ rfl hl.1 (Nat.le_of_ble_eq_true rfl) dX7_areNumbers_52 ?_
        show W _ _ _ _ _ _ _ _ _ _ _ _ _ _ _ (F0 m 55 ls [.int (bI (decide ((-10000 : Int64) ≤ z.toInt64 ∧ z.toInt64 ≤ 10000)))])
        refine g_asi (show _ = bI (okNum z) from by rw [okNum_in]) ?_
        refine lv_if_eq (tgt := 85) hx hb dX7_areNumbers_55 (by decide) (fun g2 => ?_) (fun g2 => ?_)
        · have g2 : (okNum z) = false := bI_0.mp g2
          refine lv_iconst (v := nI 0) hx hb dX7_areNumbers_85 (by decide) ?_
          refine g_asi (show _ = bI false from bI_f') ?_
          exact hret (some (.int (bI false))) _ _ (by simp [okPl, c1, e1, Nat.not_lt.mpr e2, g2]) (rt_z dX7_areNumbers_86)
        · have g2 : (okNum z) = true := bI_n0.mp g2
          refine lv_aload_n hx hb dX7_areNumbers_58 rfl (lv_at hl 0 rfl) ?_
          refine g_get (C := RX7) (T := TX7) (N := 31) hx hb hts hi7 hown hN hP hk rfl (by decide) 1 (by decide) hfX7_85 (v := .int (nI d)) h1 dX7_areNumbers_59 ?_
          refine lv_iconst (v := nI 4) hx hb dX7_areNumbers_62 (by decide) ?_
          refine lv_icmp_lt (tgt := 81) hx hb dX7_areNumbers_63 (by decide) (fun e3 => ?_) (fun e3 => ?_)
          · have e3 : d < 4 := (nI_ltI (by omega) (by omega)).mp e3
            refine lv_iconst (v := nI 1) hx hb dX7_areNumbers_81 (by decide) ?_
            refine lv_goto (tgt := 86) hx hb dX7_areNumbers_82 (by decide) ?_
            refine g_asi (show _ = bI true from bI_t') ?_
            exact hret (some (.int (bI true))) _ _ (by simp [okPl, c1, e1, g2, e3]) (rt_z dX7_areNumbers_86)
          · have e3 : 4 ≤ d := Nat.not_lt.mp (fun z => e3 ((nI_ltI (by omega) (by omega)).mpr z))
            refine lv_iload hx hb dX7_areNumbers_66 (lv_at hl 4 rfl) ?_
            refine lv_i2l (v := w.toInt64) hx hb dX7_areNumbers_68 rfl ?_
            refine lv_ldc2 (v := (-10000)) hx hb hown (hts _ (show Cond.constantLong RX7 94 (-10000) ∈ _ by decide +kernel)) dX7_areNumbers_69 ?_
            refine lv_ldc2 (v := 10000) hx hb hown (hts _ (show Cond.constantLong RX7 96 (10000) ∈ _ by decide +kernel)) dX7_areNumbers_72 ?_
            refine g_cS (v := (some (.int (bI (decide ((-10000 : Int64) ≤ w.toInt64 ∧ w.toInt64 ≤ 10000)))))) (As := [.long w.toInt64, .long (-10000), .long 10000]) (rest := []) hx hb hml hown hts hN hP (m_in l Γ K F w.toInt64 (-10000) 10000) gX7_areNumbers_X7_in rfl (na := 3) rfl (by decide +kernel) ⟨by decide, by decide⟩ ⟨Nat.zero_le _, Nat.zero_le _⟩ rfl hl.1 (Nat.le_of_ble_eq_true rfl) dX7_areNumbers_75 ?_
            show W _ _ _ _ _ _ _ _ _ _ _ _ _ _ _ (F0 m 78 ls [.int (bI (decide ((-10000 : Int64) ≤ w.toInt64 ∧ w.toInt64 ≤ 10000)))])
            refine g_asi (show _ = bI (okNum w) from by rw [okNum_in]) ?_
            refine lv_if_eq (tgt := 85) hx hb dX7_areNumbers_78 (by decide) (fun g3 => ?_) (fun g3 => ?_)
            · have g3 : (okNum w) = false := bI_0.mp g3
              refine lv_iconst (v := nI 0) hx hb dX7_areNumbers_85 (by decide) ?_
              refine g_asi (show _ = bI false from bI_f') ?_
              exact hret (some (.int (bI false))) _ _ (by simp [okPl, c1, e1, g2, Nat.not_lt.mpr e3, g3]) (rt_z dX7_areNumbers_86)
            · have g3 : (okNum w) = true := bI_n0.mp g3
              refine lv_iconst (v := nI 1) hx hb dX7_areNumbers_81 (by decide) ?_
              refine lv_goto (tgt := 86) hx hb dX7_areNumbers_82 (by decide) ?_
              refine g_asi (show _ = bI true from bI_t') ?_
              exact hret (some (.int (bI true))) _ _ (by simp [okPl, c1, e1, g2, g3]) (rt_z dX7_areNumbers_86)
    · have e1 : 2 ≤ d := Nat.not_lt.mp (fun z => e1 ((nI_ltI (by omega) (by omega)).mpr z))
      refine lv_iload_n hx hb dX7_areNumbers_22 rfl (lv_at hl 2 rfl) ?_
      refine lv_i2l (v := y.toInt64) hx hb dX7_areNumbers_23 rfl ?_
      refine lv_ldc2 (v := (-10000)) hx hb hown (hts _ (show Cond.constantLong RX7 94 (-10000) ∈ _ by decide +kernel)) dX7_areNumbers_24 ?_
      refine lv_ldc2 (v := 10000) hx hb hown (hts _ (show Cond.constantLong RX7 96 (10000) ∈ _ by decide +kernel)) dX7_areNumbers_27 ?_
      refine g_cS (v := (some (.int (bI (decide ((-10000 : Int64) ≤ y.toInt64 ∧ y.toInt64 ≤ 10000)))))) (As := [.long y.toInt64, .long (-10000), .long 10000]) (rest := []) hx hb hml hown hts hN hP (m_in l Γ K F y.toInt64 (-10000) 10000) gX7_areNumbers_X7_in rfl (na := 3) rfl (by decide +kernel) ⟨by decide, by decide⟩ ⟨Nat.zero_le _, Nat.zero_le _⟩ rfl hl.1 (Nat.le_of_ble_eq_true rfl) dX7_areNumbers_30 ?_
      show W _ _ _ _ _ _ _ _ _ _ _ _ _ _ _ (F0 m 33 ls [.int (bI (decide ((-10000 : Int64) ≤ y.toInt64 ∧ y.toInt64 ≤ 10000)))])
      refine g_asi (show _ = bI (okNum y) from by rw [okNum_in]) ?_
      refine lv_if_eq (tgt := 85) hx hb dX7_areNumbers_33 (by decide) (fun g1 => ?_) (fun g1 => ?_)
      · have g1 : (okNum y) = false := bI_0.mp g1
        refine lv_iconst (v := nI 0) hx hb dX7_areNumbers_85 (by decide) ?_
        refine g_asi (show _ = bI false from bI_f') ?_
        exact hret (some (.int (bI false))) _ _ (by simp [okPl, c1, Nat.not_lt.mpr e1, g1]) (rt_z dX7_areNumbers_86)
      · have g1 : (okNum y) = true := bI_n0.mp g1
        refine lv_aload_n hx hb dX7_areNumbers_36 rfl (lv_at hl 0 rfl) ?_
        refine g_get (C := RX7) (T := TX7) (N := 31) hx hb hts hi7 hown hN hP hk rfl (by decide) 1 (by decide) hfX7_85 (v := .int (nI d)) h1 dX7_areNumbers_37 ?_
        refine lv_iconst (v := nI 3) hx hb dX7_areNumbers_40 (by decide) ?_
        refine lv_icmp_lt (tgt := 58) hx hb dX7_areNumbers_41 (by decide) (fun e2 => ?_) (fun e2 => ?_)
        · have e2 : d < 3 := (nI_ltI (by omega) (by omega)).mp e2
          refine lv_aload_n hx hb dX7_areNumbers_58 rfl (lv_at hl 0 rfl) ?_
          refine g_get (C := RX7) (T := TX7) (N := 31) hx hb hts hi7 hown hN hP hk rfl (by decide) 1 (by decide) hfX7_85 (v := .int (nI d)) h1 dX7_areNumbers_59 ?_
          refine lv_iconst (v := nI 4) hx hb dX7_areNumbers_62 (by decide) ?_
          refine lv_icmp_lt (tgt := 81) hx hb dX7_areNumbers_63 (by decide) (fun e3 => ?_) (fun e3 => ?_)
          · have e3 : d < 4 := (nI_ltI (by omega) (by omega)).mp e3
            refine lv_iconst (v := nI 1) hx hb dX7_areNumbers_81 (by decide) ?_
            refine lv_goto (tgt := 86) hx hb dX7_areNumbers_82 (by decide) ?_
            refine g_asi (show _ = bI true from bI_t') ?_
            exact hret (some (.int (bI true))) _ _ (by simp [okPl, c1, g1, e2, e3]) (rt_z dX7_areNumbers_86)
          · have e3 : 4 ≤ d := Nat.not_lt.mp (fun z => e3 ((nI_ltI (by omega) (by omega)).mpr z))
            refine lv_iload hx hb dX7_areNumbers_66 (lv_at hl 4 rfl) ?_
            refine lv_i2l (v := w.toInt64) hx hb dX7_areNumbers_68 rfl ?_
            refine lv_ldc2 (v := (-10000)) hx hb hown (hts _ (show Cond.constantLong RX7 94 (-10000) ∈ _ by decide +kernel)) dX7_areNumbers_69 ?_
            refine lv_ldc2 (v := 10000) hx hb hown (hts _ (show Cond.constantLong RX7 96 (10000) ∈ _ by decide +kernel)) dX7_areNumbers_72 ?_
            refine g_cS (v := (some (.int (bI (decide ((-10000 : Int64) ≤ w.toInt64 ∧ w.toInt64 ≤ 10000)))))) (As := [.long w.toInt64, .long (-10000), .long 10000]) (rest := []) hx hb hml hown hts hN hP (m_in l Γ K F w.toInt64 (-10000) 10000) gX7_areNumbers_X7_in rfl (na := 3) rfl (by decide +kernel) ⟨by decide, by decide⟩ ⟨Nat.zero_le _, Nat.zero_le _⟩ rfl hl.1 (Nat.le_of_ble_eq_true rfl) dX7_areNumbers_75 ?_
            show W _ _ _ _ _ _ _ _ _ _ _ _ _ _ _ (F0 m 78 ls [.int (bI (decide ((-10000 : Int64) ≤ w.toInt64 ∧ w.toInt64 ≤ 10000)))])
            refine g_asi (show _ = bI (okNum w) from by rw [okNum_in]) ?_
            refine lv_if_eq (tgt := 85) hx hb dX7_areNumbers_78 (by decide) (fun g3 => ?_) (fun g3 => ?_)
            · have g3 : (okNum w) = false := bI_0.mp g3
              refine lv_iconst (v := nI 0) hx hb dX7_areNumbers_85 (by decide) ?_
              refine g_asi (show _ = bI false from bI_f') ?_
              exact hret (some (.int (bI false))) _ _ (by simp [okPl, c1, g1, e2, Nat.not_lt.mpr e3, g3]) (rt_z dX7_areNumbers_86)
            · have g3 : (okNum w) = true := bI_n0.mp g3
              refine lv_iconst (v := nI 1) hx hb dX7_areNumbers_81 (by decide) ?_
              refine lv_goto (tgt := 86) hx hb dX7_areNumbers_82 (by decide) ?_
              refine g_asi (show _ = bI true from bI_t') ?_
              exact hret (some (.int (bI true))) _ _ (by simp [okPl, c1, g1, e2, g3]) (rt_z dX7_areNumbers_86)
        · have e2 : 3 ≤ d := Nat.not_lt.mp (fun z => e2 ((nI_ltI (by omega) (by omega)).mpr z))
          refine lv_iload_n hx hb dX7_areNumbers_44 rfl (lv_at hl 3 rfl) ?_
          refine lv_i2l (v := z.toInt64) hx hb dX7_areNumbers_45 rfl ?_
          refine lv_ldc2 (v := (-10000)) hx hb hown (hts _ (show Cond.constantLong RX7 94 (-10000) ∈ _ by decide +kernel)) dX7_areNumbers_46 ?_
          refine lv_ldc2 (v := 10000) hx hb hown (hts _ (show Cond.constantLong RX7 96 (10000) ∈ _ by decide +kernel)) dX7_areNumbers_49 ?_
          refine g_cS (v := (some (.int (bI (decide ((-10000 : Int64) ≤ z.toInt64 ∧ z.toInt64 ≤ 10000)))))) (As := [.long z.toInt64, .long (-10000), .long 10000]) (rest := []) hx hb hml hown hts hN hP (m_in l Γ K F z.toInt64 (-10000) 10000) gX7_areNumbers_X7_in rfl (na := 3) rfl (by decide +kernel) ⟨by decide, by decide⟩ ⟨Nat.zero_le _, Nat.zero_le _⟩ rfl hl.1 (Nat.le_of_ble_eq_true rfl) dX7_areNumbers_52 ?_
          show W _ _ _ _ _ _ _ _ _ _ _ _ _ _ _ (F0 m 55 ls [.int (bI (decide ((-10000 : Int64) ≤ z.toInt64 ∧ z.toInt64 ≤ 10000)))])
          refine g_asi (show _ = bI (okNum z) from by rw [okNum_in]) ?_
          refine lv_if_eq (tgt := 85) hx hb dX7_areNumbers_55 (by decide) (fun g2 => ?_) (fun g2 => ?_)
          · have g2 : (okNum z) = false := bI_0.mp g2
            refine lv_iconst (v := nI 0) hx hb dX7_areNumbers_85 (by decide) ?_
            refine g_asi (show _ = bI false from bI_f') ?_
            exact hret (some (.int (bI false))) _ _ (by simp [okPl, c1, g1, Nat.not_lt.mpr e2, g2]) (rt_z dX7_areNumbers_86)
          · have g2 : (okNum z) = true := bI_n0.mp g2
            refine lv_aload_n hx hb dX7_areNumbers_58 rfl (lv_at hl 0 rfl) ?_
            refine g_get (C := RX7) (T := TX7) (N := 31) hx hb hts hi7 hown hN hP hk rfl (by decide) 1 (by decide) hfX7_85 (v := .int (nI d)) h1 dX7_areNumbers_59 ?_
            refine lv_iconst (v := nI 4) hx hb dX7_areNumbers_62 (by decide) ?_
            refine lv_icmp_lt (tgt := 81) hx hb dX7_areNumbers_63 (by decide) (fun e3 => ?_) (fun e3 => ?_)
            · have e3 : d < 4 := (nI_ltI (by omega) (by omega)).mp e3
              refine lv_iconst (v := nI 1) hx hb dX7_areNumbers_81 (by decide) ?_
              refine lv_goto (tgt := 86) hx hb dX7_areNumbers_82 (by decide) ?_
              refine g_asi (show _ = bI true from bI_t') ?_
              exact hret (some (.int (bI true))) _ _ (by simp [okPl, c1, g1, g2, e3]) (rt_z dX7_areNumbers_86)
            · have e3 : 4 ≤ d := Nat.not_lt.mp (fun z => e3 ((nI_ltI (by omega) (by omega)).mpr z))
              refine lv_iload hx hb dX7_areNumbers_66 (lv_at hl 4 rfl) ?_
              refine lv_i2l (v := w.toInt64) hx hb dX7_areNumbers_68 rfl ?_
              refine lv_ldc2 (v := (-10000)) hx hb hown (hts _ (show Cond.constantLong RX7 94 (-10000) ∈ _ by decide +kernel)) dX7_areNumbers_69 ?_
              refine lv_ldc2 (v := 10000) hx hb hown (hts _ (show Cond.constantLong RX7 96 (10000) ∈ _ by decide +kernel)) dX7_areNumbers_72 ?_
              refine g_cS (v := (some (.int (bI (decide ((-10000 : Int64) ≤ w.toInt64 ∧ w.toInt64 ≤ 10000)))))) (As := [.long w.toInt64, .long (-10000), .long 10000]) (rest := []) hx hb hml hown hts hN hP (m_in l Γ K F w.toInt64 (-10000) 10000) gX7_areNumbers_X7_in rfl (na := 3) rfl (by decide +kernel) ⟨by decide, by decide⟩ ⟨Nat.zero_le _, Nat.zero_le _⟩ rfl hl.1 (Nat.le_of_ble_eq_true rfl) dX7_areNumbers_75 ?_
              show W _ _ _ _ _ _ _ _ _ _ _ _ _ _ _ (F0 m 78 ls [.int (bI (decide ((-10000 : Int64) ≤ w.toInt64 ∧ w.toInt64 ≤ 10000)))])
              refine g_asi (show _ = bI (okNum w) from by rw [okNum_in]) ?_
              refine lv_if_eq (tgt := 85) hx hb dX7_areNumbers_78 (by decide) (fun g3 => ?_) (fun g3 => ?_)
              · have g3 : (okNum w) = false := bI_0.mp g3
                refine lv_iconst (v := nI 0) hx hb dX7_areNumbers_85 (by decide) ?_
                refine g_asi (show _ = bI false from bI_f') ?_
                exact hret (some (.int (bI false))) _ _ (by simp [okPl, c1, g1, g2, Nat.not_lt.mpr e3, g3]) (rt_z dX7_areNumbers_86)
              · have g3 : (okNum w) = true := bI_n0.mp g3
                refine lv_iconst (v := nI 1) hx hb dX7_areNumbers_81 (by decide) ?_
                refine lv_goto (tgt := 86) hx hb dX7_areNumbers_82 (by decide) ?_
                refine g_asi (show _ = bI true from bI_t') ?_
                exact hret (some (.int (bI true))) _ _ (by simp [okPl, c1, g1, g2, g3]) (rt_z dX7_areNumbers_86)

set_option maxHeartbeats 4000000 in
set_option maxRecDepth 100000 in
theorem m_thrown (l : Launch) (Γ : gG) (K : gK) (F : gF) (m9 : Nat) (th : Int32) (hk : K m9 = some (7, 0)) (h0 : F m9 0 = .int th) : gMR l yX7_thrown wsX7_thrown 0 Γ K F [.ref m9] (some (.int th)) := by
  refine g_mR (cc := cX7_thrown) (maxL := 1) (ret := (some .int)) (by decide) rfl (Nat.le_of_ble_eq_true rfl) ?_
  intro p e s m args below meth c ls Z hx hb hts hown hml hN hP hret hl
  have hl : lv_has ls 1 [(0, .ref m9)] := hl
  have hown : s.vm.findClass RX7 = some m.cls := hown
  have hi7 : ∀ w ∈ wsX70, w ∈ wsX7_thrown := by decide +kernel
  have hfX7_1 : Cond.fieldLink RX7 1 (TX7 0).1 (TX7 0).2.1 (TX7 0).2.2.1 ∈ wsX7_thrown := by decide +kernel
  refine lv_aload_n hx hb dX7_thrown_0 rfl (lv_at hl 0 rfl) ?_
  refine g_get (C := RX7) (T := TX7) (N := 31) hx hb hts hi7 hown hN hP hk rfl (by decide) 0 (by decide) hfX7_1 (v := .int th) h0 dX7_thrown_1 ?_
  exact hret (some (.int th)) _ _ (rfl) (rt_i dX7_thrown_4)

set_option maxHeartbeats 4000000 in
set_option maxRecDepth 100000 in
theorem m_hang0 (l : Launch) (Γ : gG) (K : gK) (F : gF) (sz : Nat) (m9 : Nat) (B : Nat → Nat) (hk : MKk K m9 B) (hf : MKf F m9 B) (r : Int32) (b : Bool) : gMM l yX7_hang wsX7_hang 0 0 0 Γ K F sz [.ref m9, .int r, .int (-1), .int (bI b)] (fun v K' F' => v = none ∧ K' = K ∧ F' = gU F m9 13 (.int r)) := by
  refine g_mM (cc := cX7_hang) (maxL := 4) (ret := none) (by decide) rfl (Nat.le_of_ble_eq_true rfl) ?_
  intro p e s m args below meth c ls Z hsz hx hb hts hown hml hnm hN hW hret hl
  have hl : lv_has ls 4 [(0, .ref m9), (1, .int r), (2, .int (-1)), (3, .int (bI b))] := hl
  have hown : s.vm.findClass RX7 = some m.cls := hown
  have hi7 : ∀ w ∈ wsX70, w ∈ wsX7_hang := by decide +kernel
  have hfX7_45 : Cond.fieldLink RX7 45 (TX7 13).1 (TX7 13).2.1 (TX7 13).2.2.1 ∈ wsX7_hang := by decide +kernel
  refine lv_iload_n hx hb dX7_hang_0 rfl (lv_at hl 2 rfl) ?_
  refine lv_iconst (v := (-1)) hx hb dX7_hang_1 (by decide) ?_
  refine lv_icmp_ne (tgt := 13) hx hb dX7_hang_2 (by decide) (fun c1 => ?_) (fun c1 => ?_)
  · exact absurd rfl c1
  · refine lv_aload_n hx hb dX7_hang_5 rfl (lv_at hl 0 rfl) ?_
    refine lv_iload_n hx hb dX7_hang_6 rfl (lv_at hl 1 rfl) ?_
    refine g_put (C := RX7) (T := TX7) (N := 31) hx hb hts hi7 tyX7 tyX7_ok nmX7 hown hN hW hk.1 rfl (by decide) 13 (by decide) hfX7_45 rfl rfl rfl dX7_hang_7 (fun H locs hW => ?_)
    refine lv_goto (tgt := 34) hx hb dX7_hang_10 (by decide) ?_
    exact hret none _ _ _ _ _ _ hW (⟨rfl, rfl, rfl⟩) (rt_v dX7_hang_34)

set_option maxHeartbeats 4000000 in
set_option maxRecDepth 100000 in
theorem m_hangL (l : Launch) (Γ : gG) (K : gK) (F : gF) (sz : Nat) (m9 : Nat) (B : Nat → Nat) (hk : MKk K m9 B) (hf : MKf F m9 B) (r : Int32) (n : Nat) (hn : n < 140) : gMM l yX7_hang wsX7_hang 0 0 0 Γ K F sz [.ref m9, .int r, .int (nI n), .int (bI true)] (fun v K' F' => v = none ∧ K' = K ∧ F' = gU F (B 10) n (.int r)) := by
  refine g_mM (cc := cX7_hang) (maxL := 4) (ret := none) (by decide) rfl (Nat.le_of_ble_eq_true rfl) ?_
  intro p e s m args below meth c ls Z hsz hx hb hts hown hml hnm hN hW hret hl
  have hl : lv_has ls 4 [(0, .ref m9), (1, .int r), (2, .int (nI n)), (3, .int (bI true))] := hl
  have hown : s.vm.findClass RX7 = some m.cls := hown
  have hi7 : ∀ w ∈ wsX70, w ∈ wsX7_hang := by decide +kernel
  have hfX7_36 : Cond.fieldLink RX7 36 (TX7 10).1 (TX7 10).2.1 (TX7 10).2.2.1 ∈ wsX7_hang := by decide +kernel
  refine lv_iload_n hx hb dX7_hang_0 rfl (lv_at hl 2 rfl) ?_
  refine lv_iconst (v := (-1)) hx hb dX7_hang_1 (by decide) ?_
  refine lv_icmp_ne (tgt := 13) hx hb dX7_hang_2 (by decide) (fun c1 => ?_) (fun c1 => ?_)
  · refine lv_iload_n hx hb dX7_hang_13 rfl (lv_at hl 3 rfl) ?_
    refine lv_if_eq (tgt := 27) hx hb dX7_hang_14 (by decide) (fun c2 => ?_) (fun c2 => ?_)
    · have c2 : true = false := bI_0.mp c2
      cases c2
    · have c2 : true = true := bI_n0.mp c2
      refine lv_aload_n hx hb dX7_hang_17 rfl (lv_at hl 0 rfl) ?_
      refine g_get (C := RX7) (T := TX7) (N := 31) hx hb hts hi7 hown hN hW.1 hk.1 rfl (by decide) 10 (by decide) hfX7_36 (v := .ref (B 10)) (hf 10 rfl) dX7_hang_18 ?_
      refine lv_iload_n hx hb dX7_hang_21 rfl (lv_at hl 2 rfl) ?_
      refine lv_iload_n hx hb dX7_hang_22 rfl (lv_at hl 1 rfl) ?_
      refine g_iast (j := n) hx hb hN hW (hk.2.1 10 (8, 140) rfl) (by decide) (show _ = nI n from rfl) hn dX7_hang_23 (fun H locs hW => ?_)
      refine lv_goto (tgt := 34) hx hb dX7_hang_24 (by decide) ?_
      exact hret none _ _ _ _ _ _ hW (⟨rfl, rfl, rfl⟩) (rt_v dX7_hang_34)
  · exact absurd c1 (oI_n (by omega))

set_option maxHeartbeats 4000000 in
set_option maxRecDepth 100000 in
theorem m_hangR (l : Launch) (Γ : gG) (K : gK) (F : gF) (sz : Nat) (m9 : Nat) (B : Nat → Nat) (hk : MKk K m9 B) (hf : MKf F m9 B) (r : Int32) (n : Nat) (hn : n < 140) : gMM l yX7_hang wsX7_hang 0 0 0 Γ K F sz [.ref m9, .int r, .int (nI n), .int (bI false)] (fun v K' F' => v = none ∧ K' = K ∧ F' = gU F (B 11) n (.int r)) := by
  refine g_mM (cc := cX7_hang) (maxL := 4) (ret := none) (by decide) rfl (Nat.le_of_ble_eq_true rfl) ?_
  intro p e s m args below meth c ls Z hsz hx hb hts hown hml hnm hN hW hret hl
  have hl : lv_has ls 4 [(0, .ref m9), (1, .int r), (2, .int (nI n)), (3, .int (bI false))] := hl
  have hown : s.vm.findClass RX7 = some m.cls := hown
  have hi7 : ∀ w ∈ wsX70, w ∈ wsX7_hang := by decide +kernel
  have hfX7_39 : Cond.fieldLink RX7 39 (TX7 11).1 (TX7 11).2.1 (TX7 11).2.2.1 ∈ wsX7_hang := by decide +kernel
  refine lv_iload_n hx hb dX7_hang_0 rfl (lv_at hl 2 rfl) ?_
  refine lv_iconst (v := (-1)) hx hb dX7_hang_1 (by decide) ?_
  refine lv_icmp_ne (tgt := 13) hx hb dX7_hang_2 (by decide) (fun c1 => ?_) (fun c1 => ?_)
  · refine lv_iload_n hx hb dX7_hang_13 rfl (lv_at hl 3 rfl) ?_
    refine lv_if_eq (tgt := 27) hx hb dX7_hang_14 (by decide) (fun c2 => ?_) (fun c2 => ?_)
    · have c2 : false = false := bI_0.mp c2
      refine lv_aload_n hx hb dX7_hang_27 rfl (lv_at hl 0 rfl) ?_
      refine g_get (C := RX7) (T := TX7) (N := 31) hx hb hts hi7 hown hN hW.1 hk.1 rfl (by decide) 11 (by decide) hfX7_39 (v := .ref (B 11)) (hf 11 rfl) dX7_hang_28 ?_
      refine lv_iload_n hx hb dX7_hang_31 rfl (lv_at hl 2 rfl) ?_
      refine lv_iload_n hx hb dX7_hang_32 rfl (lv_at hl 1 rfl) ?_
      refine g_iast (j := n) hx hb hN hW (hk.2.1 11 (8, 140) rfl) (by decide) (show _ = nI n from rfl) hn dX7_hang_33 (fun H locs hW => ?_)
      exact hret none _ _ _ _ _ _ hW (⟨rfl, rfl, rfl⟩) (rt_v dX7_hang_34)
    · have c2 : false = true := bI_n0.mp c2
      cases c2
  · exact absurd c1 (oI_n (by omega))

set_option maxHeartbeats 4000000 in
set_option maxRecDepth 100000 in
theorem m_isLess (l : Launch) (Γ : gG) (K : gK) (F : gF) (m9 : Nat) (B : Nat → Nat) (hk : MKk K m9 B) (hf : MKf F m9 B) (i n ax : Nat) (pt : Nat → Int32) (y : gLb) (up lf rg : Option Nat) (hi : i < 100) (hax : ax < 4) (hp : ∀ a, a < 4 → F (B 3) (4 * i + a) = .int (pt a)) (hy : RXn F B n y up lf rg) : gMR l yX7_isLess wsX7_isLess 0 Γ K F [.ref m9, .int (nI i), .int (nI n), .int (nI ax)] (some (.int (bI (pLess ax (i, pt) y.1)))) := by
  refine g_mR (cc := cX7_isLess) (maxL := 6) (ret := (some .boolean)) (by decide) rfl (Nat.le_of_ble_eq_true rfl) ?_
  intro p e s m args below meth c ls Z hx hb hts hown hml hN hP hret hl
  have hl : lv_has ls 6 [(0, .ref m9), (1, .int (nI i)), (2, .int (nI n)), (3, .int (nI ax))] := hl
  have hown : s.vm.findClass RX7 = some m.cls := hown
  have hi7 : ∀ w ∈ wsX70, w ∈ wsX7_isLess := by decide +kernel
  have hfX7_17 : Cond.fieldLink RX7 17 (TX7 3).1 (TX7 3).2.1 (TX7 3).2.2.1 ∈ wsX7_isLess := by decide +kernel
  have hfX7_27 : Cond.fieldLink RX7 27 (TX7 7).1 (TX7 7).2.1 (TX7 7).2.2.1 ∈ wsX7_isLess := by decide +kernel
  have hfX7_30 : Cond.fieldLink RX7 30 (TX7 8).1 (TX7 8).2.1 (TX7 8).2.2.1 ∈ wsX7_isLess := by decide +kernel
  have hn := hy.1
  refine lv_aload_n hx hb dX7_isLess_0 rfl (lv_at hl 0 rfl) ?_
  refine g_get (C := RX7) (T := TX7) (N := 31) hx hb hts hi7 hown hN hP hk.1 rfl (by decide) 3 (by decide) hfX7_17 (v := .ref (B 3)) (hf 3 rfl) dX7_isLess_1 ?_
  refine lv_iconst (v := nI 4) hx hb dX7_isLess_4 (by decide) ?_
  refine lv_iload_n hx hb dX7_isLess_5 rfl (lv_at hl 1 rfl) ?_
  refine lv_imul hx hb dX7_isLess_6 ?_
  refine g_asi (show _ = nI (4 * i) from (pk_mul _ _).trans (by rfl)) ?_
  refine lv_iload_n hx hb dX7_isLess_7 rfl (lv_at hl 3 rfl) ?_
  refine lv_iadd hx hb dX7_isLess_8 ?_
  refine g_asi (show _ = nI ((4 * i) + ax) from (nI_add _ _).trans (by rfl)) ?_
  refine g_iald (j := 4 * i + ax) hx hb hN hP (hk.2.1 3 (8, 400) rfl) (by decide) (show _ = nI (4 * i + ax) from rfl) (by omega) (v := .int (pt ax)) (hp ax hax) dX7_isLess_9 ?_
  refine lv_istore (lv' := [(4, .int (pt ax)), (0, .ref m9), (1, .int (nI i)), (2, .int (nI n)), (3, .int (nI ax))]) hx hb dX7_isLess_10 hl (by decide) rfl (fun ls hl => ?_)
  refine lv_aload_n hx hb dX7_isLess_12 rfl (lv_at hl 1 rfl) ?_
  refine g_get (C := RX7) (T := TX7) (N := 31) hx hb hts hi7 hown hN hP hk.1 rfl (by decide) 8 (by decide) hfX7_30 (v := .ref (B 8)) (hf 8 rfl) dX7_isLess_13 ?_
  refine lv_iconst (v := nI 4) hx hb dX7_isLess_16 (by decide) ?_
  refine lv_iload_n hx hb dX7_isLess_17 rfl (lv_at hl 3 rfl) ?_
  refine lv_imul hx hb dX7_isLess_18 ?_
  refine g_asi (show _ = nI (4 * n) from (pk_mul _ _).trans (by rfl)) ?_
  refine lv_iload_n hx hb dX7_isLess_19 rfl (lv_at hl 4 rfl) ?_
  refine lv_iadd hx hb dX7_isLess_20 ?_
  refine g_asi (show _ = nI ((4 * n) + ax) from (nI_add _ _).trans (by rfl)) ?_
  refine g_iald (j := 4 * n + ax) hx hb hN hP (hk.2.1 8 (8, 560) rfl) (by decide) (show _ = nI (4 * n + ax) from rfl) (by omega) (v := .int (y.1.2 ax)) (hy.2.2.2.1 ax hax) dX7_isLess_21 ?_
  refine lv_istore (lv' := [(5, .int (y.1.2 ax)), (4, .int (pt ax)), (0, .ref m9), (1, .int (nI i)), (2, .int (nI n)), (3, .int (nI ax))]) hx hb dX7_isLess_22 hl (by decide) rfl (fun ls hl => ?_)
  refine lv_iload hx hb dX7_isLess_24 (lv_at hl 1 rfl) ?_
  refine lv_iload hx hb dX7_isLess_26 (lv_at hl 0 rfl) ?_
  refine lv_icmp_lt (tgt := 48) hx hb dX7_isLess_28 (by decide) (fun c1 => ?_) (fun c1 => ?_)
  · refine lv_iconst (v := nI 1) hx hb dX7_isLess_48 (by decide) ?_
    refine lv_goto (tgt := 53) hx hb dX7_isLess_49 (by decide) ?_
    refine g_asi (show _ = bI true from bI_t') ?_
    exact hret (some (.int (bI true))) _ _ (by rw [show pLess ax (i, pt) y.1 = true from decide_eq_true (Or.inl c1)]) (rt_z dX7_isLess_53)
  · refine lv_iload hx hb dX7_isLess_31 (lv_at hl 1 rfl) ?_
    refine lv_iload hx hb dX7_isLess_33 (lv_at hl 0 rfl) ?_
    refine lv_icmp_ne (tgt := 52) hx hb dX7_isLess_35 (by decide) (fun c2 => ?_) (fun c2 => ?_)
    · refine lv_iconst (v := nI 0) hx hb dX7_isLess_52 (by decide) ?_
      refine g_asi (show _ = bI false from bI_f') ?_
      exact hret (some (.int (bI false))) _ _ (by rw [show pLess ax (i, pt) y.1 = false from decide_eq_false (fun z => z.elim c1 (fun q => c2 q.1))]) (rt_z dX7_isLess_53)
    · refine lv_iload_n hx hb dX7_isLess_38 rfl (lv_at hl 3 rfl) ?_
      refine lv_aload_n hx hb dX7_isLess_39 rfl (lv_at hl 2 rfl) ?_
      refine g_get (C := RX7) (T := TX7) (N := 31) hx hb hts hi7 hown hN hP hk.1 rfl (by decide) 7 (by decide) hfX7_27 (v := .ref (B 7)) (hf 7 rfl) dX7_isLess_40 ?_
      refine lv_iload_n hx hb dX7_isLess_43 rfl (lv_at hl 4 rfl) ?_
      refine g_iald (j := n) hx hb hN hP (hk.2.1 7 (8, 140) rfl) (by decide) (show _ = nI n from rfl) (by omega) (v := .int (nI y.1.1)) hy.2.2.1 dX7_isLess_44 ?_
      have hy1 := hy.2.1
      refine lv_icmp_ge (tgt := 52) hx hb dX7_isLess_45 (by decide) (fun c3 => ?_) (fun c3 => ?_)
      · have c3 : y.1.1 ≤ i := (nI_leI (by omega) (by omega)).mp c3
        refine lv_iconst (v := nI 0) hx hb dX7_isLess_52 (by decide) ?_
        refine g_asi (show _ = bI false from bI_f') ?_
        exact hret (some (.int (bI false))) _ _ (by rw [show pLess ax (i, pt) y.1 = false from decide_eq_false (fun z => z.elim c1 (fun q => absurd q.2 (Nat.not_lt.mpr c3)))]) (rt_z dX7_isLess_53)
      · have c3 : i < y.1.1 := Nat.not_le.mp (fun z => c3 ((nI_leI (by omega) (by omega)).mpr z))
        refine lv_iconst (v := nI 1) hx hb dX7_isLess_48 (by decide) ?_
        refine lv_goto (tgt := 53) hx hb dX7_isLess_49 (by decide) ?_
        refine g_asi (show _ = bI true from bI_t') ?_
        exact hret (some (.int (bI true))) _ _ (by rw [show pLess ax (i, pt) y.1 = true from decide_eq_true (Or.inr ⟨c2, c3⟩)]) (rt_z dX7_isLess_53)

def upC (F : gF) (B : Nat → Nat) : List Nat → Prop
  | [] => True
  | n :: c => n < 140 ∧ F (B 12) n = .int (oI c.head?) ∧ upC F B c
theorem CX_up {F : gF} {B : Nat → Nat} {m : Nat} : ∀ {c : cxT mLb} {r : Option Nat}, CX F B m c r → upC F B ((cPath c).map (fun y => y.1))
  | [], _, _ => trivial
  | (b, y, o) :: c, r, h => ⟨h.1.1, by
      have q := h.1.2.2.2.2.2.2.2
      rw [q]
      cases c with
      | nil => rfl
      | cons z c => rfl, CX_up h.2.2⟩
theorem upC.head {F : gF} {B : Nat → Nat} {c : List Nat} (h : upC F B c) : ∀ n, c.head? = some n → n < 2 ^ 31 := by
  cases c with
  | nil => intro n q; cases q
  | cons z c => intro n q; cases q; exact Nat.lt_trans h.1 (by decide)

set_option maxHeartbeats 4000000 in
set_option maxRecDepth 100000 in
theorem m_depth (l : Launch) (Γ : gG) (K : gK) (F : gF) (m9 : Nat) (B : Nat → Nat) (hk : MKk K m9 B) (hf : MKf F m9 B) (n : Nat) (c0 : List Nat) (hc0 : upC F B (n :: c0)) : gMR l yX7_depth wsX7_depth 0 Γ K F [.ref m9, .int (nI n)] (some (.int (nI c0.length))) := by
  refine g_mR (cc := cX7_depth) (maxL := 4) (ret := (some .int)) (by decide) rfl (Nat.le_of_ble_eq_true rfl) ?_
  intro p e s m args below meth c ls Z hx hb hts hown hml hN hP hret hl
  have hl : lv_has ls 4 [(0, .ref m9), (1, .int (nI n))] := hl
  have hown : s.vm.findClass RX7 = some m.cls := hown
  have hi7 : ∀ w ∈ wsX70, w ∈ wsX7_depth := by decide +kernel
  have hfX7_42 : Cond.fieldLink RX7 42 (TX7 12).1 (TX7 12).2.1 (TX7 12).2.2.1 ∈ wsX7_depth := by decide +kernel
  obtain ⟨N, hNe⟩ : ∃ N, N = c0.length := ⟨_, rfl⟩
  rw [← hNe] at hret
  have loop : ∀ (cs : List Nat) (k : Nat) (ls : Array Slot), upC F B cs → k + cs.length = N → lv_has ls 4 [(3, .int (oI cs.head?)), (2, .int (nI k)), (0, .ref m9)] → W p l e (gRm 0 0 0) s m args below meth c s.heap [] 0 0 Z (F0 m 9 ls []) := by
    intro cs
    induction cs with
    | nil =>
      intro k ls hc hN9 hl
      refine lv_iload_n hx hb dX7_depth_9 rfl (lv_at hl 0 rfl) ?_
      refine lv_iconst (v := (-1)) hx hb dX7_depth_10 (by decide) ?_
      refine lv_icmp_eq (tgt := 27) hx hb dX7_depth_11 (by decide) (fun c1 => ?_) (fun c1 => ?_)
      · refine lv_iload_n hx hb dX7_depth_27 rfl (lv_at hl 1 rfl) ?_
        exact hret (some (.int (nI k))) _ _ (by rw [show k = N by simpa using hN9]) (rt_i dX7_depth_28)
      · exact absurd rfl c1
    | cons a cs ih =>
      intro k ls hc hN9 hl
      have hl : lv_has ls 4 [(3, .int (nI a)), (2, .int (nI k)), (0, .ref m9)] := hl
      refine lv_iload_n hx hb dX7_depth_9 rfl (lv_at hl 0 rfl) ?_
      refine lv_iconst (v := (-1)) hx hb dX7_depth_10 (by decide) ?_
      refine lv_icmp_eq (tgt := 27) hx hb dX7_depth_11 (by decide) (fun c1 => ?_) (fun c1 => ?_)
      · exact absurd c1 (oI_n (Nat.lt_trans hc.1 (by decide)))
      · refine lv_iinc (v := nI (k + 1)) (lv' := [(2, .int (nI (k + 1))), (3, .int (nI a)), (0, .ref m9)]) hx hb dX7_depth_14 hl (k := 1) rfl (inc1 _) (by decide) rfl (fun ls hl => ?_)
        refine lv_aload_n hx hb dX7_depth_17 rfl (lv_at hl 2 rfl) ?_
        refine g_get (C := RX7) (T := TX7) (N := 31) hx hb hts hi7 hown hN hP hk.1 rfl (by decide) 12 (by decide) hfX7_42 (v := .ref (B 12)) (hf 12 rfl) dX7_depth_18 ?_
        refine lv_iload_n hx hb dX7_depth_21 rfl (lv_at hl 1 rfl) ?_
        refine g_iald (j := a) hx hb hN hP (hk.2.1 12 (8, 140) rfl) (by decide) (show _ = nI a from rfl) hc.1 (v := .int (oI cs.head?)) hc.2.1 dX7_depth_22 ?_
        refine lv_istore_n (lv' := [(3, .int (oI cs.head?)), (2, .int (nI (k + 1))), (0, .ref m9)]) hx hb dX7_depth_23 rfl hl (by decide) rfl (fun ls hl => ?_)
        refine lv_goto (tgt := 9) hx hb dX7_depth_24 (by decide) ?_
        exact ih (k + 1) ls hc.2.2 (by rw [List.length_cons] at hN9; omega) (lv_sub hl [0, 1, 2] rfl)
  refine lv_iconst (v := nI 0) hx hb dX7_depth_0 (by decide) ?_
  refine lv_istore_n (lv' := [(2, .int (nI 0)), (0, .ref m9), (1, .int (nI n))]) hx hb dX7_depth_1 rfl hl (by decide) rfl (fun ls hl => ?_)
  refine lv_aload_n hx hb dX7_depth_2 rfl (lv_at hl 1 rfl) ?_
  refine g_get (C := RX7) (T := TX7) (N := 31) hx hb hts hi7 hown hN hP hk.1 rfl (by decide) 12 (by decide) hfX7_42 (v := .ref (B 12)) (hf 12 rfl) dX7_depth_3 ?_
  refine lv_iload_n hx hb dX7_depth_6 rfl (lv_at hl 2 rfl) ?_
  refine g_iald (j := n) hx hb hN hP (hk.2.1 12 (8, 140) rfl) (by decide) (show _ = nI n from rfl) hc0.1 (v := .int (oI c0.head?)) hc0.2.1 dX7_depth_7 ?_
  refine lv_istore_n (lv' := [(3, .int (oI c0.head?)), (2, .int (nI 0)), (0, .ref m9), (1, .int (nI n))]) hx hb dX7_depth_8 rfl hl (by decide) rfl (fun ls hl => ?_)
  exact loop c0 0 ls hc0.2.2 (by rw [Nat.zero_add, hNe]) (lv_sub hl [0, 1, 2] rfl)
