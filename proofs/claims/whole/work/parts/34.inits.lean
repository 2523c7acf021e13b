def mkC (d : Nat) (x y z w : Int32) : Nat → Int32 := fun k => if k = 0 then x else if k = 1 then (if 1 < d then y else nI 0) else if k = 2 then (if 2 < d then z else nI 0) else if k = 3 then (if 3 < d then w else nI 0) else nI 0

set_option maxHeartbeats 4000000 in
set_option maxRecDepth 100000 in
theorem c_Place (l : Launch) (Γ : gG) (K : gK) (F : gF) (sz : Nat) (h d : Nat) (x y z w : Int32) (hk : K h = some (3, 0)) (hd : d ≤ 4) : gMM l yX3_init wsX3_init 1 0 0 Γ K F sz [.ref h, .int (nI d), .int x, .int y, .int z, .int w] (fun v K' F' => v = none ∧ K' = K ∧ (∀ i, i < 4 → F' h i = .int (mkC d x y z w i)) ∧ ∀ b i, b ≠ h → F' b i = F b i) := by
  refine g_mM (cc := cX3_init) (maxL := 6) (ret := none) (by decide) rfl (Nat.le_of_ble_eq_true rfl) ?_
  intro p e s m args below meth c ls Z hsz hx hb hts hown hml hnm hN hW hret hl
  have hl : lv_has ls 6 [(0, .ref h), (1, .int (nI d)), (2, .int x), (3, .int y), (4, .int z), (5, .int w)] := hl
  have hown : s.vm.findClass RX3 = some m.cls := hown
  have hi3 : ∀ w ∈ wsX30, w ∈ wsX3_init := by decide +kernel
  have hfX3_7 : Cond.fieldLink RX3 7 (TX3 0).1 (TX3 0).2.1 (TX3 0).2.2.1 ∈ wsX3_init := by decide +kernel
  have hfX3_13 : Cond.fieldLink RX3 13 (TX3 1).1 (TX3 1).2.1 (TX3 1).2.2.1 ∈ wsX3_init := by decide +kernel
  have hfX3_16 : Cond.fieldLink RX3 16 (TX3 2).1 (TX3 2).2.1 (TX3 2).2.2.1 ∈ wsX3_init := by decide +kernel
  have hfX3_19 : Cond.fieldLink RX3 19 (TX3 3).1 (TX3 3).2.1 (TX3 3).2.2.1 ∈ wsX3_init := by decide +kernel
  refine lv_aload_n hx hb dX3_init_0 rfl (lv_at hl 0 rfl) ?_
  refine W.objInit hx hb hown (hts _ (show Cond.methodLink RX3 1 objectInit ∈ _ by decide +kernel)) (hts _ (show Cond.instanceMethod objectInit ∈ _ by decide +kernel)) (hts _ (show Cond.code objectInit ⟨#[0xb1]⟩ 1 none ∈ _ by decide +kernel)) rfl (by rw [hml]; exact hl.1) rfl dX3_init_1 (by decide) (Nat.le_of_ble_eq_true rfl) ?_
  refine W.eq (g2 := F0 m 4 ls []) rfl ?_
  refine lv_aload_n hx hb dX3_init_4 rfl (lv_at hl 0 rfl) ?_
  refine lv_iload_n hx hb dX3_init_5 rfl (lv_at hl 2 rfl) ?_
  refine g_putF (C := RX3) (T := TX3) (N := 4) hx hb hts hi3 tyX3 tyX3_ok nmX3 hown hN hW hk rfl (by decide) 0 (by decide) hfX3_7 rfl hnm rfl rfl rfl dX3_init_6 (fun H locs hW => ?_)
  refine lv_aload_n hx hb dX3_init_9 rfl (lv_at hl 0 rfl) ?_
  refine lv_iload_n hx hb dX3_init_10 rfl (lv_at hl 1 rfl) ?_
  refine lv_iconst (v := nI 1) hx hb dX3_init_11 (by decide) ?_
  refine lv_icmp_le (tgt := 19) hx hb dX3_init_12 (by decide) (fun c1 => ?_) (fun c1 => ?_)
  · have c1 : d ≤ 1 := (nI_leI (by omega) (by omega)).mp c1
    refine lv_iconst (v := nI 0) hx hb dX3_init_19 (by decide) ?_
    refine g_putF (C := RX3) (T := TX3) (N := 4) hx hb hts hi3 tyX3 tyX3_ok nmX3 hown hN hW hk rfl (by decide) 1 (by decide) hfX3_13 rfl hnm rfl rfl rfl dX3_init_20 (fun H locs hW => ?_)
    refine lv_aload_n hx hb dX3_init_23 rfl (lv_at hl 0 rfl) ?_
    refine lv_iload_n hx hb dX3_init_24 rfl (lv_at hl 1 rfl) ?_
    refine lv_iconst (v := nI 2) hx hb dX3_init_25 (by decide) ?_
    refine lv_icmp_le (tgt := 34) hx hb dX3_init_26 (by decide) (fun c2 => ?_) (fun c2 => ?_)
    · have c2 : d ≤ 2 := (nI_leI (by omega) (by omega)).mp c2
      refine lv_iconst (v := nI 0) hx hb dX3_init_34 (by decide) ?_
      refine g_putF (C := RX3) (T := TX3) (N := 4) hx hb hts hi3 tyX3 tyX3_ok nmX3 hown hN hW hk rfl (by decide) 2 (by decide) hfX3_16 rfl hnm rfl rfl rfl dX3_init_35 (fun H locs hW => ?_)
      refine lv_aload_n hx hb dX3_init_38 rfl (lv_at hl 0 rfl) ?_
      refine lv_iload_n hx hb dX3_init_39 rfl (lv_at hl 1 rfl) ?_
      refine lv_iconst (v := nI 3) hx hb dX3_init_40 (by decide) ?_
      refine lv_icmp_le (tgt := 49) hx hb dX3_init_41 (by decide) (fun c3 => ?_) (fun c3 => ?_)
      · have c3 : d ≤ 3 := (nI_leI (by omega) (by omega)).mp c3
        refine lv_iconst (v := nI 0) hx hb dX3_init_49 (by decide) ?_
        refine g_putF (C := RX3) (T := TX3) (N := 4) hx hb hts hi3 tyX3 tyX3_ok nmX3 hown hN hW hk rfl (by decide) 3 (by decide) hfX3_19 rfl hnm rfl rfl rfl dX3_init_50 (fun H locs hW => ?_)
        exact hret none _ _ _ _ _ _ hW (⟨rfl, rfl, fun i hi => by
            rcases (show i = 0 ∨ i = 1 ∨ i = 2 ∨ i = 3 by omega) with rfl | rfl | rfl | rfl
            · rw [gU_k (by decide), gU_k (by decide), gU_k (by decide), gU_self]; rfl
            · rw [gU_k (by decide), gU_k (by decide), gU_self]; simp [mkC, Nat.not_lt.mpr c1]
            · rw [gU_k (by decide), gU_self]; simp [mkC, Nat.not_lt.mpr c2]
            · rw [gU_self]; simp [mkC, Nat.not_lt.mpr c3], fun b i hb => by rw [gU_a hb, gU_a hb, gU_a hb, gU_a hb]⟩) (rt_v dX3_init_53)
      · have c3 : 3 < d := Nat.not_le.mp (fun z => c3 ((nI_leI (by omega) (by omega)).mpr z))
        refine lv_iload hx hb dX3_init_44 (lv_at hl 5 rfl) ?_
        refine lv_goto (tgt := 50) hx hb dX3_init_46 (by decide) ?_
        refine g_putF (C := RX3) (T := TX3) (N := 4) hx hb hts hi3 tyX3 tyX3_ok nmX3 hown hN hW hk rfl (by decide) 3 (by decide) hfX3_19 rfl hnm rfl rfl rfl dX3_init_50 (fun H locs hW => ?_)
        exact hret none _ _ _ _ _ _ hW (⟨rfl, rfl, fun i hi => by
            rcases (show i = 0 ∨ i = 1 ∨ i = 2 ∨ i = 3 by omega) with rfl | rfl | rfl | rfl
            · rw [gU_k (by decide), gU_k (by decide), gU_k (by decide), gU_self]; rfl
            · rw [gU_k (by decide), gU_k (by decide), gU_self]; simp [mkC, Nat.not_lt.mpr c1]
            · rw [gU_k (by decide), gU_self]; simp [mkC, Nat.not_lt.mpr c2]
            · rw [gU_self]; simp [mkC, c3], fun b i hb => by rw [gU_a hb, gU_a hb, gU_a hb, gU_a hb]⟩) (rt_v dX3_init_53)
    · have c2 : 2 < d := Nat.not_le.mp (fun z => c2 ((nI_leI (by omega) (by omega)).mpr z))
      refine lv_iload hx hb dX3_init_29 (lv_at hl 4 rfl) ?_
      refine lv_goto (tgt := 35) hx hb dX3_init_31 (by decide) ?_
      refine g_putF (C := RX3) (T := TX3) (N := 4) hx hb hts hi3 tyX3 tyX3_ok nmX3 hown hN hW hk rfl (by decide) 2 (by decide) hfX3_16 rfl hnm rfl rfl rfl dX3_init_35 (fun H locs hW => ?_)
      refine lv_aload_n hx hb dX3_init_38 rfl (lv_at hl 0 rfl) ?_
      refine lv_iload_n hx hb dX3_init_39 rfl (lv_at hl 1 rfl) ?_
      refine lv_iconst (v := nI 3) hx hb dX3_init_40 (by decide) ?_
      refine lv_icmp_le (tgt := 49) hx hb dX3_init_41 (by decide) (fun c3 => ?_) (fun c3 => ?_)
      · have c3 : d ≤ 3 := (nI_leI (by omega) (by omega)).mp c3
        refine lv_iconst (v := nI 0) hx hb dX3_init_49 (by decide) ?_
        refine g_putF (C := RX3) (T := TX3) (N := 4) hx hb hts hi3 tyX3 tyX3_ok nmX3 hown hN hW hk rfl (by decide) 3 (by decide) hfX3_19 rfl hnm rfl rfl rfl dX3_init_50 (fun H locs hW => ?_)
        exact hret none _ _ _ _ _ _ hW (⟨rfl, rfl, fun i hi => by
            rcases (show i = 0 ∨ i = 1 ∨ i = 2 ∨ i = 3 by omega) with rfl | rfl | rfl | rfl
            · rw [gU_k (by decide), gU_k (by decide), gU_k (by decide), gU_self]; rfl
            · rw [gU_k (by decide), gU_k (by decide), gU_self]; simp [mkC, Nat.not_lt.mpr c1]
            · rw [gU_k (by decide), gU_self]; simp [mkC, c2]
            · rw [gU_self]; simp [mkC, Nat.not_lt.mpr c3], fun b i hb => by rw [gU_a hb, gU_a hb, gU_a hb, gU_a hb]⟩) (rt_v dX3_init_53)
      · have c3 : 3 < d := Nat.not_le.mp (fun z => c3 ((nI_leI (by omega) (by omega)).mpr z))
        refine lv_iload hx hb dX3_init_44 (lv_at hl 5 rfl) ?_
        refine lv_goto (tgt := 50) hx hb dX3_init_46 (by decide) ?_
        refine g_putF (C := RX3) (T := TX3) (N := 4) hx hb hts hi3 tyX3 tyX3_ok nmX3 hown hN hW hk rfl (by decide) 3 (by decide) hfX3_19 rfl hnm rfl rfl rfl dX3_init_50 (fun H locs hW => ?_)
        exact hret none _ _ _ _ _ _ hW (⟨rfl, rfl, fun i hi => by
            rcases (show i = 0 ∨ i = 1 ∨ i = 2 ∨ i = 3 by omega) with rfl | rfl | rfl | rfl
            · rw [gU_k (by decide), gU_k (by decide), gU_k (by decide), gU_self]; rfl
            · rw [gU_k (by decide), gU_k (by decide), gU_self]; simp [mkC, Nat.not_lt.mpr c1]
            · rw [gU_k (by decide), gU_self]; simp [mkC, c2]
            · rw [gU_self]; simp [mkC, c3], fun b i hb => by rw [gU_a hb, gU_a hb, gU_a hb, gU_a hb]⟩) (rt_v dX3_init_53)
  · have c1 : 1 < d := Nat.not_le.mp (fun z => c1 ((nI_leI (by omega) (by omega)).mpr z))
    refine lv_iload_n hx hb dX3_init_15 rfl (lv_at hl 3 rfl) ?_
    refine lv_goto (tgt := 20) hx hb dX3_init_16 (by decide) ?_
    refine g_putF (C := RX3) (T := TX3) (N := 4) hx hb hts hi3 tyX3 tyX3_ok nmX3 hown hN hW hk rfl (by decide) 1 (by decide) hfX3_13 rfl hnm rfl rfl rfl dX3_init_20 (fun H locs hW => ?_)
    refine lv_aload_n hx hb dX3_init_23 rfl (lv_at hl 0 rfl) ?_
    refine lv_iload_n hx hb dX3_init_24 rfl (lv_at hl 1 rfl) ?_
    refine lv_iconst (v := nI 2) hx hb dX3_init_25 (by decide) ?_
    refine lv_icmp_le (tgt := 34) hx hb dX3_init_26 (by decide) (fun c2 => ?_) (fun c2 => ?_)
    · have c2 : d ≤ 2 := (nI_leI (by omega) (by omega)).mp c2
      refine lv_iconst (v := nI 0) hx hb dX3_init_34 (by decide) ?_
      refine g_putF (C := RX3) (T := TX3) (N := 4) hx hb hts hi3 tyX3 tyX3_ok nmX3 hown hN hW hk rfl (by decide) 2 (by decide) hfX3_16 rfl hnm rfl rfl rfl dX3_init_35 (fun H locs hW => ?_)
      refine lv_aload_n hx hb dX3_init_38 rfl (lv_at hl 0 rfl) ?_
      refine lv_iload_n hx hb dX3_init_39 rfl (lv_at hl 1 rfl) ?_
      refine lv_iconst (v := nI 3) hx hb dX3_init_40 (by decide) ?_
      refine lv_icmp_le (tgt := 49) hx hb dX3_init_41 (by decide) (fun c3 => ?_) (fun c3 => ?_)
      · have c3 : d ≤ 3 := (nI_leI (by omega) (by omega)).mp c3
        refine lv_iconst (v := nI 0) hx hb dX3_init_49 (by decide) ?_
        refine g_putF (C := RX3) (T := TX3) (N := 4) hx hb hts hi3 tyX3 tyX3_ok nmX3 hown hN hW hk rfl (by decide) 3 (by decide) hfX3_19 rfl hnm rfl rfl rfl dX3_init_50 (fun H locs hW => ?_)
        exact hret none _ _ _ _ _ _ hW (⟨rfl, rfl, fun i hi => by
            rcases (show i = 0 ∨ i = 1 ∨ i = 2 ∨ i = 3 by omega) with rfl | rfl | rfl | rfl
            · rw [gU_k (by decide), gU_k (by decide), gU_k (by decide), gU_self]; rfl
            · rw [gU_k (by decide), gU_k (by decide), gU_self]; simp [mkC, c1]
            · rw [gU_k (by decide), gU_self]; simp [mkC, Nat.not_lt.mpr c2]
            · rw [gU_self]; simp [mkC, Nat.not_lt.mpr c3], fun b i hb => by rw [gU_a hb, gU_a hb, gU_a hb, gU_a hb]⟩) (rt_v dX3_init_53)
      · have c3 : 3 < d := Nat.not_le.mp (fun z => c3 ((nI_leI (by omega) (by omega)).mpr z))
        refine lv_iload hx hb dX3_init_44 (lv_at hl 5 rfl) ?_
        refine lv_goto (tgt := 50) hx hb dX3_init_46 (by decide) ?_
        refine g_putF (C := RX3) (T := TX3) (N := 4) hx hb hts hi3 tyX3 tyX3_ok nmX3 hown hN hW hk rfl (by decide) 3 (by decide) hfX3_19 rfl hnm rfl rfl rfl dX3_init_50 (fun H locs hW => ?_)
        exact hret none _ _ _ _ _ _ hW (⟨rfl, rfl, fun i hi => by
            rcases (show i = 0 ∨ i = 1 ∨ i = 2 ∨ i = 3 by omega) with rfl | rfl | rfl | rfl
            · rw [gU_k (by decide), gU_k (by decide), gU_k (by decide), gU_self]; rfl
            · rw [gU_k (by decide), gU_k (by decide), gU_self]; simp [mkC, c1]
            · rw [gU_k (by decide), gU_self]; simp [mkC, Nat.not_lt.mpr c2]
            · rw [gU_self]; simp [mkC, c3], fun b i hb => by rw [gU_a hb, gU_a hb, gU_a hb, gU_a hb]⟩) (rt_v dX3_init_53)
    · have c2 : 2 < d := Nat.not_le.mp (fun z => c2 ((nI_leI (by omega) (by omega)).mpr z))
      refine lv_iload hx hb dX3_init_29 (lv_at hl 4 rfl) ?_
      refine lv_goto (tgt := 35) hx hb dX3_init_31 (by decide) ?_
      refine g_putF (C := RX3) (T := TX3) (N := 4) hx hb hts hi3 tyX3 tyX3_ok nmX3 hown hN hW hk rfl (by decide) 2 (by decide) hfX3_16 rfl hnm rfl rfl rfl dX3_init_35 (fun H locs hW => ?_)
      refine lv_aload_n hx hb dX3_init_38 rfl (lv_at hl 0 rfl) ?_
      refine lv_iload_n hx hb dX3_init_39 rfl (lv_at hl 1 rfl) ?_
      refine lv_iconst (v := nI 3) hx hb dX3_init_40 (by decide) ?_
      refine lv_icmp_le (tgt := 49) hx hb dX3_init_41 (by decide) (fun c3 => ?_) (fun c3 => ?_)
      · have c3 : d ≤ 3 := (nI_leI (by omega) (by omega)).mp c3
        refine lv_iconst (v := nI 0) hx hb dX3_init_49 (by decide) ?_
        refine g_putF (C := RX3) (T := TX3) (N := 4) hx hb hts hi3 tyX3 tyX3_ok nmX3 hown hN hW hk rfl (by decide) 3 (by decide) hfX3_19 rfl hnm rfl rfl rfl dX3_init_50 (fun H locs hW => ?_)
        exact hret none _ _ _ _ _ _ hW (⟨rfl, rfl, fun i hi => by
            rcases (show i = 0 ∨ i = 1 ∨ i = 2 ∨ i = 3 by omega) with rfl | rfl | rfl | rfl
            · rw [gU_k (by decide), gU_k (by decide), gU_k (by decide), gU_self]; rfl
            · rw [gU_k (by decide), gU_k (by decide), gU_self]; simp [mkC, c1]
            · rw [gU_k (by decide), gU_self]; simp [mkC, c2]
            · rw [gU_self]; simp [mkC, Nat.not_lt.mpr c3], fun b i hb => by rw [gU_a hb, gU_a hb, gU_a hb, gU_a hb]⟩) (rt_v dX3_init_53)
      · have c3 : 3 < d := Nat.not_le.mp (fun z => c3 ((nI_leI (by omega) (by omega)).mpr z))
        refine lv_iload hx hb dX3_init_44 (lv_at hl 5 rfl) ?_
        refine lv_goto (tgt := 50) hx hb dX3_init_46 (by decide) ?_
        refine g_putF (C := RX3) (T := TX3) (N := 4) hx hb hts hi3 tyX3 tyX3_ok nmX3 hown hN hW hk rfl (by decide) 3 (by decide) hfX3_19 rfl hnm rfl rfl rfl dX3_init_50 (fun H locs hW => ?_)
        exact hret none _ _ _ _ _ _ hW (⟨rfl, rfl, fun i hi => by
            rcases (show i = 0 ∨ i = 1 ∨ i = 2 ∨ i = 3 by omega) with rfl | rfl | rfl | rfl
            · rw [gU_k (by decide), gU_k (by decide), gU_k (by decide), gU_self]; rfl
            · rw [gU_k (by decide), gU_k (by decide), gU_self]; simp [mkC, c1]
            · rw [gU_k (by decide), gU_self]; simp [mkC, c2]
            · rw [gU_self]; simp [mkC, c3], fun b i hb => by rw [gU_a hb, gU_a hb, gU_a hb, gU_a hb]⟩) (rt_v dX3_init_53)

set_option maxHeartbeats 4000000 in
set_option maxRecDepth 100000 in
theorem c_Node (l : Launch) (Γ : gG) (K : gK) (F : gF) (sz : Nat) (h i q : Nat) (hk : K h = some (2, 0)) : gMM l yX2_init wsX2_init 1 0 0 Γ K F sz [.ref h, .int (nI i), .ref q] (fun v K' F' => v = none ∧ K' = K ∧ F' = gU (gU (gU F h 0 (.int (nI i))) h 1 (.ref q)) h 5 (.int (nI 1))) := by
  refine g_mM (cc := cX2_init) (maxL := 3) (ret := none) (by decide) rfl (Nat.le_of_ble_eq_true rfl) ?_
  intro p e s m args below meth c ls Z hsz hx hb hts hown hml hnm hN hW hret hl
  have hl : lv_has ls 3 [(0, .ref h), (1, .int (nI i)), (2, .ref q)] := hl
  have hown : s.vm.findClass RX2 = some m.cls := hown
  have hi2 : ∀ w ∈ wsX20, w ∈ wsX2_init := by decide +kernel
  have hfX2_7 : Cond.fieldLink RX2 7 (TX2 0).1 (TX2 0).2.1 (TX2 0).2.2.1 ∈ wsX2_init := by decide +kernel
  have hfX2_13 : Cond.fieldLink RX2 13 (TX2 1).1 (TX2 1).2.1 (TX2 1).2.2.1 ∈ wsX2_init := by decide +kernel
  have hfX2_17 : Cond.fieldLink RX2 17 (TX2 5).1 (TX2 5).2.1 (TX2 5).2.2.1 ∈ wsX2_init := by decide +kernel
  refine lv_aload_n hx hb dX2_init_0 rfl (lv_at hl 0 rfl) ?_
  refine W.objInit hx hb hown (hts _ (show Cond.methodLink RX2 1 objectInit ∈ _ by decide +kernel)) (hts _ (show Cond.instanceMethod objectInit ∈ _ by decide +kernel)) (hts _ (show Cond.code objectInit ⟨#[0xb1]⟩ 1 none ∈ _ by decide +kernel)) rfl (by rw [hml]; exact hl.1) rfl dX2_init_1 (by decide) (Nat.le_of_ble_eq_true rfl) ?_
  refine W.eq (g2 := F0 m 4 ls []) rfl ?_
  refine lv_aload_n hx hb dX2_init_4 rfl (lv_at hl 0 rfl) ?_
  refine lv_iload_n hx hb dX2_init_5 rfl (lv_at hl 1 rfl) ?_
  refine g_putF (C := RX2) (T := TX2) (N := 9) hx hb hts hi2 tyX2 tyX2_ok nmX2 hown hN hW hk rfl (by decide) 0 (by decide) hfX2_7 rfl hnm rfl rfl rfl dX2_init_6 (fun H locs hW => ?_)
  refine lv_aload_n hx hb dX2_init_9 rfl (lv_at hl 0 rfl) ?_
  refine lv_aload_n hx hb dX2_init_10 rfl (lv_at hl 2 rfl) ?_
  refine g_putF (C := RX2) (T := TX2) (N := 9) hx hb hts hi2 tyX2 tyX2_ok nmX2 hown hN hW hk rfl (by decide) 1 (by decide) hfX2_13 rfl hnm rfl rfl rfl dX2_init_11 (fun H locs hW => ?_)
  refine lv_aload_n hx hb dX2_init_14 rfl (lv_at hl 0 rfl) ?_
  refine lv_iconst (v := nI 1) hx hb dX2_init_15 (by decide) ?_
  refine g_put (C := RX2) (T := TX2) (N := 9) hx hb hts hi2 tyX2 tyX2_ok nmX2 hown hN hW hk rfl (by decide) 5 (by decide) hfX2_17 rfl rfl rfl dX2_init_16 (fun H locs hW => ?_)
  exact hret none _ _ _ _ _ _ hW (⟨rfl, rfl, rfl⟩) (rt_v dX2_init_19)

set_option maxHeartbeats 4000000 in
set_option maxRecDepth 100000 in
theorem c_Search (l : Launch) (Γ : gG) (K : gK) (F : gF) (sz : Nat) (h q g : Nat) (hk : K h = some (4, 0)) : gMM l yX4_init wsX4_init 1 0 0 Γ K F sz [.ref h, .ref q, .ref g] (fun v K' F' => v = none ∧ K' = K ∧ F' = gU (gU F h 0 (.ref q)) h 1 (.ref g)) := by
  refine g_mM (cc := cX4_init) (maxL := 3) (ret := none) (by decide) rfl (Nat.le_of_ble_eq_true rfl) ?_
  intro p e s m args below meth c ls Z hsz hx hb hts hown hml hnm hN hW hret hl
  have hl : lv_has ls 3 [(0, .ref h), (1, .ref q), (2, .ref g)] := hl
  have hown : s.vm.findClass RX4 = some m.cls := hown
  have hi4 : ∀ w ∈ wsX40, w ∈ wsX4_init := by decide +kernel
  have hfX4_9 : Cond.fieldLink RX4 9 (TX4 0).1 (TX4 0).2.1 (TX4 0).2.2.1 ∈ wsX4_init := by decide +kernel
  have hfX4_15 : Cond.fieldLink RX4 15 (TX4 1).1 (TX4 1).2.1 (TX4 1).2.2.1 ∈ wsX4_init := by decide +kernel
  refine lv_aload_n hx hb dX4_init_0 rfl (lv_at hl 0 rfl) ?_
  refine W.objInit hx hb hown (hts _ (show Cond.methodLink RX4 3 objectInit ∈ _ by decide +kernel)) (hts _ (show Cond.instanceMethod objectInit ∈ _ by decide +kernel)) (hts _ (show Cond.code objectInit ⟨#[0xb1]⟩ 1 none ∈ _ by decide +kernel)) rfl (by rw [hml]; exact hl.1) rfl dX4_init_1 (by decide) (Nat.le_of_ble_eq_true rfl) ?_
  refine W.eq (g2 := F0 m 4 ls []) rfl ?_
  refine lv_aload_n hx hb dX4_init_4 rfl (lv_at hl 0 rfl) ?_
  refine lv_aload_n hx hb dX4_init_5 rfl (lv_at hl 1 rfl) ?_
  refine g_putF (C := RX4) (T := TX4) (N := 3) hx hb hts hi4 tyX4 tyX4_ok nmX4 hown hN hW hk rfl (by decide) 0 (by decide) hfX4_9 rfl hnm rfl rfl rfl dX4_init_6 (fun H locs hW => ?_)
  refine lv_aload_n hx hb dX4_init_9 rfl (lv_at hl 0 rfl) ?_
  refine lv_aload_n hx hb dX4_init_10 rfl (lv_at hl 2 rfl) ?_
  refine g_putF (C := RX4) (T := TX4) (N := 3) hx hb hts hi4 tyX4 tyX4_ok nmX4 hown hN hW hk rfl (by decide) 1 (by decide) hfX4_15 rfl hnm rfl rfl rfl dX4_init_11 (fun H locs hW => ?_)
  exact hret none _ _ _ _ _ _ hW (⟨rfl, rfl, rfl⟩) (rt_v dX4_init_14)

/-- what a constructor leaves: its object's cells, what it made, all else as it was -/
def gExt (K K' : gK) (F F' : gF) (h : Nat) (new : List (Nat × Nat × Nat)) : Prop := (∀ a k, K a = some k → K' a = some k) ∧ (∀ q ∈ new, K q.1 = none ∧ K' q.1 = some q.2) ∧ ∀ b i k, K b = some k → b ≠ h → F' b i = F b i

set_option maxHeartbeats 4000000 in
set_option maxRecDepth 100000 in
theorem c_NearList (l : Launch) (Γ : gG) (K : gK) (F : gF) (sz : Nat) (h : Nat) (hk : K h = some (1, 0)) : gMM l yX1_init wsX1_init 1 2 200 Γ K F sz [.ref h] (fun v K' F' => v = none ∧ ∃ q1 q2, gExt K K' F F' h [(q1, 8, 100), (q2, 9, 100)] ∧ F' h 0 = .ref q1 ∧ F' h 1 = .ref q2 ∧ F' h 2 = F h 2 ∧ F' h 3 = F h 3) := by
  refine g_mM (cc := cX1_init) (maxL := 1) (ret := none) (by decide) rfl (Nat.le_of_ble_eq_true rfl) ?_
  intro p e s m args below meth c ls Z hsz hx hb hts hown hml hnm hN hW hret hl
  have hl : lv_has ls 1 [(0, .ref h)] := hl
  have hown : s.vm.findClass RX1 = some m.cls := hown
  have hi1 : ∀ w ∈ wsX10, w ∈ wsX1_init := by decide +kernel
  have hfX1_9 : Cond.fieldLink RX1 9 (TX1 0).1 (TX1 0).2.1 (TX1 0).2.2.1 ∈ wsX1_init := by decide +kernel
  have hfX1_15 : Cond.fieldLink RX1 15 (TX1 1).1 (TX1 1).2.1 (TX1 1).2.2.1 ∈ wsX1_init := by decide +kernel
  refine lv_aload_n hx hb dX1_init_0 rfl (lv_at hl 0 rfl) ?_
  refine W.objInit hx hb hown (hts _ (show Cond.methodLink RX1 3 objectInit ∈ _ by decide +kernel)) (hts _ (show Cond.instanceMethod objectInit ∈ _ by decide +kernel)) (hts _ (show Cond.code objectInit ⟨#[0xb1]⟩ 1 none ∈ _ by decide +kernel)) rfl (by rw [hml]; exact hl.1) rfl dX1_init_1 (by decide) (Nat.le_of_ble_eq_true rfl) ?_
  refine W.eq (g2 := F0 m 4 ls []) rfl ?_
  refine lv_aload_n hx hb dX1_init_4 rfl (lv_at hl 0 rfl) ?_
  refine lv_bipush (v := nI 100) hx hb dX1_init_5 (by decide) ?_
  refine g_newa (t := 0) (N := 100) hx hb hts (by decide +kernel) (ty := .int) rfl hN hW rfl (fun h => h) rfl (by decide) (by decide) (Nat.le_of_ble_eq_true rfl) (Nat.le_of_ble_eq_true rfl) dX1_init_7 (fun q1 H hqe_q1 hq_q1 hW => ?_)
  refine g_putF (C := RX1) (T := TX1) (N := 4) hx hb hts hi1 tyX1 tyX1_ok nmX1 hown hN hW (kup hq_q1 hk) rfl (by decide) 0 (by decide) hfX1_9 rfl hnm rfl rfl rfl dX1_init_9 (fun H locs hW => ?_)
  refine lv_aload_n hx hb dX1_init_12 rfl (lv_at hl 0 rfl) ?_
  refine lv_bipush (v := nI 100) hx hb dX1_init_13 (by decide) ?_
  refine g_newa (t := 1) (N := 100) hx hb hts (by decide +kernel) (ty := .long) rfl hN hW rfl (fun h => h) rfl (by decide) (by decide) (Nat.le_of_ble_eq_true rfl) (Nat.le_of_ble_eq_true rfl) dX1_init_15 (fun q2 H hqe_q2 hq_q2 hW => ?_)
  refine g_putF (C := RX1) (T := TX1) (N := 4) hx hb hts hi1 tyX1 tyX1_ok nmX1 hown hN hW (kup hq_q2 (kup hq_q1 hk)) rfl (by decide) 1 (by decide) hfX1_15 rfl hnm rfl rfl rfl dX1_init_17 (fun H locs hW => ?_)
  exact hret none _ _ _ _ _ _ hW (by
      have n1 : h ≠ q1 := fun z => by rw [← z, hk] at hq_q1; cases hq_q1
      have hk1 := kup (k' := (8, 100)) hq_q1 hk
      have n2 : h ≠ q2 := fun z => by rw [← z, hk1] at hq_q2; cases hq_q2
      have n3 : q1 ≠ q2 := fun z => by rw [← z, va_up_self] at hq_q2; cases hq_q2
      have hq2 : K q2 = none := by rw [va_up_ne _ _ (Ne.symm n3)] at hq_q2; exact hq_q2
      refine ⟨rfl, q1, q2, ⟨fun a k ha => kup hq_q2 (kup hq_q1 ha), fun q hq => ?_, fun b i k hb hbh => ?_⟩, ?_, ?_, ?_⟩
      · rcases List.mem_cons.mp hq with rfl | hq
        · exact ⟨hq_q1, kup hq_q2 (va_up_self _ _ _)⟩
        · rw [List.mem_singleton.mp hq]; exact ⟨hq2, va_up_self _ _ _⟩
      · rw [gU_a hbh, fup' hq_q2 (kup hq_q1 hb), gU_a hbh, fup' hq_q1 hb]
      · rw [gU_k (by decide), fup' hq_q2 hk1, gU_self]
      · exact gU_self
      · exact ⟨by rw [gU_k (by decide), fup' hq_q2 hk1, gU_k (by decide), fup' hq_q1 hk], by rw [gU_k (by decide), fup' hq_q2 hk1, gU_k (by decide), fup' hq_q1 hk]⟩) (rt_v dX1_init_20)

set_option maxHeartbeats 4000000 in
set_option maxRecDepth 100000 in
theorem c_Tree (l : Launch) (Γ : gG) (K : gK) (F : gF) (sz : Nat) (h d : Nat) (hk : K h = some (5, 0)) : gMC l yX5_init wsX5_init 1 1 60 Γ K F sz [.ref h, .int (nI d)] (fun v K' F' => v = none ∧ ∃ q1, gExt K K' F F' h [(q1, 11, 60)] ∧ F' h 0 = .int (nI d) ∧ F' h 1 = .ref q1 ∧ F' h 2 = F h 2 ∧ F' h 3 = F h 3) := by
  refine g_mC (cc := cX5_init) (maxL := 2) (ret := none) (by decide) rfl (Nat.le_of_ble_eq_true rfl) ?_
  intro p e s m args below meth c ls Z hsz hx hb hts hown hml hnm hA9 hN hW hret hl
  have hl : lv_has ls 2 [(0, .ref h), (1, .int (nI d))] := hl
  have hown : s.vm.findClass RX5 = some m.cls := hown
  have hi5 : ∀ w ∈ wsX50, w ∈ wsX5_init := by decide +kernel
  have hfX5_9 : Cond.fieldLink RX5 9 (TX5 0).1 (TX5 0).2.1 (TX5 0).2.2.1 ∈ wsX5_init := by decide +kernel
  have hfX5_17 : Cond.fieldLink RX5 17 (TX5 1).1 (TX5 1).2.1 (TX5 1).2.2.1 ∈ wsX5_init := by decide +kernel
  refine lv_aload_n hx hb dX5_init_0 rfl (lv_at hl 0 rfl) ?_
  refine W.objInit hx hb hown (hts _ (show Cond.methodLink RX5 3 objectInit ∈ _ by decide +kernel)) (hts _ (show Cond.instanceMethod objectInit ∈ _ by decide +kernel)) (hts _ (show Cond.code objectInit ⟨#[0xb1]⟩ 1 none ∈ _ by decide +kernel)) rfl (by rw [hml]; exact hl.1) rfl dX5_init_1 (by decide) (Nat.le_of_ble_eq_true rfl) ?_
  refine W.eq (g2 := F0 m 4 ls []) rfl ?_
  refine lv_aload_n hx hb dX5_init_4 rfl (lv_at hl 0 rfl) ?_
  refine lv_iload_n hx hb dX5_init_5 rfl (lv_at hl 1 rfl) ?_
  refine g_putF (C := RX5) (T := TX5) (N := 4) hx hb hts hi5 tyX5 tyX5_ok nmX5 hown hN hW hk rfl (by decide) 0 (by decide) hfX5_9 rfl hnm rfl rfl rfl dX5_init_6 (fun H locs hW => ?_)
  refine lv_aload_n hx hb dX5_init_9 rfl (lv_at hl 0 rfl) ?_
  refine lv_bipush (v := nI 60) hx hb dX5_init_10 (by decide) ?_
  refine g_newq (N := 60) hx hb hts hown (show Cond.classLink RX5 15 "NearTree$Node" ∈ _ by decide +kernel) hA9 hN hW rfl (by decide) (Nat.le_of_ble_eq_true rfl) (Nat.le_of_ble_eq_true rfl) dX5_init_12 (fun q1 H hqe_q1 hq_q1 hW => ?_)
  refine g_putF (C := RX5) (T := TX5) (N := 4) hx hb hts hi5 tyX5 tyX5_ok nmX5 hown hN hW (kup hq_q1 hk) rfl (by decide) 1 (by decide) hfX5_17 rfl hnm rfl rfl rfl dX5_init_15 (fun H locs hW => ?_)
  exact hret none _ _ _ _ _ _ hW (by
      have n1 : h ≠ q1 := fun z => by rw [← z, hk] at hq_q1; cases hq_q1
      refine ⟨rfl, q1, ⟨fun a k ha => kup hq_q1 ha, fun q hq => ?_, fun b i k hb hbh => ?_⟩, ?_, ?_, ?_⟩
      · rw [List.mem_singleton.mp hq]; exact ⟨hq_q1, va_up_self _ _ _⟩
      · rw [gU_a hbh, fup' hq_q1 hb, gU_a hbh]
      · rw [gU_k (by decide), fup' hq_q1 hk, gU_self]
      · exact gU_self
      · exact ⟨by rw [gU_k (by decide), fup' hq_q1 hk, gU_k (by decide)], by rw [gU_k (by decide), fup' hq_q1 hk, gU_k (by decide)]⟩) (rt_v dX5_init_18)

set_option maxHeartbeats 4000000 in
set_option maxRecDepth 100000 in
theorem c_Joins (l : Launch) (Γ : gG) (K : gK) (F : gF) (sz : Nat) (h : Nat) (hk : K h = some (0, 0)) : gMC l yX0_init wsX0_init 1 2 120 Γ K F sz [.ref h] (fun v K' F' => v = none ∧ ∃ q1 q2, gExt K K' F F' h [(q1, 11, 60), (q2, 9, 60)] ∧ F' h 0 = .ref q1 ∧ F' h 1 = .ref q2 ∧ ∀ i, 2 ≤ i → F' h i = F h i) := by
  refine g_mC (cc := cX0_init) (maxL := 1) (ret := none) (by decide) rfl (Nat.le_of_ble_eq_true rfl) ?_
  intro p e s m args below meth c ls Z hsz hx hb hts hown hml hnm hA9 hN hW hret hl
  have hl : lv_has ls 1 [(0, .ref h)] := hl
  have hown : s.vm.findClass RX0 = some m.cls := hown
  have hi0 : ∀ w ∈ wsX00, w ∈ wsX0_init := by decide +kernel
  have hfX0_11 : Cond.fieldLink RX0 11 (TX0 0).1 (TX0 0).2.1 (TX0 0).2.2.1 ∈ wsX0_init := by decide +kernel
  have hfX0_17 : Cond.fieldLink RX0 17 (TX0 1).1 (TX0 1).2.1 (TX0 1).2.2.1 ∈ wsX0_init := by decide +kernel
  refine lv_aload_n hx hb dX0_init_0 rfl (lv_at hl 0 rfl) ?_
  refine W.objInit hx hb hown (hts _ (show Cond.methodLink RX0 3 objectInit ∈ _ by decide +kernel)) (hts _ (show Cond.instanceMethod objectInit ∈ _ by decide +kernel)) (hts _ (show Cond.code objectInit ⟨#[0xb1]⟩ 1 none ∈ _ by decide +kernel)) rfl (by rw [hml]; exact hl.1) rfl dX0_init_1 (by decide) (Nat.le_of_ble_eq_true rfl) ?_
  refine W.eq (g2 := F0 m 4 ls []) rfl ?_
  refine lv_aload_n hx hb dX0_init_4 rfl (lv_at hl 0 rfl) ?_
  refine lv_bipush (v := nI 60) hx hb dX0_init_5 (by decide) ?_
  refine g_newq (N := 60) hx hb hts hown (show Cond.classLink RX0 9 "NearTree$Node" ∈ _ by decide +kernel) hA9 hN hW rfl (by decide) (Nat.le_of_ble_eq_true rfl) (Nat.le_of_ble_eq_true rfl) dX0_init_7 (fun q1 H hqe_q1 hq_q1 hW => ?_)
  refine g_putF (C := RX0) (T := TX0) (N := 6) hx hb hts hi0 tyX0 tyX0_ok nmX0 hown hN hW (kup hq_q1 hk) rfl (by decide) 0 (by decide) hfX0_11 rfl hnm rfl rfl rfl dX0_init_10 (fun H locs hW => ?_)
  refine lv_aload_n hx hb dX0_init_13 rfl (lv_at hl 0 rfl) ?_
  refine lv_bipush (v := nI 60) hx hb dX0_init_14 (by decide) ?_
  refine g_newa (t := 1) (N := 60) hx hb hts (by decide +kernel) (ty := .long) rfl hN hW rfl (fun h => h) rfl (by decide) (by decide) (Nat.le_of_ble_eq_true rfl) (Nat.le_of_ble_eq_true rfl) dX0_init_16 (fun q2 H hqe_q2 hq_q2 hW => ?_)
  refine g_putF (C := RX0) (T := TX0) (N := 6) hx hb hts hi0 tyX0 tyX0_ok nmX0 hown hN hW (kup hq_q2 (kup hq_q1 hk)) rfl (by decide) 1 (by decide) hfX0_17 rfl hnm rfl rfl rfl dX0_init_18 (fun H locs hW => ?_)
  exact hret none _ _ _ _ _ _ hW (by
      have n1 : h ≠ q1 := fun z => by rw [← z, hk] at hq_q1; cases hq_q1
      have hk1 := kup (k' := (11, 60)) hq_q1 hk
      have n2 : h ≠ q2 := fun z => by rw [← z, hk1] at hq_q2; cases hq_q2
      have n3 : q1 ≠ q2 := fun z => by rw [← z, va_up_self] at hq_q2; cases hq_q2
      have hq2 : K q2 = none := by rw [va_up_ne _ _ (Ne.symm n3)] at hq_q2; exact hq_q2
      refine ⟨rfl, q1, q2, ⟨fun a k ha => kup hq_q2 (kup hq_q1 ha), fun q hq => ?_, fun b i k hb hbh => ?_⟩, ?_, ?_, fun i hi => ?_⟩
      · rcases List.mem_cons.mp hq with rfl | hq
        · exact ⟨hq_q1, kup hq_q2 (va_up_self _ _ _)⟩
        · rw [List.mem_singleton.mp hq]; exact ⟨hq2, va_up_self _ _ _⟩
      · rw [gU_a hbh, fup' hq_q2 (kup hq_q1 hb), gU_a hbh, fup' hq_q1 hb]
      · rw [gU_k (by decide), fup' hq_q2 hk1, gU_self]
      · exact gU_self
      · rw [gU_k (by omega), fup' hq_q2 hk1, gU_k (by omega), fup' hq_q1 hk]) (rt_v dX0_init_21)
