set_option maxHeartbeats 4000000 in
set_option maxRecDepth 100000 in
theorem m_aimAt (l : Launch) (Γ : gG) (K : gK) (F : gF) (sz : Nat) (m9 : Nat) (B : Nat → Nat) (hk : MKk K m9 B) (hf : MKf F m9 B) (d : Nat) (h1 : F m9 1 = .int (nI d)) (hd4 : d ≤ 4) (xx yy zz ww : Int32) : gMM l yX7_aimAt wsX7_aimAt 0 0 0 Γ K F sz [.ref m9, .int xx, .int yy, .int zz, .int ww] (fun v K' F' => v = none ∧ K' = K ∧ (∀ a, a < 4 → F' (B 24) a = .int (mkC d xx yy zz ww a)) ∧ ∀ b i, b ≠ B 24 → F' b i = F b i) := by
  refine g_mM (cc := cX7_aimAt) (maxL := 5) (ret := none) (by decide) rfl (Nat.le_of_ble_eq_true rfl) ?_
  intro p e s m args below meth c ls Z hsz hx hb hts hown hml hnm hN hW hret hl
  have hl : lv_has ls 5 [(0, .ref m9), (1, .int xx), (2, .int yy), (3, .int zz), (4, .int ww)] := hl
  have hown : s.vm.findClass RX7 = some m.cls := hown
  have hi7 : ∀ w ∈ wsX70, w ∈ wsX7_aimAt := by decide +kernel
  have hfX7_69 : Cond.fieldLink RX7 69 (TX7 24).1 (TX7 24).2.1 (TX7 24).2.2.1 ∈ wsX7_aimAt := by decide +kernel
  have hfX7_85 : Cond.fieldLink RX7 85 (TX7 1).1 (TX7 1).2.1 (TX7 1).2.2.1 ∈ wsX7_aimAt := by decide +kernel
  refine lv_aload_n hx hb dX7_aimAt_0 rfl (lv_at hl 0 rfl) ?_
  refine g_get (C := RX7) (T := TX7) (N := 31) hx hb hts hi7 hown hN hW.1 hk.1 rfl (by decide) 24 (by decide) hfX7_69 (v := .ref (B 24)) (hf 24 rfl) dX7_aimAt_1 ?_
  refine lv_iconst (v := nI 0) hx hb dX7_aimAt_4 (by decide) ?_
  refine lv_iload_n hx hb dX7_aimAt_5 rfl (lv_at hl 1 rfl) ?_
  refine g_iast (j := 0) hx hb hN hW (hk.2.1 24 (8, 4) rfl) (by decide) (show _ = nI 0 from rfl) (by decide) dX7_aimAt_6 (fun H locs hW => ?_)
  refine lv_aload_n hx hb dX7_aimAt_7 rfl (lv_at hl 0 rfl) ?_
  refine g_get (C := RX7) (T := TX7) (N := 31) hx hb hts hi7 hown hN hW.1 hk.1 rfl (by decide) 24 (by decide) hfX7_69 (v := .ref (B 24)) ((gU_a (Ne.symm (hk.nm (i := 24) rfl))).trans (hf 24 rfl)) dX7_aimAt_8 ?_
  refine lv_iconst (v := nI 1) hx hb dX7_aimAt_11 (by decide) ?_
  refine lv_aload_n hx hb dX7_aimAt_12 rfl (lv_at hl 0 rfl) ?_
  refine g_get (C := RX7) (T := TX7) (N := 31) hx hb hts hi7 hown hN hW.1 hk.1 rfl (by decide) 1 (by decide) hfX7_85 (v := .int (nI d)) ((gU_a (Ne.symm (hk.nm (i := 24) rfl))).trans h1) dX7_aimAt_13 ?_
  refine lv_iconst (v := nI 1) hx hb dX7_aimAt_16 (by decide) ?_
  refine lv_icmp_le (tgt := 24) hx hb dX7_aimAt_17 (by decide) (fun c1 => ?_) (fun c1 => ?_)
  · have c1 : d ≤ 1 := (nI_leI (by omega) (by omega)).mp c1
    have c1 : ¬ 1 < d := Nat.not_lt.mpr c1
    refine lv_iconst (v := nI 0) hx hb dX7_aimAt_24 (by decide) ?_
    refine g_iast (j := 1) hx hb hN hW (hk.2.1 24 (8, 4) rfl) (by decide) (show _ = nI 1 from rfl) (by decide) dX7_aimAt_25 (fun H locs hW => ?_)
    refine lv_aload_n hx hb dX7_aimAt_26 rfl (lv_at hl 0 rfl) ?_
    refine g_get (C := RX7) (T := TX7) (N := 31) hx hb hts hi7 hown hN hW.1 hk.1 rfl (by decide) 24 (by decide) hfX7_69 (v := .ref (B 24)) ((gU_a (Ne.symm (hk.nm (i := 24) rfl))).trans ((gU_a (Ne.symm (hk.nm (i := 24) rfl))).trans (hf 24 rfl))) dX7_aimAt_27 ?_
    refine lv_iconst (v := nI 2) hx hb dX7_aimAt_30 (by decide) ?_
    refine lv_aload_n hx hb dX7_aimAt_31 rfl (lv_at hl 0 rfl) ?_
    refine g_get (C := RX7) (T := TX7) (N := 31) hx hb hts hi7 hown hN hW.1 hk.1 rfl (by decide) 1 (by decide) hfX7_85 (v := .int (nI d)) ((gU_a (Ne.symm (hk.nm (i := 24) rfl))).trans ((gU_a (Ne.symm (hk.nm (i := 24) rfl))).trans h1)) dX7_aimAt_32 ?_
    refine lv_iconst (v := nI 2) hx hb dX7_aimAt_35 (by decide) ?_
    refine lv_icmp_le (tgt := 43) hx hb dX7_aimAt_36 (by decide) (fun c2 => ?_) (fun c2 => ?_)
    · have c2 : d ≤ 2 := (nI_leI (by omega) (by omega)).mp c2
      have c2 : ¬ 2 < d := Nat.not_lt.mpr c2
      refine lv_iconst (v := nI 0) hx hb dX7_aimAt_43 (by decide) ?_
      refine g_iast (j := 2) hx hb hN hW (hk.2.1 24 (8, 4) rfl) (by decide) (show _ = nI 2 from rfl) (by decide) dX7_aimAt_44 (fun H locs hW => ?_)
      refine lv_aload_n hx hb dX7_aimAt_45 rfl (lv_at hl 0 rfl) ?_
      refine g_get (C := RX7) (T := TX7) (N := 31) hx hb hts hi7 hown hN hW.1 hk.1 rfl (by decide) 24 (by decide) hfX7_69 (v := .ref (B 24)) ((gU_a (Ne.symm (hk.nm (i := 24) rfl))).trans ((gU_a (Ne.symm (hk.nm (i := 24) rfl))).trans ((gU_a (Ne.symm (hk.nm (i := 24) rfl))).trans (hf 24 rfl)))) dX7_aimAt_46 ?_
      refine lv_iconst (v := nI 3) hx hb dX7_aimAt_49 (by decide) ?_
      refine lv_aload_n hx hb dX7_aimAt_50 rfl (lv_at hl 0 rfl) ?_
      refine g_get (C := RX7) (T := TX7) (N := 31) hx hb hts hi7 hown hN hW.1 hk.1 rfl (by decide) 1 (by decide) hfX7_85 (v := .int (nI d)) ((gU_a (Ne.symm (hk.nm (i := 24) rfl))).trans ((gU_a (Ne.symm (hk.nm (i := 24) rfl))).trans ((gU_a (Ne.symm (hk.nm (i := 24) rfl))).trans h1))) dX7_aimAt_51 ?_
      refine lv_iconst (v := nI 3) hx hb dX7_aimAt_54 (by decide) ?_
      refine lv_icmp_le (tgt := 63) hx hb dX7_aimAt_55 (by decide) (fun c3 => ?_) (fun c3 => ?_)
      · have c3 : d ≤ 3 := (nI_leI (by omega) (by omega)).mp c3
        have c3 : ¬ 3 < d := Nat.not_lt.mpr c3
        refine lv_iconst (v := nI 0) hx hb dX7_aimAt_63 (by decide) ?_
        refine g_iast (j := 3) hx hb hN hW (hk.2.1 24 (8, 4) rfl) (by decide) (show _ = nI 3 from rfl) (by decide) dX7_aimAt_64 (fun H locs hW => ?_)
        exact hret none _ _ _ _ _ _ hW (⟨rfl, rfl, fun a ha => by
          rcases (show a = 0 ∨ a = 1 ∨ a = 2 ∨ a = 3 by omega) with rfl | rfl | rfl | rfl
          · rw [gU_k (by decide), gU_k (by decide), gU_k (by decide), gU_self]; rfl
          · rw [gU_k (by decide), gU_k (by decide), gU_self]; simp [mkC, c1]
          · rw [gU_k (by decide), gU_self]; simp [mkC, c2]
          · rw [gU_self]; simp [mkC, c3], fun b i hb => by rw [gU_a hb, gU_a hb, gU_a hb, gU_a hb]⟩) (rt_v dX7_aimAt_65)
      · have c3 : 3 < d := Nat.not_le.mp (fun z => c3 ((nI_leI (by omega) (by omega)).mpr z))
        refine lv_iload hx hb dX7_aimAt_58 (lv_at hl 4 rfl) ?_
        refine lv_goto (tgt := 64) hx hb dX7_aimAt_60 (by decide) ?_
        refine g_iast (j := 3) hx hb hN hW (hk.2.1 24 (8, 4) rfl) (by decide) (show _ = nI 3 from rfl) (by decide) dX7_aimAt_64 (fun H locs hW => ?_)
        exact hret none _ _ _ _ _ _ hW (⟨rfl, rfl, fun a ha => by
          rcases (show a = 0 ∨ a = 1 ∨ a = 2 ∨ a = 3 by omega) with rfl | rfl | rfl | rfl
          · rw [gU_k (by decide), gU_k (by decide), gU_k (by decide), gU_self]; rfl
          · rw [gU_k (by decide), gU_k (by decide), gU_self]; simp [mkC, c1]
          · rw [gU_k (by decide), gU_self]; simp [mkC, c2]
          · rw [gU_self]; simp [mkC, c3], fun b i hb => by rw [gU_a hb, gU_a hb, gU_a hb, gU_a hb]⟩) (rt_v dX7_aimAt_65)
    · have c2 : 2 < d := Nat.not_le.mp (fun z => c2 ((nI_leI (by omega) (by omega)).mpr z))
      refine lv_iload_n hx hb dX7_aimAt_39 rfl (lv_at hl 3 rfl) ?_
      refine lv_goto (tgt := 44) hx hb dX7_aimAt_40 (by decide) ?_
      refine g_iast (j := 2) hx hb hN hW (hk.2.1 24 (8, 4) rfl) (by decide) (show _ = nI 2 from rfl) (by decide) dX7_aimAt_44 (fun H locs hW => ?_)
      refine lv_aload_n hx hb dX7_aimAt_45 rfl (lv_at hl 0 rfl) ?_
      refine g_get (C := RX7) (T := TX7) (N := 31) hx hb hts hi7 hown hN hW.1 hk.1 rfl (by decide) 24 (by decide) hfX7_69 (v := .ref (B 24)) ((gU_a (Ne.symm (hk.nm (i := 24) rfl))).trans ((gU_a (Ne.symm (hk.nm (i := 24) rfl))).trans ((gU_a (Ne.symm (hk.nm (i := 24) rfl))).trans (hf 24 rfl)))) dX7_aimAt_46 ?_
      refine lv_iconst (v := nI 3) hx hb dX7_aimAt_49 (by decide) ?_
      refine lv_aload_n hx hb dX7_aimAt_50 rfl (lv_at hl 0 rfl) ?_
      refine g_get (C := RX7) (T := TX7) (N := 31) hx hb hts hi7 hown hN hW.1 hk.1 rfl (by decide) 1 (by decide) hfX7_85 (v := .int (nI d)) ((gU_a (Ne.symm (hk.nm (i := 24) rfl))).trans ((gU_a (Ne.symm (hk.nm (i := 24) rfl))).trans ((gU_a (Ne.symm (hk.nm (i := 24) rfl))).trans h1))) dX7_aimAt_51 ?_
      refine lv_iconst (v := nI 3) hx hb dX7_aimAt_54 (by decide) ?_
      refine lv_icmp_le (tgt := 63) hx hb dX7_aimAt_55 (by decide) (fun c3 => ?_) (fun c3 => ?_)
      · have c3 : d ≤ 3 := (nI_leI (by omega) (by omega)).mp c3
        have c3 : ¬ 3 < d := Nat.not_lt.mpr c3
        refine lv_iconst (v := nI 0) hx hb dX7_aimAt_63 (by decide) ?_
        refine g_iast (j := 3) hx hb hN hW (hk.2.1 24 (8, 4) rfl) (by decide) (show _ = nI 3 from rfl) (by decide) dX7_aimAt_64 (fun H locs hW => ?_)
        exact hret none _ _ _ _ _ _ hW (⟨rfl, rfl, fun a ha => by
          rcases (show a = 0 ∨ a = 1 ∨ a = 2 ∨ a = 3 by omega) with rfl | rfl | rfl | rfl
          · rw [gU_k (by decide), gU_k (by decide), gU_k (by decide), gU_self]; rfl
          · rw [gU_k (by decide), gU_k (by decide), gU_self]; simp [mkC, c1]
          · rw [gU_k (by decide), gU_self]; simp [mkC, c2]
          · rw [gU_self]; simp [mkC, c3], fun b i hb => by rw [gU_a hb, gU_a hb, gU_a hb, gU_a hb]⟩) (rt_v dX7_aimAt_65)
      · have c3 : 3 < d := Nat.not_le.mp (fun z => c3 ((nI_leI (by omega) (by omega)).mpr z))
        refine lv_iload hx hb dX7_aimAt_58 (lv_at hl 4 rfl) ?_
        refine lv_goto (tgt := 64) hx hb dX7_aimAt_60 (by decide) ?_
        refine g_iast (j := 3) hx hb hN hW (hk.2.1 24 (8, 4) rfl) (by decide) (show _ = nI 3 from rfl) (by decide) dX7_aimAt_64 (fun H locs hW => ?_)
        exact hret none _ _ _ _ _ _ hW (⟨rfl, rfl, fun a ha => by
          rcases (show a = 0 ∨ a = 1 ∨ a = 2 ∨ a = 3 by omega) with rfl | rfl | rfl | rfl
          · rw [gU_k (by decide), gU_k (by decide), gU_k (by decide), gU_self]; rfl
          · rw [gU_k (by decide), gU_k (by decide), gU_self]; simp [mkC, c1]
          · rw [gU_k (by decide), gU_self]; simp [mkC, c2]
          · rw [gU_self]; simp [mkC, c3], fun b i hb => by rw [gU_a hb, gU_a hb, gU_a hb, gU_a hb]⟩) (rt_v dX7_aimAt_65)
  · have c1 : 1 < d := Nat.not_le.mp (fun z => c1 ((nI_leI (by omega) (by omega)).mpr z))
    refine lv_iload_n hx hb dX7_aimAt_20 rfl (lv_at hl 2 rfl) ?_
    refine lv_goto (tgt := 25) hx hb dX7_aimAt_21 (by decide) ?_
    refine g_iast (j := 1) hx hb hN hW (hk.2.1 24 (8, 4) rfl) (by decide) (show _ = nI 1 from rfl) (by decide) dX7_aimAt_25 (fun H locs hW => ?_)
    refine lv_aload_n hx hb dX7_aimAt_26 rfl (lv_at hl 0 rfl) ?_
    refine g_get (C := RX7) (T := TX7) (N := 31) hx hb hts hi7 hown hN hW.1 hk.1 rfl (by decide) 24 (by decide) hfX7_69 (v := .ref (B 24)) ((gU_a (Ne.symm (hk.nm (i := 24) rfl))).trans ((gU_a (Ne.symm (hk.nm (i := 24) rfl))).trans (hf 24 rfl))) dX7_aimAt_27 ?_
    refine lv_iconst (v := nI 2) hx hb dX7_aimAt_30 (by decide) ?_
    refine lv_aload_n hx hb dX7_aimAt_31 rfl (lv_at hl 0 rfl) ?_
    refine g_get (C := RX7) (T := TX7) (N := 31) hx hb hts hi7 hown hN hW.1 hk.1 rfl (by decide) 1 (by decide) hfX7_85 (v := .int (nI d)) ((gU_a (Ne.symm (hk.nm (i := 24) rfl))).trans ((gU_a (Ne.symm (hk.nm (i := 24) rfl))).trans h1)) dX7_aimAt_32 ?_
    refine lv_iconst (v := nI 2) hx hb dX7_aimAt_35 (by decide) ?_
    refine lv_icmp_le (tgt := 43) hx hb dX7_aimAt_36 (by decide) (fun c2 => ?_) (fun c2 => ?_)
    · have c2 : d ≤ 2 := (nI_leI (by omega) (by omega)).mp c2
      have c2 : ¬ 2 < d := Nat.not_lt.mpr c2
      refine lv_iconst (v := nI 0) hx hb dX7_aimAt_43 (by decide) ?_
      refine g_iast (j := 2) hx hb hN hW (hk.2.1 24 (8, 4) rfl) (by decide) (show _ = nI 2 from rfl) (by decide) dX7_aimAt_44 (fun H locs hW => ?_)
      refine lv_aload_n hx hb dX7_aimAt_45 rfl (lv_at hl 0 rfl) ?_
      refine g_get (C := RX7) (T := TX7) (N := 31) hx hb hts hi7 hown hN hW.1 hk.1 rfl (by decide) 24 (by decide) hfX7_69 (v := .ref (B 24)) ((gU_a (Ne.symm (hk.nm (i := 24) rfl))).trans ((gU_a (Ne.symm (hk.nm (i := 24) rfl))).trans ((gU_a (Ne.symm (hk.nm (i := 24) rfl))).trans (hf 24 rfl)))) dX7_aimAt_46 ?_
      refine lv_iconst (v := nI 3) hx hb dX7_aimAt_49 (by decide) ?_
      refine lv_aload_n hx hb dX7_aimAt_50 rfl (lv_at hl 0 rfl) ?_
      refine g_get (C := RX7) (T := TX7) (N := 31) hx hb hts hi7 hown hN hW.1 hk.1 rfl (by decide) 1 (by decide) hfX7_85 (v := .int (nI d)) ((gU_a (Ne.symm (hk.nm (i := 24) rfl))).trans ((gU_a (Ne.symm (hk.nm (i := 24) rfl))).trans ((gU_a (Ne.symm (hk.nm (i := 24) rfl))).trans h1))) dX7_aimAt_51 ?_
      refine lv_iconst (v := nI 3) hx hb dX7_aimAt_54 (by decide) ?_
      refine lv_icmp_le (tgt := 63) hx hb dX7_aimAt_55 (by decide) (fun c3 => ?_) (fun c3 => ?_)
      · have c3 : d ≤ 3 := (nI_leI (by omega) (by omega)).mp c3
        have c3 : ¬ 3 < d := Nat.not_lt.mpr c3
        refine lv_iconst (v := nI 0) hx hb dX7_aimAt_63 (by decide) ?_
        refine g_iast (j := 3) hx hb hN hW (hk.2.1 24 (8, 4) rfl) (by decide) (show _ = nI 3 from rfl) (by decide) dX7_aimAt_64 (fun H locs hW => ?_)
        exact hret none _ _ _ _ _ _ hW (⟨rfl, rfl, fun a ha => by
          rcases (show a = 0 ∨ a = 1 ∨ a = 2 ∨ a = 3 by omega) with rfl | rfl | rfl | rfl
          · rw [gU_k (by decide), gU_k (by decide), gU_k (by decide), gU_self]; rfl
          · rw [gU_k (by decide), gU_k (by decide), gU_self]; simp [mkC, c1]
          · rw [gU_k (by decide), gU_self]; simp [mkC, c2]
          · rw [gU_self]; simp [mkC, c3], fun b i hb => by rw [gU_a hb, gU_a hb, gU_a hb, gU_a hb]⟩) (rt_v dX7_aimAt_65)
      · have c3 : 3 < d := Nat.not_le.mp (fun z => c3 ((nI_leI (by omega) (by omega)).mpr z))
        refine lv_iload hx hb dX7_aimAt_58 (lv_at hl 4 rfl) ?_
        refine lv_goto (tgt := 64) hx hb dX7_aimAt_60 (by decide) ?_
        refine g_iast (j := 3) hx hb hN hW (hk.2.1 24 (8, 4) rfl) (by decide) (show _ = nI 3 from rfl) (by decide) dX7_aimAt_64 (fun H locs hW => ?_)
        exact hret none _ _ _ _ _ _ hW (⟨rfl, rfl, fun a ha => by
          rcases (show a = 0 ∨ a = 1 ∨ a = 2 ∨ a = 3 by omega) with rfl | rfl | rfl | rfl
          · rw [gU_k (by decide), gU_k (by decide), gU_k (by decide), gU_self]; rfl
          · rw [gU_k (by decide), gU_k (by decide), gU_self]; simp [mkC, c1]
          · rw [gU_k (by decide), gU_self]; simp [mkC, c2]
          · rw [gU_self]; simp [mkC, c3], fun b i hb => by rw [gU_a hb, gU_a hb, gU_a hb, gU_a hb]⟩) (rt_v dX7_aimAt_65)
    · have c2 : 2 < d := Nat.not_le.mp (fun z => c2 ((nI_leI (by omega) (by omega)).mpr z))
      refine lv_iload_n hx hb dX7_aimAt_39 rfl (lv_at hl 3 rfl) ?_
      refine lv_goto (tgt := 44) hx hb dX7_aimAt_40 (by decide) ?_
      refine g_iast (j := 2) hx hb hN hW (hk.2.1 24 (8, 4) rfl) (by decide) (show _ = nI 2 from rfl) (by decide) dX7_aimAt_44 (fun H locs hW => ?_)
      refine lv_aload_n hx hb dX7_aimAt_45 rfl (lv_at hl 0 rfl) ?_
      refine g_get (C := RX7) (T := TX7) (N := 31) hx hb hts hi7 hown hN hW.1 hk.1 rfl (by decide) 24 (by decide) hfX7_69 (v := .ref (B 24)) ((gU_a (Ne.symm (hk.nm (i := 24) rfl))).trans ((gU_a (Ne.symm (hk.nm (i := 24) rfl))).trans ((gU_a (Ne.symm (hk.nm (i := 24) rfl))).trans (hf 24 rfl)))) dX7_aimAt_46 ?_
      refine lv_iconst (v := nI 3) hx hb dX7_aimAt_49 (by decide) ?_
      refine lv_aload_n hx hb dX7_aimAt_50 rfl (lv_at hl 0 rfl) ?_
      refine g_get (C := RX7) (T := TX7) (N := 31) hx hb hts hi7 hown hN hW.1 hk.1 rfl (by decide) 1 (by decide) hfX7_85 (v := .int (nI d)) ((gU_a (Ne.symm (hk.nm (i := 24) rfl))).trans ((gU_a (Ne.symm (hk.nm (i := 24) rfl))).trans ((gU_a (Ne.symm (hk.nm (i := 24) rfl))).trans h1))) dX7_aimAt_51 ?_
      refine lv_iconst (v := nI 3) hx hb dX7_aimAt_54 (by decide) ?_
      refine lv_icmp_le (tgt := 63) hx hb dX7_aimAt_55 (by decide) (fun c3 => ?_) (fun c3 => ?_)
      · have c3 : d ≤ 3 := (nI_leI (by omega) (by omega)).mp c3
        have c3 : ¬ 3 < d := Nat.not_lt.mpr c3
        refine lv_iconst (v := nI 0) hx hb dX7_aimAt_63 (by decide) ?_
        refine g_iast (j := 3) hx hb hN hW (hk.2.1 24 (8, 4) rfl) (by decide) (show _ = nI 3 from rfl) (by decide) dX7_aimAt_64 (fun H locs hW => ?_)
        exact hret none _ _ _ _ _ _ hW (⟨rfl, rfl, fun a ha => by
          rcases (show a = 0 ∨ a = 1 ∨ a = 2 ∨ a = 3 by omega) with rfl | rfl | rfl | rfl
          · rw [gU_k (by decide), gU_k (by decide), gU_k (by decide), gU_self]; rfl
          · rw [gU_k (by decide), gU_k (by decide), gU_self]; simp [mkC, c1]
          · rw [gU_k (by decide), gU_self]; simp [mkC, c2]
          · rw [gU_self]; simp [mkC, c3], fun b i hb => by rw [gU_a hb, gU_a hb, gU_a hb, gU_a hb]⟩) (rt_v dX7_aimAt_65)
      · have c3 : 3 < d := Nat.not_le.mp (fun z => c3 ((nI_leI (by omega) (by omega)).mpr z))
        refine lv_iload hx hb dX7_aimAt_58 (lv_at hl 4 rfl) ?_
        refine lv_goto (tgt := 64) hx hb dX7_aimAt_60 (by decide) ?_
        refine g_iast (j := 3) hx hb hN hW (hk.2.1 24 (8, 4) rfl) (by decide) (show _ = nI 3 from rfl) (by decide) dX7_aimAt_64 (fun H locs hW => ?_)
        exact hret none _ _ _ _ _ _ hW (⟨rfl, rfl, fun a ha => by
          rcases (show a = 0 ∨ a = 1 ∨ a = 2 ∨ a = 3 by omega) with rfl | rfl | rfl | rfl
          · rw [gU_k (by decide), gU_k (by decide), gU_k (by decide), gU_self]; rfl
          · rw [gU_k (by decide), gU_k (by decide), gU_self]; simp [mkC, c1]
          · rw [gU_k (by decide), gU_self]; simp [mkC, c2]
          · rw [gU_self]; simp [mkC, c3], fun b i hb => by rw [gU_a hb, gU_a hb, gU_a hb, gU_a hb]⟩) (rt_v dX7_aimAt_65)

set_option maxHeartbeats 4000000 in
set_option maxRecDepth 100000 in
theorem m_away (l : Launch) (Γ : gG) (K : gK) (F : gF) (m9 : Nat) (B : Nat → Nat) (hk : MKk K m9 B) (hf : MKf F m9 B) (i : Nat) (hi : i < 100) (q p9 : Nat → Int32) (hq : ∀ a, a < 4 → F (B 24) a = .int (q a)) (hp : ∀ a, a < 4 → F (B 3) (4 * i + a) = .int (p9 a)) : gMR l yX7_away wsX7_away 0 Γ K F [.ref m9, .int (nI i)] (some (.long (pDist q p9))) := by
  refine g_mR (cc := cX7_away) (maxL := 7) (ret := (some .long)) (by decide) rfl (Nat.le_of_ble_eq_true rfl) ?_
  intro p e s m args below meth c ls Z hx hb hts hown hml hN hP hret hl
  have hl : lv_has ls 7 [(0, .ref m9), (1, .int (nI i))] := hl
  have hown : s.vm.findClass RX7 = some m.cls := hown
  have hi7 : ∀ w ∈ wsX70, w ∈ wsX7_away := by decide +kernel
  have hfX7_17 : Cond.fieldLink RX7 17 (TX7 3).1 (TX7 3).2.1 (TX7 3).2.2.1 ∈ wsX7_away := by decide +kernel
  have hfX7_69 : Cond.fieldLink RX7 69 (TX7 24).1 (TX7 24).2.1 (TX7 24).2.2.1 ∈ wsX7_away := by decide +kernel
  refine lv_lconst (v := 0) hx hb dX7_away_0 (by decide) ?_
  refine lv_lstore_n (lv' := [(2, .long 0), (0, .ref m9), (1, .int (nI i))]) hx hb dX7_away_1 rfl hl (by decide) rfl (fun ls hl => ?_)
  refine lv_iconst (v := nI 0) hx hb dX7_away_2 (by decide) ?_
  refine lv_istore (lv' := [(4, .int (nI 0)), (2, .long 0), (0, .ref m9), (1, .int (nI i))]) hx hb dX7_away_3 hl (by decide) rfl (fun ls hl => ?_)
  refine lv_iload hx hb dX7_away_5 (lv_at hl 0 rfl) ?_
  refine lv_iconst (v := nI 4) hx hb dX7_away_7 (by decide) ?_
  refine lv_icmp_ge (tgt := 47) hx hb dX7_away_8 (by decide) (fun c0 => ?_) (fun c0 => ?_)
  · exact absurd c0 (by decide)
  · refine lv_aload_n hx hb dX7_away_11 rfl (lv_at hl 2 rfl) ?_
    refine g_get (C := RX7) (T := TX7) (N := 31) hx hb hts hi7 hown hN hP hk.1 rfl (by decide) 24 (by decide) hfX7_69 (v := .ref (B 24)) (hf 24 rfl) dX7_away_12 ?_
    refine lv_iload hx hb dX7_away_15 (lv_at hl 0 rfl) ?_
    refine g_iald (j := 0) hx hb hN hP (hk.2.1 24 (8, 4) rfl) (by decide) (show _ = nI 0 from rfl) (by decide) (v := .int (q 0)) (hq 0 (by decide)) dX7_away_17 ?_
    refine lv_aload_n hx hb dX7_away_18 rfl (lv_at hl 2 rfl) ?_
    refine g_get (C := RX7) (T := TX7) (N := 31) hx hb hts hi7 hown hN hP hk.1 rfl (by decide) 3 (by decide) hfX7_17 (v := .ref (B 3)) (hf 3 rfl) dX7_away_19 ?_
    refine lv_iconst (v := nI 4) hx hb dX7_away_22 (by decide) ?_
    refine lv_iload_n hx hb dX7_away_23 rfl (lv_at hl 3 rfl) ?_
    refine lv_imul hx hb dX7_away_24 ?_
    refine g_asi (show _ = nI (4 * i) from (pk_mul _ _).trans (by rfl)) ?_
    refine lv_iload hx hb dX7_away_25 (lv_at hl 0 rfl) ?_
    refine lv_iadd hx hb dX7_away_27 ?_
    refine g_asi (show _ = nI ((4 * i) + 0) from (nI_add _ _).trans (by rfl)) ?_
    refine g_iald (j := 4 * i + 0) hx hb hN hP (hk.2.1 3 (8, 400) rfl) (by decide) (show _ = nI (4 * i + 0) from rfl) (by omega) (v := .int (p9 0)) (hp 0 (by decide)) dX7_away_28 ?_
    refine lv_isub hx hb dX7_away_29 ?_
    refine lv_i2l (v := ((q 0) - (p9 0)).toInt64) hx hb dX7_away_30 rfl ?_
    refine lv_lstore (lv' := [(5, .long (((q 0) - (p9 0)).toInt64)), (4, .int (nI 0)), (2, .long 0), (0, .ref m9), (1, .int (nI i))]) hx hb dX7_away_31 hl (by decide) rfl (fun ls hl => ?_)
    refine lv_lload_n hx hb dX7_away_33 rfl (lv_at hl 2 rfl) ?_
    refine lv_lload hx hb dX7_away_34 (lv_at hl 0 rfl) ?_
    refine lv_lload hx hb dX7_away_36 (lv_at hl 0 rfl) ?_
    refine lv_lmul hx hb dX7_away_38 ?_
    refine lv_ladd hx hb dX7_away_39 ?_
    refine g_asl (show _ = sqI (q 0 - p9 0) from by unfold sqI; rw [Int64.zero_add]) ?_
    refine lv_lstore_n (lv' := [(2, .long (sqI (q 0 - p9 0))), (5, .long (((q 0) - (p9 0)).toInt64)), (4, .int (nI 0)), (0, .ref m9), (1, .int (nI i))]) hx hb dX7_away_40 rfl hl (by decide) rfl (fun ls hl => ?_)
    refine lv_iinc (v := nI 1) (lv' := [(4, .int (nI 1)), (2, .long (sqI (q 0 - p9 0))), (5, .long (((q 0) - (p9 0)).toInt64)), (0, .ref m9), (1, .int (nI i))]) hx hb dX7_away_41 hl (k := 2) rfl (inc1 _) (by decide) rfl (fun ls hl => ?_)
    refine lv_goto (tgt := 5) hx hb dX7_away_44 (by decide) ?_
    refine lv_iload hx hb dX7_away_5 (lv_at hl 0 rfl) ?_
    refine lv_iconst (v := nI 4) hx hb dX7_away_7 (by decide) ?_
    refine lv_icmp_ge (tgt := 47) hx hb dX7_away_8 (by decide) (fun c1 => ?_) (fun c1 => ?_)
    · exact absurd c1 (by decide)
    · refine lv_aload_n hx hb dX7_away_11 rfl (lv_at hl 3 rfl) ?_
      refine g_get (C := RX7) (T := TX7) (N := 31) hx hb hts hi7 hown hN hP hk.1 rfl (by decide) 24 (by decide) hfX7_69 (v := .ref (B 24)) (hf 24 rfl) dX7_away_12 ?_
      refine lv_iload hx hb dX7_away_15 (lv_at hl 0 rfl) ?_
      refine g_iald (j := 1) hx hb hN hP (hk.2.1 24 (8, 4) rfl) (by decide) (show _ = nI 1 from rfl) (by decide) (v := .int (q 1)) (hq 1 (by decide)) dX7_away_17 ?_
      refine lv_aload_n hx hb dX7_away_18 rfl (lv_at hl 3 rfl) ?_
      refine g_get (C := RX7) (T := TX7) (N := 31) hx hb hts hi7 hown hN hP hk.1 rfl (by decide) 3 (by decide) hfX7_17 (v := .ref (B 3)) (hf 3 rfl) dX7_away_19 ?_
      refine lv_iconst (v := nI 4) hx hb dX7_away_22 (by decide) ?_
      refine lv_iload_n hx hb dX7_away_23 rfl (lv_at hl 4 rfl) ?_
      refine lv_imul hx hb dX7_away_24 ?_
      refine g_asi (show _ = nI (4 * i) from (pk_mul _ _).trans (by rfl)) ?_
      refine lv_iload hx hb dX7_away_25 (lv_at hl 0 rfl) ?_
      refine lv_iadd hx hb dX7_away_27 ?_
      refine g_asi (show _ = nI ((4 * i) + 1) from (nI_add _ _).trans (by rfl)) ?_
      refine g_iald (j := 4 * i + 1) hx hb hN hP (hk.2.1 3 (8, 400) rfl) (by decide) (show _ = nI (4 * i + 1) from rfl) (by omega) (v := .int (p9 1)) (hp 1 (by decide)) dX7_away_28 ?_
      refine lv_isub hx hb dX7_away_29 ?_
      refine lv_i2l (v := ((q 1) - (p9 1)).toInt64) hx hb dX7_away_30 rfl ?_
      refine lv_lstore (lv' := [(5, .long (((q 1) - (p9 1)).toInt64)), (4, .int (nI 1)), (2, .long (sqI (q 0 - p9 0))), (0, .ref m9), (1, .int (nI i))]) hx hb dX7_away_31 hl (by decide) rfl (fun ls hl => ?_)
      refine lv_lload_n hx hb dX7_away_33 rfl (lv_at hl 2 rfl) ?_
      refine lv_lload hx hb dX7_away_34 (lv_at hl 0 rfl) ?_
      refine lv_lload hx hb dX7_away_36 (lv_at hl 0 rfl) ?_
      refine lv_lmul hx hb dX7_away_38 ?_
      refine lv_ladd hx hb dX7_away_39 ?_
      refine g_asl (show _ = sqI (q 0 - p9 0) + sqI (q 1 - p9 1) from rfl) ?_
      refine lv_lstore_n (lv' := [(2, .long (sqI (q 0 - p9 0) + sqI (q 1 - p9 1))), (5, .long (((q 1) - (p9 1)).toInt64)), (4, .int (nI 1)), (0, .ref m9), (1, .int (nI i))]) hx hb dX7_away_40 rfl hl (by decide) rfl (fun ls hl => ?_)
      refine lv_iinc (v := nI 2) (lv' := [(4, .int (nI 2)), (2, .long (sqI (q 0 - p9 0) + sqI (q 1 - p9 1))), (5, .long (((q 1) - (p9 1)).toInt64)), (0, .ref m9), (1, .int (nI i))]) hx hb dX7_away_41 hl (k := 2) rfl (inc1 _) (by decide) rfl (fun ls hl => ?_)
      refine lv_goto (tgt := 5) hx hb dX7_away_44 (by decide) ?_
      refine lv_iload hx hb dX7_away_5 (lv_at hl 0 rfl) ?_
      refine lv_iconst (v := nI 4) hx hb dX7_away_7 (by decide) ?_
      refine lv_icmp_ge (tgt := 47) hx hb dX7_away_8 (by decide) (fun c2 => ?_) (fun c2 => ?_)
      · exact absurd c2 (by decide)
      · refine lv_aload_n hx hb dX7_away_11 rfl (lv_at hl 3 rfl) ?_
        refine g_get (C := RX7) (T := TX7) (N := 31) hx hb hts hi7 hown hN hP hk.1 rfl (by decide) 24 (by decide) hfX7_69 (v := .ref (B 24)) (hf 24 rfl) dX7_away_12 ?_
        refine lv_iload hx hb dX7_away_15 (lv_at hl 0 rfl) ?_
        refine g_iald (j := 2) hx hb hN hP (hk.2.1 24 (8, 4) rfl) (by decide) (show _ = nI 2 from rfl) (by decide) (v := .int (q 2)) (hq 2 (by decide)) dX7_away_17 ?_
        refine lv_aload_n hx hb dX7_away_18 rfl (lv_at hl 3 rfl) ?_
        refine g_get (C := RX7) (T := TX7) (N := 31) hx hb hts hi7 hown hN hP hk.1 rfl (by decide) 3 (by decide) hfX7_17 (v := .ref (B 3)) (hf 3 rfl) dX7_away_19 ?_
        refine lv_iconst (v := nI 4) hx hb dX7_away_22 (by decide) ?_
        refine lv_iload_n hx hb dX7_away_23 rfl (lv_at hl 4 rfl) ?_
        refine lv_imul hx hb dX7_away_24 ?_
        refine g_asi (show _ = nI (4 * i) from (pk_mul _ _).trans (by rfl)) ?_
        refine lv_iload hx hb dX7_away_25 (lv_at hl 0 rfl) ?_
        refine lv_iadd hx hb dX7_away_27 ?_
        refine g_asi (show _ = nI ((4 * i) + 2) from (nI_add _ _).trans (by rfl)) ?_
        refine g_iald (j := 4 * i + 2) hx hb hN hP (hk.2.1 3 (8, 400) rfl) (by decide) (show _ = nI (4 * i + 2) from rfl) (by omega) (v := .int (p9 2)) (hp 2 (by decide)) dX7_away_28 ?_
        refine lv_isub hx hb dX7_away_29 ?_
        refine lv_i2l (v := ((q 2) - (p9 2)).toInt64) hx hb dX7_away_30 rfl ?_
        refine lv_lstore (lv' := [(5, .long (((q 2) - (p9 2)).toInt64)), (4, .int (nI 2)), (2, .long (sqI (q 0 - p9 0) + sqI (q 1 - p9 1))), (0, .ref m9), (1, .int (nI i))]) hx hb dX7_away_31 hl (by decide) rfl (fun ls hl => ?_)
        refine lv_lload_n hx hb dX7_away_33 rfl (lv_at hl 2 rfl) ?_
        refine lv_lload hx hb dX7_away_34 (lv_at hl 0 rfl) ?_
        refine lv_lload hx hb dX7_away_36 (lv_at hl 0 rfl) ?_
        refine lv_lmul hx hb dX7_away_38 ?_
        refine lv_ladd hx hb dX7_away_39 ?_
        refine g_asl (show _ = sqI (q 0 - p9 0) + sqI (q 1 - p9 1) + sqI (q 2 - p9 2) from rfl) ?_
        refine lv_lstore_n (lv' := [(2, .long (sqI (q 0 - p9 0) + sqI (q 1 - p9 1) + sqI (q 2 - p9 2))), (5, .long (((q 2) - (p9 2)).toInt64)), (4, .int (nI 2)), (0, .ref m9), (1, .int (nI i))]) hx hb dX7_away_40 rfl hl (by decide) rfl (fun ls hl => ?_)
        refine lv_iinc (v := nI 3) (lv' := [(4, .int (nI 3)), (2, .long (sqI (q 0 - p9 0) + sqI (q 1 - p9 1) + sqI (q 2 - p9 2))), (5, .long (((q 2) - (p9 2)).toInt64)), (0, .ref m9), (1, .int (nI i))]) hx hb dX7_away_41 hl (k := 2) rfl (inc1 _) (by decide) rfl (fun ls hl => ?_)
        refine lv_goto (tgt := 5) hx hb dX7_away_44 (by decide) ?_
        refine lv_iload hx hb dX7_away_5 (lv_at hl 0 rfl) ?_
        refine lv_iconst (v := nI 4) hx hb dX7_away_7 (by decide) ?_
        refine lv_icmp_ge (tgt := 47) hx hb dX7_away_8 (by decide) (fun c3 => ?_) (fun c3 => ?_)
        · exact absurd c3 (by decide)
        · refine lv_aload_n hx hb dX7_away_11 rfl (lv_at hl 3 rfl) ?_
          refine g_get (C := RX7) (T := TX7) (N := 31) hx hb hts hi7 hown hN hP hk.1 rfl (by decide) 24 (by decide) hfX7_69 (v := .ref (B 24)) (hf 24 rfl) dX7_away_12 ?_
          refine lv_iload hx hb dX7_away_15 (lv_at hl 0 rfl) ?_
          refine g_iald (j := 3) hx hb hN hP (hk.2.1 24 (8, 4) rfl) (by decide) (show _ = nI 3 from rfl) (by decide) (v := .int (q 3)) (hq 3 (by decide)) dX7_away_17 ?_
          refine lv_aload_n hx hb dX7_away_18 rfl (lv_at hl 3 rfl) ?_
          refine g_get (C := RX7) (T := TX7) (N := 31) hx hb hts hi7 hown hN hP hk.1 rfl (by decide) 3 (by decide) hfX7_17 (v := .ref (B 3)) (hf 3 rfl) dX7_away_19 ?_
          refine lv_iconst (v := nI 4) hx hb dX7_away_22 (by decide) ?_
          refine lv_iload_n hx hb dX7_away_23 rfl (lv_at hl 4 rfl) ?_
          refine lv_imul hx hb dX7_away_24 ?_
          refine g_asi (show _ = nI (4 * i) from (pk_mul _ _).trans (by rfl)) ?_
          refine lv_iload hx hb dX7_away_25 (lv_at hl 0 rfl) ?_
          refine lv_iadd hx hb dX7_away_27 ?_
          refine g_asi (show _ = nI ((4 * i) + 3) from (nI_add _ _).trans (by rfl)) ?_
          refine g_iald (j := 4 * i + 3) hx hb hN hP (hk.2.1 3 (8, 400) rfl) (by decide) (show _ = nI (4 * i + 3) from rfl) (by omega) (v := .int (p9 3)) (hp 3 (by decide)) dX7_away_28 ?_
          refine lv_isub hx hb dX7_away_29 ?_
          refine lv_i2l (v := ((q 3) - (p9 3)).toInt64) hx hb dX7_away_30 rfl ?_
          refine lv_lstore (lv' := [(5, .long (((q 3) - (p9 3)).toInt64)), (4, .int (nI 3)), (2, .long (sqI (q 0 - p9 0) + sqI (q 1 - p9 1) + sqI (q 2 - p9 2))), (0, .ref m9), (1, .int (nI i))]) hx hb dX7_away_31 hl (by decide) rfl (fun ls hl => ?_)
          refine lv_lload_n hx hb dX7_away_33 rfl (lv_at hl 2 rfl) ?_
          refine lv_lload hx hb dX7_away_34 (lv_at hl 0 rfl) ?_
          refine lv_lload hx hb dX7_away_36 (lv_at hl 0 rfl) ?_
          refine lv_lmul hx hb dX7_away_38 ?_
          refine lv_ladd hx hb dX7_away_39 ?_
          refine g_asl (show _ = sqI (q 0 - p9 0) + sqI (q 1 - p9 1) + sqI (q 2 - p9 2) + sqI (q 3 - p9 3) from rfl) ?_
          refine lv_lstore_n (lv' := [(2, .long (sqI (q 0 - p9 0) + sqI (q 1 - p9 1) + sqI (q 2 - p9 2) + sqI (q 3 - p9 3))), (5, .long (((q 3) - (p9 3)).toInt64)), (4, .int (nI 3)), (0, .ref m9), (1, .int (nI i))]) hx hb dX7_away_40 rfl hl (by decide) rfl (fun ls hl => ?_)
          refine lv_iinc (v := nI 4) (lv' := [(4, .int (nI 4)), (2, .long (sqI (q 0 - p9 0) + sqI (q 1 - p9 1) + sqI (q 2 - p9 2) + sqI (q 3 - p9 3))), (5, .long (((q 3) - (p9 3)).toInt64)), (0, .ref m9), (1, .int (nI i))]) hx hb dX7_away_41 hl (k := 2) rfl (inc1 _) (by decide) rfl (fun ls hl => ?_)
          refine lv_goto (tgt := 5) hx hb dX7_away_44 (by decide) ?_
          refine lv_iload hx hb dX7_away_5 (lv_at hl 0 rfl) ?_
          refine lv_iconst (v := nI 4) hx hb dX7_away_7 (by decide) ?_
          refine lv_icmp_ge (tgt := 47) hx hb dX7_away_8 (by decide) (fun c4 => ?_) (fun c4 => ?_)
          · refine lv_lload_n hx hb dX7_away_47 rfl (lv_at hl 1 rfl) ?_
            exact hret (some (.long (sqI (q 0 - p9 0) + sqI (q 1 - p9 1) + sqI (q 2 - p9 2) + sqI (q 3 - p9 3)))) _ _ (rfl) (rt_l dX7_away_48)
          · exact absurd (by decide) c4

set_option maxHeartbeats 4000000 in
set_option maxRecDepth 100000 in
theorem m_between (l : Launch) (Γ : gG) (K : gK) (F : gF) (m9 : Nat) (B : Nat → Nat) (hk : MKk K m9 B) (hf : MKf F m9 B) (i j : Nat) (hi : i < 100) (hj : j < 100) (q p9 : Nat → Int32) (hq : ∀ a, a < 4 → F (B 3) (4 * i + a) = .int (q a)) (hp : ∀ a, a < 4 → F (B 3) (4 * j + a) = .int (p9 a)) : gMR l yX7_between wsX7_between 0 Γ K F [.ref m9, .int (nI i), .int (nI j)] (some (.long (pDist q p9))) := by
  refine g_mR (cc := cX7_between) (maxL := 8) (ret := (some .long)) (by decide) rfl (Nat.le_of_ble_eq_true rfl) ?_
  intro p e s m args below meth c ls Z hx hb hts hown hml hN hP hret hl
  have hl : lv_has ls 8 [(0, .ref m9), (1, .int (nI i)), (2, .int (nI j))] := hl
  have hown : s.vm.findClass RX7 = some m.cls := hown
  have hi7 : ∀ w ∈ wsX70, w ∈ wsX7_between := by decide +kernel
  have hfX7_17 : Cond.fieldLink RX7 17 (TX7 3).1 (TX7 3).2.1 (TX7 3).2.2.1 ∈ wsX7_between := by decide +kernel
  refine lv_lconst (v := 0) hx hb dX7_between_0 (by decide) ?_
  refine lv_lstore_n (lv' := [(3, .long 0), (0, .ref m9), (1, .int (nI i)), (2, .int (nI j))]) hx hb dX7_between_1 rfl hl (by decide) rfl (fun ls hl => ?_)
  refine lv_iconst (v := nI 0) hx hb dX7_between_2 (by decide) ?_
  refine lv_istore (lv' := [(5, .int (nI 0)), (3, .long 0), (0, .ref m9), (1, .int (nI i)), (2, .int (nI j))]) hx hb dX7_between_3 hl (by decide) rfl (fun ls hl => ?_)
  refine lv_iload hx hb dX7_between_5 (lv_at hl 0 rfl) ?_
  refine lv_iconst (v := nI 4) hx hb dX7_between_7 (by decide) ?_
  refine lv_icmp_ge (tgt := 51) hx hb dX7_between_8 (by decide) (fun c0 => ?_) (fun c0 => ?_)
  · exact absurd c0 (by decide)
  · refine lv_aload_n hx hb dX7_between_11 rfl (lv_at hl 2 rfl) ?_
    refine g_get (C := RX7) (T := TX7) (N := 31) hx hb hts hi7 hown hN hP hk.1 rfl (by decide) 3 (by decide) hfX7_17 (v := .ref (B 3)) (hf 3 rfl) dX7_between_12 ?_
    refine lv_iconst (v := nI 4) hx hb dX7_between_15 (by decide) ?_
    refine lv_iload_n hx hb dX7_between_16 rfl (lv_at hl 3 rfl) ?_
    refine lv_imul hx hb dX7_between_17 ?_
    refine g_asi (show _ = nI (4 * i) from (pk_mul _ _).trans (by rfl)) ?_
    refine lv_iload hx hb dX7_between_18 (lv_at hl 0 rfl) ?_
    refine lv_iadd hx hb dX7_between_20 ?_
    refine g_asi (show _ = nI ((4 * i) + 0) from (nI_add _ _).trans (by rfl)) ?_
    refine g_iald (j := 4 * i + 0) hx hb hN hP (hk.2.1 3 (8, 400) rfl) (by decide) (show _ = nI (4 * i + 0) from rfl) (by omega) (v := .int (q 0)) (hq 0 (by decide)) dX7_between_21 ?_
    refine lv_aload_n hx hb dX7_between_22 rfl (lv_at hl 2 rfl) ?_
    refine g_get (C := RX7) (T := TX7) (N := 31) hx hb hts hi7 hown hN hP hk.1 rfl (by decide) 3 (by decide) hfX7_17 (v := .ref (B 3)) (hf 3 rfl) dX7_between_23 ?_
    refine lv_iconst (v := nI 4) hx hb dX7_between_26 (by decide) ?_
    refine lv_iload_n hx hb dX7_between_27 rfl (lv_at hl 4 rfl) ?_
    refine lv_imul hx hb dX7_between_28 ?_
    refine g_asi (show _ = nI (4 * j) from (pk_mul _ _).trans (by rfl)) ?_
    refine lv_iload hx hb dX7_between_29 (lv_at hl 0 rfl) ?_
    refine lv_iadd hx hb dX7_between_31 ?_
    refine g_asi (show _ = nI ((4 * j) + 0) from (nI_add _ _).trans (by rfl)) ?_
    refine g_iald (j := 4 * j + 0) hx hb hN hP (hk.2.1 3 (8, 400) rfl) (by decide) (show _ = nI (4 * j + 0) from rfl) (by omega) (v := .int (p9 0)) (hp 0 (by decide)) dX7_between_32 ?_
    refine lv_isub hx hb dX7_between_33 ?_
    refine lv_i2l (v := ((q 0) - (p9 0)).toInt64) hx hb dX7_between_34 rfl ?_
    refine lv_lstore (lv' := [(6, .long (((q 0) - (p9 0)).toInt64)), (5, .int (nI 0)), (3, .long 0), (0, .ref m9), (1, .int (nI i)), (2, .int (nI j))]) hx hb dX7_between_35 hl (by decide) rfl (fun ls hl => ?_)
    refine lv_lload_n hx hb dX7_between_37 rfl (lv_at hl 2 rfl) ?_
    refine lv_lload hx hb dX7_between_38 (lv_at hl 0 rfl) ?_
    refine lv_lload hx hb dX7_between_40 (lv_at hl 0 rfl) ?_
    refine lv_lmul hx hb dX7_between_42 ?_
    refine lv_ladd hx hb dX7_between_43 ?_
    refine g_asl (show _ = sqI (q 0 - p9 0) from by unfold sqI; rw [Int64.zero_add]) ?_
    refine lv_lstore_n (lv' := [(3, .long (sqI (q 0 - p9 0))), (6, .long (((q 0) - (p9 0)).toInt64)), (5, .int (nI 0)), (0, .ref m9), (1, .int (nI i)), (2, .int (nI j))]) hx hb dX7_between_44 rfl hl (by decide) rfl (fun ls hl => ?_)
    refine lv_iinc (v := nI 1) (lv' := [(5, .int (nI 1)), (3, .long (sqI (q 0 - p9 0))), (6, .long (((q 0) - (p9 0)).toInt64)), (0, .ref m9), (1, .int (nI i)), (2, .int (nI j))]) hx hb dX7_between_45 hl (k := 2) rfl (inc1 _) (by decide) rfl (fun ls hl => ?_)
    refine lv_goto (tgt := 5) hx hb dX7_between_48 (by decide) ?_
    refine lv_iload hx hb dX7_between_5 (lv_at hl 0 rfl) ?_
    refine lv_iconst (v := nI 4) hx hb dX7_between_7 (by decide) ?_
    refine lv_icmp_ge (tgt := 51) hx hb dX7_between_8 (by decide) (fun c1 => ?_) (fun c1 => ?_)
    · exact absurd c1 (by decide)
    · refine lv_aload_n hx hb dX7_between_11 rfl (lv_at hl 3 rfl) ?_
      refine g_get (C := RX7) (T := TX7) (N := 31) hx hb hts hi7 hown hN hP hk.1 rfl (by decide) 3 (by decide) hfX7_17 (v := .ref (B 3)) (hf 3 rfl) dX7_between_12 ?_
      refine lv_iconst (v := nI 4) hx hb dX7_between_15 (by decide) ?_
      refine lv_iload_n hx hb dX7_between_16 rfl (lv_at hl 4 rfl) ?_
      refine lv_imul hx hb dX7_between_17 ?_
      refine g_asi (show _ = nI (4 * i) from (pk_mul _ _).trans (by rfl)) ?_
      refine lv_iload hx hb dX7_between_18 (lv_at hl 0 rfl) ?_
      refine lv_iadd hx hb dX7_between_20 ?_
      refine g_asi (show _ = nI ((4 * i) + 1) from (nI_add _ _).trans (by rfl)) ?_
      refine g_iald (j := 4 * i + 1) hx hb hN hP (hk.2.1 3 (8, 400) rfl) (by decide) (show _ = nI (4 * i + 1) from rfl) (by omega) (v := .int (q 1)) (hq 1 (by decide)) dX7_between_21 ?_
      refine lv_aload_n hx hb dX7_between_22 rfl (lv_at hl 3 rfl) ?_
      refine g_get (C := RX7) (T := TX7) (N := 31) hx hb hts hi7 hown hN hP hk.1 rfl (by decide) 3 (by decide) hfX7_17 (v := .ref (B 3)) (hf 3 rfl) dX7_between_23 ?_
      refine lv_iconst (v := nI 4) hx hb dX7_between_26 (by decide) ?_
      refine lv_iload_n hx hb dX7_between_27 rfl (lv_at hl 5 rfl) ?_
      refine lv_imul hx hb dX7_between_28 ?_
      refine g_asi (show _ = nI (4 * j) from (pk_mul _ _).trans (by rfl)) ?_
      refine lv_iload hx hb dX7_between_29 (lv_at hl 0 rfl) ?_
      refine lv_iadd hx hb dX7_between_31 ?_
      refine g_asi (show _ = nI ((4 * j) + 1) from (nI_add _ _).trans (by rfl)) ?_
      refine g_iald (j := 4 * j + 1) hx hb hN hP (hk.2.1 3 (8, 400) rfl) (by decide) (show _ = nI (4 * j + 1) from rfl) (by omega) (v := .int (p9 1)) (hp 1 (by decide)) dX7_between_32 ?_
      refine lv_isub hx hb dX7_between_33 ?_
      refine lv_i2l (v := ((q 1) - (p9 1)).toInt64) hx hb dX7_between_34 rfl ?_
      refine lv_lstore (lv' := [(6, .long (((q 1) - (p9 1)).toInt64)), (5, .int (nI 1)), (3, .long (sqI (q 0 - p9 0))), (0, .ref m9), (1, .int (nI i)), (2, .int (nI j))]) hx hb dX7_between_35 hl (by decide) rfl (fun ls hl => ?_)
      refine lv_lload_n hx hb dX7_between_37 rfl (lv_at hl 2 rfl) ?_
      refine lv_lload hx hb dX7_between_38 (lv_at hl 0 rfl) ?_
      refine lv_lload hx hb dX7_between_40 (lv_at hl 0 rfl) ?_
      refine lv_lmul hx hb dX7_between_42 ?_
      refine lv_ladd hx hb dX7_between_43 ?_
      refine g_asl (show _ = sqI (q 0 - p9 0) + sqI (q 1 - p9 1) from rfl) ?_
      refine lv_lstore_n (lv' := [(3, .long (sqI (q 0 - p9 0) + sqI (q 1 - p9 1))), (6, .long (((q 1) - (p9 1)).toInt64)), (5, .int (nI 1)), (0, .ref m9), (1, .int (nI i)), (2, .int (nI j))]) hx hb dX7_between_44 rfl hl (by decide) rfl (fun ls hl => ?_)
      refine lv_iinc (v := nI 2) (lv' := [(5, .int (nI 2)), (3, .long (sqI (q 0 - p9 0) + sqI (q 1 - p9 1))), (6, .long (((q 1) - (p9 1)).toInt64)), (0, .ref m9), (1, .int (nI i)), (2, .int (nI j))]) hx hb dX7_between_45 hl (k := 2) rfl (inc1 _) (by decide) rfl (fun ls hl => ?_)
      refine lv_goto (tgt := 5) hx hb dX7_between_48 (by decide) ?_
      refine lv_iload hx hb dX7_between_5 (lv_at hl 0 rfl) ?_
      refine lv_iconst (v := nI 4) hx hb dX7_between_7 (by decide) ?_
      refine lv_icmp_ge (tgt := 51) hx hb dX7_between_8 (by decide) (fun c2 => ?_) (fun c2 => ?_)
      · exact absurd c2 (by decide)
      · refine lv_aload_n hx hb dX7_between_11 rfl (lv_at hl 3 rfl) ?_
        refine g_get (C := RX7) (T := TX7) (N := 31) hx hb hts hi7 hown hN hP hk.1 rfl (by decide) 3 (by decide) hfX7_17 (v := .ref (B 3)) (hf 3 rfl) dX7_between_12 ?_
        refine lv_iconst (v := nI 4) hx hb dX7_between_15 (by decide) ?_
        refine lv_iload_n hx hb dX7_between_16 rfl (lv_at hl 4 rfl) ?_
        refine lv_imul hx hb dX7_between_17 ?_
        refine g_asi (show _ = nI (4 * i) from (pk_mul _ _).trans (by rfl)) ?_
        refine lv_iload hx hb dX7_between_18 (lv_at hl 0 rfl) ?_
        refine lv_iadd hx hb dX7_between_20 ?_
        refine g_asi (show _ = nI ((4 * i) + 2) from (nI_add _ _).trans (by rfl)) ?_
        refine g_iald (j := 4 * i + 2) hx hb hN hP (hk.2.1 3 (8, 400) rfl) (by decide) (show _ = nI (4 * i + 2) from rfl) (by omega) (v := .int (q 2)) (hq 2 (by decide)) dX7_between_21 ?_
        refine lv_aload_n hx hb dX7_between_22 rfl (lv_at hl 3 rfl) ?_
        refine g_get (C := RX7) (T := TX7) (N := 31) hx hb hts hi7 hown hN hP hk.1 rfl (by decide) 3 (by decide) hfX7_17 (v := .ref (B 3)) (hf 3 rfl) dX7_between_23 ?_
        refine lv_iconst (v := nI 4) hx hb dX7_between_26 (by decide) ?_
        refine lv_iload_n hx hb dX7_between_27 rfl (lv_at hl 5 rfl) ?_
        refine lv_imul hx hb dX7_between_28 ?_
        refine g_asi (show _ = nI (4 * j) from (pk_mul _ _).trans (by rfl)) ?_
        refine lv_iload hx hb dX7_between_29 (lv_at hl 0 rfl) ?_
        refine lv_iadd hx hb dX7_between_31 ?_
        refine g_asi (show _ = nI ((4 * j) + 2) from (nI_add _ _).trans (by rfl)) ?_
        refine g_iald (j := 4 * j + 2) hx hb hN hP (hk.2.1 3 (8, 400) rfl) (by decide) (show _ = nI (4 * j + 2) from rfl) (by omega) (v := .int (p9 2)) (hp 2 (by decide)) dX7_between_32 ?_
        refine lv_isub hx hb dX7_between_33 ?_
        refine lv_i2l (v := ((q 2) - (p9 2)).toInt64) hx hb dX7_between_34 rfl ?_
        refine lv_lstore (lv' := [(6, .long (((q 2) - (p9 2)).toInt64)), (5, .int (nI 2)), (3, .long (sqI (q 0 - p9 0) + sqI (q 1 - p9 1))), (0, .ref m9), (1, .int (nI i)), (2, .int (nI j))]) hx hb dX7_between_35 hl (by decide) rfl (fun ls hl => ?_)
        refine lv_lload_n hx hb dX7_between_37 rfl (lv_at hl 2 rfl) ?_
        refine lv_lload hx hb dX7_between_38 (lv_at hl 0 rfl) ?_
        refine lv_lload hx hb dX7_between_40 (lv_at hl 0 rfl) ?_
        refine lv_lmul hx hb dX7_between_42 ?_
        refine lv_ladd hx hb dX7_between_43 ?_
        refine g_asl (show _ = sqI (q 0 - p9 0) + sqI (q 1 - p9 1) + sqI (q 2 - p9 2) from rfl) ?_
        refine lv_lstore_n (lv' := [(3, .long (sqI (q 0 - p9 0) + sqI (q 1 - p9 1) + sqI (q 2 - p9 2))), (6, .long (((q 2) - (p9 2)).toInt64)), (5, .int (nI 2)), (0, .ref m9), (1, .int (nI i)), (2, .int (nI j))]) hx hb dX7_between_44 rfl hl (by decide) rfl (fun ls hl => ?_)
        refine lv_iinc (v := nI 3) (lv' := [(5, .int (nI 3)), (3, .long (sqI (q 0 - p9 0) + sqI (q 1 - p9 1) + sqI (q 2 - p9 2))), (6, .long (((q 2) - (p9 2)).toInt64)), (0, .ref m9), (1, .int (nI i)), (2, .int (nI j))]) hx hb dX7_between_45 hl (k := 2) rfl (inc1 _) (by decide) rfl (fun ls hl => ?_)
        refine lv_goto (tgt := 5) hx hb dX7_between_48 (by decide) ?_
        refine lv_iload hx hb dX7_between_5 (lv_at hl 0 rfl) ?_
        refine lv_iconst (v := nI 4) hx hb dX7_between_7 (by decide) ?_
        refine lv_icmp_ge (tgt := 51) hx hb dX7_between_8 (by decide) (fun c3 => ?_) (fun c3 => ?_)
        · exact absurd c3 (by decide)
        · refine lv_aload_n hx hb dX7_between_11 rfl (lv_at hl 3 rfl) ?_
          refine g_get (C := RX7) (T := TX7) (N := 31) hx hb hts hi7 hown hN hP hk.1 rfl (by decide) 3 (by decide) hfX7_17 (v := .ref (B 3)) (hf 3 rfl) dX7_between_12 ?_
          refine lv_iconst (v := nI 4) hx hb dX7_between_15 (by decide) ?_
          refine lv_iload_n hx hb dX7_between_16 rfl (lv_at hl 4 rfl) ?_
          refine lv_imul hx hb dX7_between_17 ?_
          refine g_asi (show _ = nI (4 * i) from (pk_mul _ _).trans (by rfl)) ?_
          refine lv_iload hx hb dX7_between_18 (lv_at hl 0 rfl) ?_
          refine lv_iadd hx hb dX7_between_20 ?_
          refine g_asi (show _ = nI ((4 * i) + 3) from (nI_add _ _).trans (by rfl)) ?_
          refine g_iald (j := 4 * i + 3) hx hb hN hP (hk.2.1 3 (8, 400) rfl) (by decide) (show _ = nI (4 * i + 3) from rfl) (by omega) (v := .int (q 3)) (hq 3 (by decide)) dX7_between_21 ?_
          refine lv_aload_n hx hb dX7_between_22 rfl (lv_at hl 3 rfl) ?_
          refine g_get (C := RX7) (T := TX7) (N := 31) hx hb hts hi7 hown hN hP hk.1 rfl (by decide) 3 (by decide) hfX7_17 (v := .ref (B 3)) (hf 3 rfl) dX7_between_23 ?_
          refine lv_iconst (v := nI 4) hx hb dX7_between_26 (by decide) ?_
          refine lv_iload_n hx hb dX7_between_27 rfl (lv_at hl 5 rfl) ?_
          refine lv_imul hx hb dX7_between_28 ?_
          refine g_asi (show _ = nI (4 * j) from (pk_mul _ _).trans (by rfl)) ?_
          refine lv_iload hx hb dX7_between_29 (lv_at hl 0 rfl) ?_
          refine lv_iadd hx hb dX7_between_31 ?_
          refine g_asi (show _ = nI ((4 * j) + 3) from (nI_add _ _).trans (by rfl)) ?_
          refine g_iald (j := 4 * j + 3) hx hb hN hP (hk.2.1 3 (8, 400) rfl) (by decide) (show _ = nI (4 * j + 3) from rfl) (by omega) (v := .int (p9 3)) (hp 3 (by decide)) dX7_between_32 ?_
          refine lv_isub hx hb dX7_between_33 ?_
          refine lv_i2l (v := ((q 3) - (p9 3)).toInt64) hx hb dX7_between_34 rfl ?_
          refine lv_lstore (lv' := [(6, .long (((q 3) - (p9 3)).toInt64)), (5, .int (nI 3)), (3, .long (sqI (q 0 - p9 0) + sqI (q 1 - p9 1) + sqI (q 2 - p9 2))), (0, .ref m9), (1, .int (nI i)), (2, .int (nI j))]) hx hb dX7_between_35 hl (by decide) rfl (fun ls hl => ?_)
          refine lv_lload_n hx hb dX7_between_37 rfl (lv_at hl 2 rfl) ?_
          refine lv_lload hx hb dX7_between_38 (lv_at hl 0 rfl) ?_
          refine lv_lload hx hb dX7_between_40 (lv_at hl 0 rfl) ?_
          refine lv_lmul hx hb dX7_between_42 ?_
          refine lv_ladd hx hb dX7_between_43 ?_
          refine g_asl (show _ = sqI (q 0 - p9 0) + sqI (q 1 - p9 1) + sqI (q 2 - p9 2) + sqI (q 3 - p9 3) from rfl) ?_
          refine lv_lstore_n (lv' := [(3, .long (sqI (q 0 - p9 0) + sqI (q 1 - p9 1) + sqI (q 2 - p9 2) + sqI (q 3 - p9 3))), (6, .long (((q 3) - (p9 3)).toInt64)), (5, .int (nI 3)), (0, .ref m9), (1, .int (nI i)), (2, .int (nI j))]) hx hb dX7_between_44 rfl hl (by decide) rfl (fun ls hl => ?_)
          refine lv_iinc (v := nI 4) (lv' := [(5, .int (nI 4)), (3, .long (sqI (q 0 - p9 0) + sqI (q 1 - p9 1) + sqI (q 2 - p9 2) + sqI (q 3 - p9 3))), (6, .long (((q 3) - (p9 3)).toInt64)), (0, .ref m9), (1, .int (nI i)), (2, .int (nI j))]) hx hb dX7_between_45 hl (k := 2) rfl (inc1 _) (by decide) rfl (fun ls hl => ?_)
          refine lv_goto (tgt := 5) hx hb dX7_between_48 (by decide) ?_
          refine lv_iload hx hb dX7_between_5 (lv_at hl 0 rfl) ?_
          refine lv_iconst (v := nI 4) hx hb dX7_between_7 (by decide) ?_
          refine lv_icmp_ge (tgt := 51) hx hb dX7_between_8 (by decide) (fun c4 => ?_) (fun c4 => ?_)
          · refine lv_lload_n hx hb dX7_between_51 rfl (lv_at hl 1 rfl) ?_
            exact hret (some (.long (sqI (q 0 - p9 0) + sqI (q 1 - p9 1) + sqI (q 2 - p9 2) + sqI (q 3 - p9 3)))) _ _ (rfl) (rt_l dX7_between_52)
          · exact absurd (by decide) c4

set_option maxHeartbeats 4000000 in
set_option maxRecDepth 100000 in
theorem m_come (l : Launch) (Γ : gG) (K : gK) (F : gF) (sz : Nat) (m9 : Nat) (B : Nat → Nat) (hk : MKk K m9 B) (hf : MKf F m9 B) (i lim : Nat) (hi : i < 100) (q p9 : Nat → Int32) (hq : ∀ a, a < 4 → F (B 24) a = .int (q a)) (hp : ∀ a, a < 4 → F (B 3) (4 * i + a) = .int (p9 a)) (S : List (Nat × Int64)) (hL : RSl F m9 B S) (hS : S.length ≤ lim) (hlim : lim ≤ 100) (hS1 : ∀ y ∈ S, y.1 < 100) : gMM l yX7_come wsX7_come 1 0 0 Γ K F sz [.ref m9, .int (nI i), .int (nI lim)] (fun v K' F' => v = none ∧ K' = K ∧ RSl F' m9 B (offL lim (i, pDist q p9) S) ∧ ∀ b j, b ≠ B 25 → b ≠ B 26 → ¬ (b = m9 ∧ j = 27) → F' b j = F b j) := by
  refine g_mM (cc := cX7_come) (maxL := 8) (ret := none) (by decide) rfl (Nat.le_of_ble_eq_true rfl) ?_
  intro p e s m args below meth c ls Z hsz hx hb hts hown hml hnm hN hW hret hl
  have hl : lv_has ls 8 [(0, .ref m9), (1, .int (nI i)), (2, .int (nI lim))] := hl
  have hown : s.vm.findClass RX7 = some m.cls := hown
  have hi7 : ∀ w ∈ wsX70, w ∈ wsX7_come := by decide +kernel
  have hfX7_72 : Cond.fieldLink RX7 72 (TX7 25).1 (TX7 25).2.1 (TX7 25).2.2.1 ∈ wsX7_come := by decide +kernel
  have hfX7_75 : Cond.fieldLink RX7 75 (TX7 26).1 (TX7 26).2.1 (TX7 26).2.2.1 ∈ wsX7_come := by decide +kernel
  have hfX7_150 : Cond.fieldLink RX7 150 (TX7 27).1 (TX7 27).2.1 (TX7 27).2.2.1 ∈ wsX7_come := by decide +kernel
  obtain ⟨D, hD⟩ : ∃ D, D = pDist q p9 := ⟨_, rfl⟩
  have hX : (i, pDist q p9) = (i, D) := by rw [hD]
  rw [hX] at hret
  obtain ⟨hL1, hL2, hL3⟩ := hL
  have mid : ∀ (P Q : List (Nat × Int64)) (ls : Array Slot), S = P ++ Q → insR lAhead (i, D) S = P ++ (i, D) :: Q → lv_has ls 8 [(5, .int (nI P.length)), (3, .long D), (0, .ref m9), (1, .int (nI i)), (2, .int (nI lim))] → W p l e (gRm 1 0 0) s m args below meth c s.heap [] 0 0 Z (F0 m 64 ls []) := by
    intro P Q ls hS hI hl
    have hSl : S.length = P.length + Q.length := by rw [hS, List.length_append]
    refine lv_iload hx hb dX7_come_64 (lv_at hl 0 rfl) ?_
    refine lv_iload_n hx hb dX7_come_66 rfl (lv_at hl 4 rfl) ?_
    refine lv_icmp_ne (tgt := 71) hx hb dX7_come_67 (by decide) (fun c1 => ?_) (fun c1 => ?_)
    · have c1 : ¬ P.length = lim := fun z => c1 ((nI_eq (by omega) (by omega)).mpr z)
      have join : ∀ (T R : List (Nat × Int64)) (ls : Array Slot), Q = T ++ R → P.length + T.length < 100 → offL lim (i, D) S = P ++ (i, D) :: T → lv_has ls 8 [(5, .int (nI P.length)), (3, .long D), (0, .ref m9), (1, .int (nI i)), (2, .int (nI lim))] → W p l e (gRm 1 0 0) s m args below meth c s.heap [] 0 0 Z (F0 m 89 ls [.int (nI (P.length + T.length))]) := by
        intro T R ls hT h100 hof hl
        subst hS
        have hT2 : P ++ Q = (P ++ T) ++ R := by rw [hT, List.append_assoc]
        rw [hT2, List.map_append] at hL2 hL3
        refine lv_istore (lv' := [(6, .int (nI (P.length + T.length))), (5, .int (nI P.length)), (3, .long D), (0, .ref m9), (1, .int (nI i)), (2, .int (nI lim))]) hx hb dX7_come_89 hl (by decide) rfl (fun ls hl => ?_)
        refine lv_iload hx hb dX7_come_91 (lv_at hl 0 rfl) ?_
        refine lv_istore (lv' := [(7, .int (nI (P.length + T.length))), (6, .int (nI (P.length + T.length))), (5, .int (nI P.length)), (3, .long D), (0, .ref m9), (1, .int (nI i)), (2, .int (nI lim))]) hx hb dX7_come_93 hl (by decide) rfl (fun ls hl => ?_)
        have shf : ∀ (n : Nat) (A C : List (Nat × Int64)) (F1 : gF) (H : Heap) (locs : List Loc) (ls : Array Slot), A.length = n → T = A ++ C → rowL F1 (B 25) 0 ((P ++ A).map vId) → rowL F1 (B 25) (P.length + n + 1) (C.map vId) → rowL F1 (B 26) 0 ((P ++ A).map vDi) → rowL F1 (B 26) (P.length + n + 1) (C.map vDi) → (∀ b i, b ≠ B 25 → b ≠ B 26 → F1 b i = F b i) → gW Γ (gA K sz) s.heap K F1 H locs → lv_has ls 8 [(7, .int (nI (P.length + n))), (6, .int (nI (P.length + T.length))), (5, .int (nI P.length)), (3, .long D), (0, .ref m9), (1, .int (nI i)), (2, .int (nI lim))] → W p l e (gRm 1 0 0) s m args below meth c H locs 0 0 Z (F0 m 95 ls []) := by
          intro n
          induction n with
          | zero =>
            intro A C F1 H locs ls hA hTA r1 r2 r3 r4 hfr hW hl
            have hf1 : MKf F1 m9 B := hf.up (fun j _ => hfr m9 j (fun z => hk.nm (i := 25) rfl z.symm) (fun z => hk.nm (i := 26) rfl z.symm))
            have hTl := congrArg List.length hTA
            rw [List.length_append] at hTl
            obtain rfl : A = [] := List.length_eq_zero_iff.mp hA
            rw [List.nil_append] at hTA
            subst hTA
            rw [List.append_nil] at r1 r3
            refine lv_iload hx hb dX7_come_95 (lv_at hl 0 rfl) ?_
            refine lv_iload hx hb dX7_come_97 (lv_at hl 2 rfl) ?_
            refine lv_icmp_le (tgt := 140) hx hb dX7_come_99 (by decide) (fun c3 => ?_) (fun c3 => ?_)
            · have c3 : (P.length + 0) ≤ P.length := (nI_leI (by omega) (by omega)).mp c3
              refine lv_aload_n hx hb dX7_come_140 rfl (lv_at hl 4 rfl) ?_
              refine g_get (C := RX7) (T := TX7) (N := 31) hx hb hts hi7 hown hN hW.1 hk.1 rfl (by decide) 25 (by decide) hfX7_72 (v := .ref (B 25)) (hf1 25 rfl) dX7_come_141 ?_
              refine lv_iload hx hb dX7_come_144 (lv_at hl 2 rfl) ?_
              refine lv_iload_n hx hb dX7_come_146 rfl (lv_at hl 5 rfl) ?_
              refine g_iast (j := P.length) hx hb hN hW (hk.2.1 25 (8, 100) rfl) (by decide) (show _ = nI P.length from rfl) (by omega) dX7_come_147 (fun H locs hW => ?_)
              refine lv_aload_n hx hb dX7_come_148 rfl (lv_at hl 4 rfl) ?_
              refine g_get (C := RX7) (T := TX7) (N := 31) hx hb hts hi7 hown hN hW.1 hk.1 rfl (by decide) 26 (by decide) hfX7_75 (v := .ref (B 26)) ((gU_a (Ne.symm (hk.nm (i := 25) rfl))).trans (hf1 26 rfl)) dX7_come_149 ?_
              refine lv_iload hx hb dX7_come_152 (lv_at hl 2 rfl) ?_
              refine lv_lload_n hx hb dX7_come_154 rfl (lv_at hl 3 rfl) ?_
              refine g_last (j := P.length) hx hb hN hW (hk.2.1 26 (9, 100) rfl) (by decide) (show _ = nI P.length from rfl) (by omega) dX7_come_155 (fun H locs hW => ?_)
              refine lv_aload_n hx hb dX7_come_156 rfl (lv_at hl 4 rfl) ?_
              refine lv_iload hx hb dX7_come_157 (lv_at hl 1 rfl) ?_
              refine lv_iconst (v := nI 1) hx hb dX7_come_159 (by decide) ?_
              refine lv_iadd hx hb dX7_come_160 ?_
              refine g_asi (show _ = nI ((P.length + T.length) + 1) from (nI_add _ _).trans (by rfl)) ?_
              refine g_put (C := RX7) (T := TX7) (N := 31) hx hb hts hi7 tyX7 tyX7_ok nmX7 hown hN hW hk.1 rfl (by decide) 27 (by decide) hfX7_150 rfl rfl rfl dX7_come_161 (fun H locs hW => ?_)
              have u1 := rowL.fill (v := vId (i, D)) (P := P.map vId) (Q := T.map vId) r1 (by rw [Nat.zero_add, List.length_map]; exact r2)
              have u3 := rowL.fill (v := vDi (i, D)) (P := P.map vDi) (Q := T.map vDi) r3 (by rw [Nat.zero_add, List.length_map]; exact r4)
              rw [Nat.zero_add, List.length_map] at u1 u3
              have e25 : P.map vId ++ vId (i, D) :: T.map vId = (offL lim (i, D) (P ++ Q)).map vId := by rw [hof, List.map_append]; rfl
              have e26 : P.map vDi ++ vDi (i, D) :: T.map vDi = (offL lim (i, D) (P ++ Q)).map vDi := by rw [hof, List.map_append]; rfl
              rw [e25] at u1
              rw [e26] at u3
              exact hret none _ _ _ _ _ _ hW (⟨rfl, rfl, ⟨by rw [gU_self, hof, List.length_append, List.length_cons]; rfl, u1.keep (fun j _ _ => by rw [gU_a (hk.nm (i := 25) rfl), gU_a (hk.ne (i := 25) (j := 26) rfl rfl (by decide))]; rfl), u3.keep (fun j _ _ => by
                  rw [gU_a (hk.nm (i := 26) rfl)]
                  by_cases e : j = P.length
                  · rw [e, gU_self, gU_self]; rfl
                  · rw [gU_k e, gU_k e, gU_k e]) ⟩, fun b j h1 h2 h3 => by rw [gU_ne (fun z => h3 z), gU_a h2, gU_a h1]; exact hfr b j h1 h2⟩) (rt_v dX7_come_164)
            · have c3 : P.length < (P.length + 0) := Nat.not_le.mp (fun z => c3 ((nI_leI (by omega) (by omega)).mpr z))
              exact absurd c3 (by omega)
          | succ n ih =>
            intro A C F1 H locs ls hA hTA r1 r2 r3 r4 hfr hW hl
            have hf1 : MKf F1 m9 B := hf.up (fun j _ => hfr m9 j (fun z => hk.nm (i := 25) rfl z.symm) (fun z => hk.nm (i := 26) rfl z.symm))
            have hTl := congrArg List.length hTA
            rw [List.length_append] at hTl
            obtain ⟨A, z, rfl, hAl⟩ := snoc_of hA
            rw [← List.append_assoc, List.map_append] at r1 r3
            have hz1 := rowL.last (v := vId z) r1
            have hz3 := rowL.last (v := vDi z) r3
            rw [List.length_map, List.length_append, hAl, Nat.zero_add] at hz1 hz3
            have hsub1 : nI (P.length + (n + 1)) - nI 1 = nI (P.length + n) := by rw [show P.length + (n + 1) = P.length + n + 1 by omega]; exact (pk_sub (by omega)).trans (by rw [Nat.add_sub_cancel])
            refine lv_iload hx hb dX7_come_95 (lv_at hl 0 rfl) ?_
            refine lv_iload hx hb dX7_come_97 (lv_at hl 2 rfl) ?_
            refine lv_icmp_le (tgt := 140) hx hb dX7_come_99 (by decide) (fun c3 => ?_) (fun c3 => ?_)
            · have c3 : (P.length + (n + 1)) ≤ P.length := (nI_leI (by omega) (by omega)).mp c3
              exact absurd c3 (by omega)
            · have c3 : P.length < (P.length + (n + 1)) := Nat.not_le.mp (fun z => c3 ((nI_leI (by omega) (by omega)).mpr z))
              refine lv_aload_n hx hb dX7_come_102 rfl (lv_at hl 4 rfl) ?_
              refine g_get (C := RX7) (T := TX7) (N := 31) hx hb hts hi7 hown hN hW.1 hk.1 rfl (by decide) 25 (by decide) hfX7_72 (v := .ref (B 25)) (hf1 25 rfl) dX7_come_103 ?_
              refine lv_iload hx hb dX7_come_106 (lv_at hl 0 rfl) ?_
              refine lv_aload_n hx hb dX7_come_108 rfl (lv_at hl 4 rfl) ?_
              refine g_get (C := RX7) (T := TX7) (N := 31) hx hb hts hi7 hown hN hW.1 hk.1 rfl (by decide) 25 (by decide) hfX7_72 (v := .ref (B 25)) (hf1 25 rfl) dX7_come_109 ?_
              refine lv_iload hx hb dX7_come_112 (lv_at hl 0 rfl) ?_
              refine lv_iconst (v := nI 1) hx hb dX7_come_114 (by decide) ?_
              refine lv_isub hx hb dX7_come_115 ?_
              refine g_asi (show _ = nI (P.length + n) from hsub1) ?_
              refine g_iald (j := P.length + n) hx hb hN hW.1 (hk.2.1 25 (8, 100) rfl) (by decide) (show _ = nI (P.length + n) from rfl) (by omega) (v := .int (nI z.1)) hz1 dX7_come_116 ?_
              refine g_iast (j := P.length + (n + 1)) hx hb hN hW (hk.2.1 25 (8, 100) rfl) (by decide) (show _ = nI (P.length + (n + 1)) from rfl) (by omega) dX7_come_117 (fun H locs hW => ?_)
              refine lv_aload_n hx hb dX7_come_118 rfl (lv_at hl 4 rfl) ?_
              refine g_get (C := RX7) (T := TX7) (N := 31) hx hb hts hi7 hown hN hW.1 hk.1 rfl (by decide) 26 (by decide) hfX7_75 (v := .ref (B 26)) ((gU_a (Ne.symm (hk.nm (i := 25) rfl))).trans (hf1 26 rfl)) dX7_come_119 ?_
              refine lv_iload hx hb dX7_come_122 (lv_at hl 0 rfl) ?_
              refine lv_aload_n hx hb dX7_come_124 rfl (lv_at hl 4 rfl) ?_
              refine g_get (C := RX7) (T := TX7) (N := 31) hx hb hts hi7 hown hN hW.1 hk.1 rfl (by decide) 26 (by decide) hfX7_75 (v := .ref (B 26)) ((gU_a (Ne.symm (hk.nm (i := 25) rfl))).trans (hf1 26 rfl)) dX7_come_125 ?_
              refine lv_iload hx hb dX7_come_128 (lv_at hl 0 rfl) ?_
              refine lv_iconst (v := nI 1) hx hb dX7_come_130 (by decide) ?_
              refine lv_isub hx hb dX7_come_131 ?_
              refine g_asi (show _ = nI (P.length + n) from hsub1) ?_
              refine g_lald (j := P.length + n) hx hb hN hW.1 (hk.2.1 26 (9, 100) rfl) (by decide) (show _ = nI (P.length + n) from rfl) (by omega) (v := .long z.2) ((gU_a (hk.ne (i := 26) (j := 25) rfl rfl (by decide))).trans hz3) dX7_come_132 ?_
              refine g_last (j := P.length + (n + 1)) hx hb hN hW (hk.2.1 26 (9, 100) rfl) (by decide) (show _ = nI (P.length + (n + 1)) from rfl) (by omega) dX7_come_133 (fun H locs hW => ?_)
              have hl : lv_has ls 8 [(7, .int (nI (P.length + n + 1))), (6, .int (nI (P.length + T.length))), (5, .int (nI P.length)), (3, .long D), (0, .ref m9), (1, .int (nI i)), (2, .int (nI lim))] := hl
              refine lv_iinc (v := nI (P.length + n)) (lv' := [(7, .int (nI (P.length + n))), (6, .int (nI (P.length + T.length))), (5, .int (nI P.length)), (3, .long D), (0, .ref m9), (1, .int (nI i)), (2, .int (nI lim))]) hx hb dX7_come_134 hl (k := 0) rfl (dec1s _) (by decide) rfl (fun ls hl => ?_)
              refine lv_goto (tgt := 95) hx hb dX7_come_137 (by decide) ?_
              have u1 := rowL.shift (v := vId z) r1 (Q := C.map vId) (by rw [List.length_map, List.length_append, hAl, Nat.zero_add]; exact r2)
              have u3 := rowL.shift (v := vDi z) r3 (Q := C.map vDi) (by rw [List.length_map, List.length_append, hAl, Nat.zero_add]; exact r4)
              rw [List.length_map, List.length_append, hAl, Nat.zero_add, Nat.zero_add, show P.length + n + 1 = P.length + (n + 1) by omega] at u1 u3
              refine ih A (z :: C) _ H locs ls hAl (by rw [hTA]; simp) (u1.1.keep (fun j _ _ => gU_a (hk.ne (i := 25) (j := 26) rfl rfl (by decide)))) (u1.2.keep (fun j _ _ => gU_a (hk.ne (i := 25) (j := 26) rfl rfl (by decide)))) (u3.1.keep (fun j _ _ => ?_)) (u3.2.keep (fun j _ _ => ?_)) (fun b j h1 h2 => by rw [gU_a h2, gU_a h1]; exact hfr b j h1 h2) hW (lv_sub hl [0, 1, 2, 3, 4, 5, 6] rfl)
              · by_cases e : j = P.length + (n + 1)
                · rw [e, gU_self, gU_self]; rfl
                · rw [gU_k e, gU_k e, gU_k e]
              · by_cases e : j = P.length + (n + 1)
                · rw [e, gU_self, gU_self]; rfl
                · rw [gU_k e, gU_k e, gU_k e]
        exact shf T.length T [] F s.heap [] ls rfl (by rw [List.append_nil]) hL2.left rowL.nil hL3.left rowL.nil (fun _ _ _ _ => rfl) hW (lv_sub hl [0, 1, 2, 3, 4, 5, 6] rfl)
      refine lv_aload_n hx hb dX7_come_71 rfl (lv_at hl 2 rfl) ?_
      refine g_get (C := RX7) (T := TX7) (N := 31) hx hb hts hi7 hown hN hW.1 hk.1 rfl (by decide) 27 (by decide) hfX7_150 (v := .int (nI S.length)) hL1 dX7_come_72 ?_
      refine lv_iload_n hx hb dX7_come_75 rfl (lv_at hl 4 rfl) ?_
      refine lv_icmp_ge (tgt := 86) hx hb dX7_come_76 (by decide) (fun c2 => ?_) (fun c2 => ?_)
      · have c2 : lim ≤ S.length := (nI_leI (by omega) (by omega)).mp c2
        obtain ⟨T, z, hT, hTl⟩ := snoc_of (show Q.length = (Q.length - 1) + 1 by omega)
        have hTl2 : P.length + T.length + 1 = lim := by have := congrArg List.length hT; rw [List.length_append, List.length_singleton] at this; omega
        refine lv_iload_n hx hb dX7_come_86 rfl (lv_at hl 4 rfl) ?_
        refine lv_iconst (v := nI 1) hx hb dX7_come_87 (by decide) ?_
        refine lv_isub hx hb dX7_come_88 ?_
        refine g_asi (show _ = nI (P.length + T.length) from by rw [← hTl2, pk_sub (by omega), Nat.add_sub_cancel]) ?_
        exact join T [z] ls hT (by omega) (by
          unfold offL
          rw [hI, hT, ← hTl2, show P ++ (i, D) :: (T ++ [z]) = (P ++ (i, D) :: T) ++ [z] by simp, List.take_left' (by simp; omega)]) (lv_sub hl [0, 1, 2, 3, 4] rfl)
      · have c2 : S.length < lim := Nat.not_le.mp (fun z => c2 ((nI_leI (by omega) (by omega)).mpr z))
        refine lv_aload_n hx hb dX7_come_79 rfl (lv_at hl 2 rfl) ?_
        refine g_get (C := RX7) (T := TX7) (N := 31) hx hb hts hi7 hown hN hW.1 hk.1 rfl (by decide) 27 (by decide) hfX7_150 (v := .int (nI S.length)) hL1 dX7_come_80 ?_
        refine lv_goto (tgt := 89) hx hb dX7_come_83 (by decide) ?_
        refine g_asi (show _ = nI (P.length + Q.length) from by rw [hSl]) ?_
        exact join Q [] ls (by rw [List.append_nil]) (by omega) (by unfold offL; rw [hI, List.take_of_length_le (by simp; omega)]) (lv_sub hl [0, 1, 2, 3, 4] rfl)
    · have c1 : P.length = lim := (nI_eq (by omega) (by omega)).mp c1
      have hQ : Q = [] := List.length_eq_zero_iff.mp (by omega)
      have hof : offL lim (i, D) S = S := by unfold offL; rw [hI, hQ, ← c1, List.take_left]; rw [hS, hQ, List.append_nil]
      exact hret none _ _ _ _ _ _ hW (⟨rfl, rfl, by rw [hof]; exact ⟨hL1, hL2, hL3⟩, fun _ _ _ _ _ => rfl⟩) (rt_v dX7_come_70)
  have scan : ∀ (n : Nat) (P Q : List (Nat × Int64)) (ls : Array Slot), P.length = n → S = P ++ Q → (∀ y ∈ Q, lAhead (i, D) y = true) → lv_has ls 8 [(5, .int (nI n)), (3, .long D), (0, .ref m9), (1, .int (nI i)), (2, .int (nI lim))] → W p l e (gRm 1 0 0) s m args below meth c s.heap [] 0 0 Z (F0 m 12 ls []) := by
    intro n
    induction n with
    | zero =>
      intro P Q ls hP hS hQ hl
      obtain rfl : P = [] := List.length_eq_zero_iff.mp hP
      refine lv_iload hx hb dX7_come_12 (lv_at hl 0 rfl) ?_
      refine lv_if_le (tgt := 64) hx hb dX7_come_14 (by decide) (fun c1 => ?_) (fun c1 => ?_)
      · have c1 : 0 = 0 := (nI_le0 (by omega)).mp c1
        exact mid [] Q ls hS (by rw [hS, List.nil_append, insR_all hQ]; rfl) (lv_sub hl [0, 1, 2, 3, 4] rfl)
      · have c1 : 0 < 0 := Nat.pos_of_ne_zero (fun z => c1 ((nI_le0 (by omega)).mpr z))
        exact absurd c1 (by decide)
    | succ n ih =>
      intro P Q ls hP hS hQ hl
      obtain ⟨P, z, rfl, hPl⟩ := snoc_of hP
      have hSl : S.length = n + 1 + Q.length := by rw [hS, List.length_append, hP]
      have hz1 : F (B 25) n = .int (nI z.1) := by
        have q := hL2
        rw [hS, List.map_append, List.map_append] at q
        have q := rowL.last (v := vId z) q.left
        rw [List.length_map, hPl, Nat.zero_add] at q
        exact q
      have hz3 : F (B 26) n = .long z.2 := by
        have q := hL3
        rw [hS, List.map_append, List.map_append] at q
        have q := rowL.last (v := vDi z) q.left
        rw [List.length_map, hPl, Nat.zero_add] at q
        exact q
      have hzS : z.1 < 100 := hS1 z (by rw [hS]; simp)
      refine lv_iload hx hb dX7_come_12 (lv_at hl 0 rfl) ?_
      refine lv_if_le (tgt := 64) hx hb dX7_come_14 (by decide) (fun c1 => ?_) (fun c1 => ?_)
      · have c1 : (n + 1) = 0 := (nI_le0 (by omega)).mp c1
        exact absurd c1 (by omega)
      · have c1 : 0 < (n + 1) := Nat.pos_of_ne_zero (fun z => c1 ((nI_le0 (by omega)).mpr z))
        refine lv_aload_n hx hb dX7_come_17 rfl (lv_at hl 2 rfl) ?_
        refine g_get (C := RX7) (T := TX7) (N := 31) hx hb hts hi7 hown hN hW.1 hk.1 rfl (by decide) 26 (by decide) hfX7_75 (v := .ref (B 26)) (hf 26 rfl) dX7_come_18 ?_
        refine lv_iload hx hb dX7_come_21 (lv_at hl 0 rfl) ?_
        refine lv_iconst (v := nI 1) hx hb dX7_come_23 (by decide) ?_
        refine lv_isub hx hb dX7_come_24 ?_
        refine g_asi (show _ = nI n from pk_sub (by omega)) ?_
        refine g_lald (j := n) hx hb hN hW.1 (hk.2.1 26 (9, 100) rfl) (by decide) (show _ = nI n from rfl) (by omega) (v := .long z.2) hz3 dX7_come_25 ?_
        refine lv_lload_n hx hb dX7_come_26 rfl (lv_at hl 1 rfl) ?_
        refine W.lcmp hx hb dX7_come_27 ?_
        refine lv_if_gt (tgt := 58) hx hb dX7_come_28 (by decide) (fun c2 => ?_) (fun c2 => ?_)
        · have c2 : _ := (lg_cmp_gt _ _).mp c2
          refine lv_iinc (v := nI n) (lv' := [(5, .int (nI n)), (3, .long D), (0, .ref m9), (1, .int (nI i)), (2, .int (nI lim))]) hx hb dX7_come_58 hl (k := 0) rfl (dec1s _) (by decide) rfl (fun ls hl => ?_)
          refine lv_goto (tgt := 12) hx hb dX7_come_61 (by decide) ?_
          exact ih P (z :: Q) ls hPl (by rw [hS]; simp) (fun y hy => by
            rcases List.mem_cons.mp hy with rfl | hy
            · exact decide_eq_true (Or.inl c2)
            · exact hQ y hy) (lv_sub hl [0, 1, 2, 3, 4] rfl)
        · have c2 : ¬ _ := fun z => c2 ((lg_cmp_gt _ _).mpr z)
          refine lv_aload_n hx hb dX7_come_31 rfl (lv_at hl 2 rfl) ?_
          refine g_get (C := RX7) (T := TX7) (N := 31) hx hb hts hi7 hown hN hW.1 hk.1 rfl (by decide) 26 (by decide) hfX7_75 (v := .ref (B 26)) (hf 26 rfl) dX7_come_32 ?_
          refine lv_iload hx hb dX7_come_35 (lv_at hl 0 rfl) ?_
          refine lv_iconst (v := nI 1) hx hb dX7_come_37 (by decide) ?_
          refine lv_isub hx hb dX7_come_38 ?_
          refine g_asi (show _ = nI n from pk_sub (by omega)) ?_
          refine g_lald (j := n) hx hb hN hW.1 (hk.2.1 26 (9, 100) rfl) (by decide) (show _ = nI n from rfl) (by omega) (v := .long z.2) hz3 dX7_come_39 ?_
          refine lv_lload_n hx hb dX7_come_40 rfl (lv_at hl 1 rfl) ?_
          refine W.lcmp hx hb dX7_come_41 ?_
          refine lv_if_ne (tgt := 64) hx hb dX7_come_42 (by decide) (fun c4 => ?_) (fun c4 => ?_)
          · have c4 : ¬ _ := fun z => c4 ((lg_cmp_eq _ _).mpr z)
            have hz : lAhead (i, D) z = false := decide_eq_false (fun y => y.elim (fun y => c2 y) (fun y => c4 y.1.symm))
            rw [← hP] at hl
            exact mid (P ++ [z]) Q ls hS (by rw [hS, insR_eq hQ hz]) (lv_sub hl [0, 1, 2, 3, 4] rfl)
          · have c4 : _ := (lg_cmp_eq _ _).mp c4
            refine lv_aload_n hx hb dX7_come_45 rfl (lv_at hl 2 rfl) ?_
            refine g_get (C := RX7) (T := TX7) (N := 31) hx hb hts hi7 hown hN hW.1 hk.1 rfl (by decide) 25 (by decide) hfX7_72 (v := .ref (B 25)) (hf 25 rfl) dX7_come_46 ?_
            refine lv_iload hx hb dX7_come_49 (lv_at hl 0 rfl) ?_
            refine lv_iconst (v := nI 1) hx hb dX7_come_51 (by decide) ?_
            refine lv_isub hx hb dX7_come_52 ?_
            refine g_asi (show _ = nI n from pk_sub (by omega)) ?_
            refine g_iald (j := n) hx hb hN hW.1 (hk.2.1 25 (8, 100) rfl) (by decide) (show _ = nI n from rfl) (by omega) (v := .int (nI z.1)) hz1 dX7_come_53 ?_
            refine lv_iload_n hx hb dX7_come_54 rfl (lv_at hl 3 rfl) ?_
            refine lv_icmp_le (tgt := 64) hx hb dX7_come_55 (by decide) (fun c5 => ?_) (fun c5 => ?_)
            · have c5 : z.1 ≤ i := (nI_leI (by omega) (by omega)).mp c5
              have hz : lAhead (i, D) z = false := decide_eq_false (fun y => y.elim (fun y => c2 y) (fun y => absurd y.2 (Nat.not_lt.mpr c5)))
              rw [← hP] at hl
              exact mid (P ++ [z]) Q ls hS (by rw [hS, insR_eq hQ hz]) (lv_sub hl [0, 1, 2, 3, 4] rfl)
            · have c5 : i < z.1 := Nat.not_le.mp (fun z => c5 ((nI_leI (by omega) (by omega)).mpr z))
              refine lv_iinc (v := nI n) (lv' := [(5, .int (nI n)), (3, .long D), (0, .ref m9), (1, .int (nI i)), (2, .int (nI lim))]) hx hb dX7_come_58 hl (k := 0) rfl (dec1s _) (by decide) rfl (fun ls hl => ?_)
              refine lv_goto (tgt := 12) hx hb dX7_come_61 (by decide) ?_
              exact ih P (z :: Q) ls hPl (by rw [hS]; simp) (fun y hy => by
                rcases List.mem_cons.mp hy with rfl | hy
                · exact decide_eq_true (Or.inr ⟨c4.symm, c5⟩)
                · exact hQ y hy) (lv_sub hl [0, 1, 2, 3, 4] rfl)
  refine lv_aload_n hx hb dX7_come_0 rfl (lv_at hl 0 rfl) ?_
  refine lv_iload_n hx hb dX7_come_1 rfl (lv_at hl 1 rfl) ?_
  refine g_cV (v := (some (.long (pDist q p9)))) (As := [.int (nI i)]) (b := m9) (rest := []) hx hb hml hown hts hN hW.1 (m_away l Γ K F m9 B hk hf i hi q p9 hq hp) gX7_come_X7_away rfl hk.1 (by decide) rfl (na := 1) rfl (by decide +kernel) ⟨by decide, by decide⟩ ⟨Nat.zero_le _, Nat.zero_le _⟩ rfl hl.1 (Nat.le_of_ble_eq_true rfl) dX7_come_2 ?_
  show W _ _ _ _ _ _ _ _ _ _ _ _ _ _ _ (F0 m 5 ls [.long (pDist q p9)])
  refine g_asl (show _ = D from by rw [hD]) ?_
  refine lv_lstore_n (lv' := [(3, .long D), (0, .ref m9), (1, .int (nI i)), (2, .int (nI lim))]) hx hb dX7_come_5 rfl hl (by decide) rfl (fun ls hl => ?_)
  refine lv_aload_n hx hb dX7_come_6 rfl (lv_at hl 1 rfl) ?_
  refine g_get (C := RX7) (T := TX7) (N := 31) hx hb hts hi7 hown hN hW.1 hk.1 rfl (by decide) 27 (by decide) hfX7_150 (v := .int (nI S.length)) hL1 dX7_come_7 ?_
  refine lv_istore (lv' := [(5, .int (nI S.length)), (3, .long D), (0, .ref m9), (1, .int (nI i)), (2, .int (nI lim))]) hx hb dX7_come_10 hl (by decide) rfl (fun ls hl => ?_)
  exact scan S.length S [] ls rfl (by rw [List.append_nil]) (fun y hy => by cases hy) (lv_sub hl [0, 1, 2, 3, 4] rfl)
