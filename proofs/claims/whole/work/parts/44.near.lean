def axD (a : Int32) : Nat := if a < 1 then 1 else if 4 < a then 4 else a.toInt.toNat
theorem axD_pos (a : Int32) : 0 < axD a := by
  unfold axD
  split
  · decide
  · split
    · decide
    · next h _ =>
      have := Int32.le_iff_toInt_le.mp (Int32.not_lt.mp h)
      rw [show (1 : Int32).toInt = 1 from by decide] at this
      omega
theorem axD_le (a : Int32) : axD a ≤ 4 := by
  unfold axD
  split
  · decide
  · split
    · decide
    · next _ h =>
      have := Int32.le_iff_toInt_le.mp (Int32.not_lt.mp h)
      rw [show (4 : Int32).toInt = 4 from by decide] at this
      omega
theorem axD_eq (a : Int32) : nI (axD a) = if a < 1 then 1 else if 4 < a then 4 else a := by
  unfold axD
  split
  · decide
  · split
    · decide
    · next h h2 =>
      have h := Int32.le_iff_toInt_le.mp (Int32.not_lt.mp h)
      have h2 := Int32.le_iff_toInt_le.mp (Int32.not_lt.mp h2)
      rw [show (1 : Int32).toInt = 1 from by decide] at h
      rw [show (4 : Int32).toInt = 4 from by decide] at h2
      apply Int32.toInt_inj.mp
      rw [nI_toInt (by omega)]
      omega
theorem axD_mm (a : Int32) : (if nI 1 < (if a < nI 4 then a else nI 4) then (if a < nI 4 then a else nI 4) else nI 1) = nI (axD a) := by
  rw [axD_eq, show nI 1 = 1 from by decide, show nI 4 = 4 from by decide]
  have e := fun x y : Int32 => Int32.lt_iff_toInt_lt (x := x) (y := y)
  by_cases h4 : a < 4
  · rw [if_pos h4]
    by_cases h1 : 1 < a
    · rw [if_pos h1, if_neg (by simp only [e] at *; omega), if_neg (by simp only [e] at *; omega)]
    · rw [if_neg h1]
      by_cases h0 : a < 1
      · rw [if_pos h0]
      · rw [if_neg h0, if_neg (by simp only [e] at *; omega)]
        apply Int32.toInt_inj.mp
        simp only [e] at *
        omega
  · rw [if_neg h4, if_pos (by decide), if_neg (by
      have q : (1 : Int32).toInt = 1 := by decide
      have q2 : (4 : Int32).toInt = 4 := by decide
      simp only [e] at *; omega)]
    by_cases h5 : 4 < a
    · rw [if_pos h5]
    · rw [if_neg h5]
      apply Int32.toInt_inj.mp
      simp only [e] at *
      omega

set_option maxHeartbeats 4000000 in
set_option maxRecDepth 100000 in
theorem c_NearTree (l : Launch) (Γ : gG) (K : gK) (F : gF) (sz : Nat) (x : Nat) (a9 : Int32) (kx : K x = some (6, 0)) (hz : ∀ j, 5 ≤ j → j < 9 → F x j = .int (nI 0)) : gMC l yX6_init wsX6_init 3 9 494 Γ K F sz [.ref x, .int a9] (fun v K' F' => v = none ∧ ∃ lb T row h ai ad J pts lens, NT K' F' x lb T row h ai ad J pts lens (axD a9) tL (fun _ => none) (fun _ => (0, fun _ => 0)) (fun _ => 0) (fun _ => false) [] 0 0 0 0 0) := by
  refine g_mC (cc := cX6_init) (maxL := 2) (ret := none) (by decide) rfl (Nat.le_of_ble_eq_true rfl) ?_
  intro p e s m args below meth c ls Z hsz hx hb hts hown hml hnm hA9 hN hW hret hl
  have hl : lv_has ls 2 [(0, .ref x), (1, .int a9)] := hl
  have hown : s.vm.findClass RX6 = some m.cls := hown
  have hi0 : ∀ w ∈ wsX00, w ∈ wsX6_init := by decide +kernel
  have hi1 : ∀ w ∈ wsX10, w ∈ wsX6_init := by decide +kernel
  have hi5 : ∀ w ∈ wsX50, w ∈ wsX6_init := by decide +kernel
  have hi6 : ∀ w ∈ wsX60, w ∈ wsX6_init := by decide +kernel
  have hfX6_18 : Cond.fieldLink RX6 18 (TX6 0).1 (TX6 0).2.1 (TX6 0).2.2.1 ∈ wsX6_init := by decide +kernel
  have hfX6_24 : Cond.fieldLink RX6 24 (TX6 1).1 (TX6 1).2.1 (TX6 1).2.2.1 ∈ wsX6_init := by decide +kernel
  have hfX6_33 : Cond.fieldLink RX6 33 (TX6 2).1 (TX6 2).2.1 (TX6 2).2.2.1 ∈ wsX6_init := by decide +kernel
  have hfX6_40 : Cond.fieldLink RX6 40 (TX6 3).1 (TX6 3).2.1 (TX6 3).2.2.1 ∈ wsX6_init := by decide +kernel
  have hfX6_47 : Cond.fieldLink RX6 47 (TX6 4).1 (TX6 4).2.1 (TX6 4).2.2.1 ∈ wsX6_init := by decide +kernel
  refine lv_aload_n hx hb dX6_init_0 rfl (lv_at hl 0 rfl) ?_
  refine W.objInit hx hb hown (hts _ (show Cond.methodLink RX6 3 objectInit ∈ _ by decide +kernel)) (hts _ (show Cond.instanceMethod objectInit ∈ _ by decide +kernel)) (hts _ (show Cond.code objectInit ⟨#[0xb1]⟩ 1 none ∈ _ by decide +kernel)) rfl (by rw [hml]; exact hl.1) rfl dX6_init_1 (by decide) (Nat.le_of_ble_eq_true rfl) ?_
  refine W.eq (g2 := F0 m 4 ls []) rfl ?_
  refine lv_aload_n hx hb dX6_init_4 rfl (lv_at hl 0 rfl) ?_
  refine lv_iconst (v := nI 1) hx hb dX6_init_5 (by decide) ?_
  refine lv_iconst (v := nI 4) hx hb dX6_init_6 (by decide) ?_
  refine lv_iload_n hx hb dX6_init_7 rfl (lv_at hl 1 rfl) ?_
  refine va_mmin hx hb (hml.trans hl.1.symm) hown (hts _ (show Cond.methodLink RX6 9 Lib.Math.min.name ∈ _ by decide +kernel)) (hts _ (by decide +kernel)) (hts _ (by decide +kernel)) (hts _ (by decide +kernel)) (by decide) (Nat.le_of_ble_eq_true rfl) (Nat.zero_le _) (Nat.zero_le _) dX6_init_8 ?_
  refine g_asi (show _ = if a9 < nI 4 then a9 else nI 4 from rfl) ?_
  refine va_mmax hx hb (hml.trans hl.1.symm) hown (hts _ (show Cond.methodLink RX6 15 Lib.Math.max.name ∈ _ by decide +kernel)) (hts _ (by decide +kernel)) (hts _ (by decide +kernel)) (hts _ (by decide +kernel)) (by decide) (Nat.le_of_ble_eq_true rfl) (Nat.zero_le _) (Nat.zero_le _) dX6_init_11 ?_
  refine g_asi (show _ = nI (axD a9) from axD_mm a9) ?_
  refine g_putF (C := RX6) (T := TX6) (N := 9) hx hb hts hi6 tyX6 tyX6_ok nmX6 hown hN hW kx rfl (by decide) 0 (by decide) hfX6_18 rfl hnm rfl rfl rfl dX6_init_14 (fun H locs hW => ?_)
  refine lv_aload_n hx hb dX6_init_17 rfl (lv_at hl 0 rfl) ?_
  refine lv_bipush (v := nI 100) hx hb dX6_init_18 (by decide) ?_
  refine g_newq (N := 100) hx hb hts hown (show Cond.classLink RX6 22 "NearTree$Node" ∈ _ by decide +kernel) hA9 hN hW rfl (by decide) (Nat.le_of_ble_eq_true rfl) (Nat.le_of_ble_eq_true rfl) dX6_init_20 (fun lb H hqe_lb hq_lb hW => ?_)
  refine g_putF (C := RX6) (T := TX6) (N := 9) hx hb hts hi6 tyX6 tyX6_ok nmX6 hown hN hW (kup hq_lb kx) rfl (by decide) 1 (by decide) hfX6_24 rfl hnm rfl rfl rfl dX6_init_23 (fun H locs hW => ?_)
  refine lv_aload_n hx hb dX6_init_26 rfl (lv_at hl 0 rfl) ?_
  have kx1 := kup (k' := (11, 100)) hq_lb kx
  have y0 : (gU (va_up (gU F x 0 (.int (nI (axD a9)))) lb (fun _ => .null)) x 1 (.ref lb)) x 0 = .int (nI (axD a9)) := by rw [gU_k (by decide), fup' hq_lb kx]; exact gU_self
  have y1 : (gU (va_up (gU F x 0 (.int (nI (axD a9)))) lb (fun _ => .null)) x 1 (.ref lb)) x 1 = .ref lb := gU_self
  have y5 : ∀ j, 5 ≤ j → (gU (va_up (gU F x 0 (.int (nI (axD a9)))) lb (fun _ => .null)) x 1 (.ref lb)) x j = F x j := fun j hj => by rw [gU_k (by omega), fup' hq_lb kx, gU_k (by omega)]
  have nlx : lb ≠ x := fun e => by rw [e, kx] at hq_lb; cases hq_lb
  have ylb : ∀ j, (gU (va_up (gU F x 0 (.int (nI (axD a9)))) lb (fun _ => .null)) x 1 (.ref lb)) lb j = .null := fun j => by rw [gU_a nlx]; exact congrFun (va_up_self _ _ _) j
  have klb : (va_up K lb (some (11, 100))) lb = some (11, 100) := va_up_self _ _ _
  generalize hK1 : (va_up K lb (some (11, 100))) = K1 at hW kx1 klb
  generalize hF1 : (gU (va_up (gU F x 0 (.int (nI (axD a9)))) lb (fun _ => .null)) x 1 (.ref lb)) = F1 at hW y0 y1 y5 ylb
  refine g_new (C := RX5) (T := TX5) (N := 4) (ci := 5) hx hb hts hi5 tyX5 tyX5_ok hown (show Cond.classLink RX6 28 RX5 ∈ _ by decide +kernel) (by decide +kernel) (by decide +kernel) hN hW rfl (by decide) (Nat.le_of_ble_eq_true rfl) (Nat.le_of_ble_eq_true rfl) dX6_init_27 (fun T H hqe_T hq_T hW => ?_)
  refine lv_dup hx hb dX6_init_30 rfl ?_
  refine lv_aload_n hx hb dX6_init_31 rfl (lv_at hl 0 rfl) ?_
  refine g_get (C := RX6) (T := TX6) (N := 9) hx hb hts hi6 hown hN hW.1 (kup hq_T kx1) rfl (by decide) 0 (by decide) hfX6_18 (v := .int (nI (axD a9))) (fup hq_T kx1 y0) dX6_init_32 ?_
  have kT : (va_up K1 T (some (5, 0))) T = some (5, 0) := va_up_self _ _ _
  refine g_mIC (As := [.int (nI (axD a9))]) (b := T) (rest := [.ref T, .ref x]) hA9 hx hb hml hown hts hN hW (c_Tree l Γ _ _ H.size T (axD a9) kT) gX6_init_X5_init rfl (by decide +kernel) (by decide +kernel) (by decide +kernel) rfl (na := 1) rfl (by decide +kernel) ⟨by decide, by decide⟩ ⟨Nat.le_of_ble_eq_true rfl, Nat.le_of_ble_eq_true rfl⟩ rfl hl.1 (Nat.le_of_ble_eq_true rfl) dX6_init_35 (fun v K3 F3 H locs hp hW hsz' => ?_)
  obtain ⟨rfl, row, hE, ht0, ht1, ht2, ht3⟩ := hp
  show W _ _ _ _ _ _ _ _ _ _ _ _ _ _ _ (F0 m 38 ls [.ref T, .ref x])
  have eK3 : ∀ a k, K1 a = some k → K3 a = some k := fun a k h => hE.1 a k (kup hq_T h)
  have eF3 : ∀ b j k, K1 b = some k → F3 b j = F1 b j := fun b j k h => (hE.2.2 b j k (kup hq_T h) (fun e => by rw [e, hq_T] at h; cases h)).trans (fup' hq_T h)
  have kT3 : K3 T = some (5, 0) := hE.1 _ _ kT
  have krow3 : K3 row = some (11, 60) := (hE.2.1 _ List.mem_cons_self).2
  have ht2 : F3 T 2 = va_rf (tRt (tL : TT Nat)) := ht2.trans (congrFun (va_up_self _ _ _) 2)
  have ht3 : F3 T 3 = .int (nI 0) := ht3.trans (congrFun (va_up_self _ _ _) 3)
  refine g_putF (C := RX6) (T := TX6) (N := 9) hx hb hts hi6 tyX6 tyX6_ok nmX6 hown hN hW (eK3 _ _ kx1) rfl (by decide) 2 (by decide) hfX6_33 rfl hnm rfl rfl rfl dX6_init_38 (fun H locs hW => ?_)
  generalize hF4 : (gU F3 x 2 (.ref T)) = F4 at hW
  have xT : x ≠ T := kne (eK3 _ _ kx1) kT3 (by decide)
  have f4 : ∀ b j, ¬ (b = x ∧ j = 2) → F4 b j = F3 b j := fun b j h => by rw [← hF4, gU_ne h]
  have z2 : F4 x 2 = .ref T := by rw [← hF4]; exact gU_self
  refine lv_aload_n hx hb dX6_init_41 rfl (lv_at hl 0 rfl) ?_
  refine g_new (C := RX1) (T := TX1) (N := 4) (ci := 1) hx hb hts hi1 tyX1 tyX1_ok hown (show Cond.classLink RX6 37 RX1 ∈ _ by decide +kernel) (by decide +kernel) (by decide +kernel) hN hW rfl (by decide) (Nat.le_of_ble_eq_true rfl) (Nat.le_of_ble_eq_true rfl) dX6_init_42 (fun h H hqe_h hq_h hW => ?_)
  refine lv_dup hx hb dX6_init_45 rfl ?_
  have kh : (va_up K3 h (some (1, 0))) h = some (1, 0) := va_up_self _ _ _
  refine g_mI (As := []) (b := h) (rest := [.ref h, .ref x]) hx hb hml hown hts hN hW (c_NearList l Γ _ _ H.size h kh) gX6_init_X1_init rfl (by decide +kernel) (by decide +kernel) (by decide +kernel) rfl (na := 0) rfl (by decide +kernel) ⟨by decide, by decide⟩ ⟨Nat.le_of_ble_eq_true rfl, Nat.le_of_ble_eq_true rfl⟩ rfl hl.1 (Nat.le_of_ble_eq_true rfl) dX6_init_46 (fun v K5 F5 H locs hp hW hsz' => ?_)
  obtain ⟨rfl, ai, ad, hE5, hh0, hh1, hh2, hh3⟩ := hp
  show W _ _ _ _ _ _ _ _ _ _ _ _ _ _ _ (F0 m 49 ls [.ref h, .ref x])
  have eK5 : ∀ a k, K3 a = some k → K5 a = some k := fun a k h => hE5.1 a k (kup hq_h h)
  have eF5 : ∀ b j k, K3 b = some k → F5 b j = F4 b j := fun b j k h => (hE5.2.2 b j k (kup hq_h h) (fun e => by rw [e, hq_h] at h; cases h)).trans (fup' hq_h h)
  have kh5 : K5 h = some (1, 0) := hE5.1 _ _ kh
  have kai5 : K5 ai = some (8, 100) := (hE5.2.1 _ List.mem_cons_self).2
  have kad5 : K5 ad = some (9, 100) := (hE5.2.1 _ (List.mem_cons_of_mem _ List.mem_cons_self)).2
  have hh2 : F5 h 2 = .int (nI 0) := hh2.trans (congrFun (va_up_self _ _ _) 2)
  have hh3 : F5 h 3 = .int (nI 0) := hh3.trans (congrFun (va_up_self _ _ _) 3)
  refine g_putF (C := RX6) (T := TX6) (N := 9) hx hb hts hi6 tyX6 tyX6_ok nmX6 hown hN hW (eK5 _ _ (eK3 _ _ kx1)) rfl (by decide) 3 (by decide) hfX6_40 rfl hnm rfl rfl rfl dX6_init_49 (fun H locs hW => ?_)
  generalize hF6 : (gU F5 x 3 (.ref h)) = F6 at hW
  have f6 : ∀ b j, ¬ (b = x ∧ j = 3) → F6 b j = F5 b j := fun b j h => by rw [← hF6, gU_ne h]
  have z3 : F6 x 3 = .ref h := by rw [← hF6]; exact gU_self
  refine lv_aload_n hx hb dX6_init_52 rfl (lv_at hl 0 rfl) ?_
  refine g_new (C := RX0) (T := TX0) (N := 6) (ci := 0) hx hb hts hi0 tyX0 tyX0_ok hown (show Cond.classLink RX6 44 RX0 ∈ _ by decide +kernel) (by decide +kernel) (by decide +kernel) hN hW rfl (by decide) (Nat.le_of_ble_eq_true rfl) (Nat.le_of_ble_eq_true rfl) dX6_init_53 (fun J H hqe_J hq_J hW => ?_)
  refine lv_dup hx hb dX6_init_56 rfl ?_
  have kJ : (va_up K5 J (some (0, 0))) J = some (0, 0) := va_up_self _ _ _
  refine g_mIC (As := []) (b := J) (rest := [.ref J, .ref x]) hA9 hx hb hml hown hts hN hW (c_Joins l Γ _ _ H.size J kJ) gX6_init_X0_init rfl (by decide +kernel) (by decide +kernel) (by decide +kernel) rfl (na := 0) rfl (by decide +kernel) ⟨by decide, by decide⟩ ⟨Nat.le_of_ble_eq_true rfl, Nat.le_of_ble_eq_true rfl⟩ rfl hl.1 (Nat.le_of_ble_eq_true rfl) dX6_init_57 (fun v K7 F7 H locs hp hW hsz' => ?_)
  obtain ⟨rfl, pts, lens, hE7, hj0, hj1, hj2⟩ := hp
  show W _ _ _ _ _ _ _ _ _ _ _ _ _ _ _ (F0 m 60 ls [.ref J, .ref x])
  have eK7 : ∀ a k, K5 a = some k → K7 a = some k := fun a k h => hE7.1 a k (kup hq_J h)
  have eF7 : ∀ b j k, K5 b = some k → F7 b j = F6 b j := fun b j k h => (hE7.2.2 b j k (kup hq_J h) (fun e => by rw [e, hq_J] at h; cases h)).trans (fup' hq_J h)
  have kJ7 : K7 J = some (0, 0) := hE7.1 _ _ kJ
  have kpts7 : K7 pts = some (11, 60) := (hE7.2.1 _ List.mem_cons_self).2
  have klens7 : K7 lens = some (9, 60) := (hE7.2.1 _ (List.mem_cons_of_mem _ List.mem_cons_self)).2
  have hpn := (hE7.2.1 _ List.mem_cons_self).1
  refine g_putF (C := RX6) (T := TX6) (N := 9) hx hb hts hi6 tyX6 tyX6_ok nmX6 hown hN hW (eK7 _ _ (eK5 _ _ (eK3 _ _ kx1))) rfl (by decide) 4 (by decide) hfX6_47 rfl hnm rfl rfl rfl dX6_init_60 (fun H locs hW => ?_)
  generalize hF8 : (gU F7 x 4 (.ref J)) = F8 at hW
  have f8 : ∀ b j, ¬ (b = x ∧ j = 4) → F8 b j = F7 b j := fun b j h => by rw [← hF8, gU_ne h]
  have z4 : F8 x 4 = .ref J := by rw [← hF8]; exact gU_self
  have g3 : ∀ b j k, K3 b = some k → b ≠ x → F8 b j = F3 b j := fun b j k hb hx => (f8 b j (fun z => hx z.1)).trans ((eF7 b j _ (eK5 _ _ hb)).trans ((f6 b j (fun z => hx z.1)).trans ((eF5 b j k hb).trans (f4 b j (fun z => hx z.1)))))
  have g5 : ∀ b j k, K5 b = some k → b ≠ x → F8 b j = F5 b j := fun b j k hb hx => (f8 b j (fun z => hx z.1)).trans ((eF7 b j _ hb).trans (f6 b j (fun z => hx z.1)))
  have kx3 := eK3 _ _ kx1
  have kx5 := eK5 _ _ kx3
  have kx7 := eK7 _ _ kx5
  have gx3 : ∀ j, j ≠ 2 → j ≠ 3 → j ≠ 4 → F8 x j = F1 x j := fun j h2 h3 h4 => (f8 x j (fun z => h4 z.2)).trans ((eF7 x j _ kx5).trans ((f6 x j (fun z => h3 z.2)).trans ((eF5 x j _ kx3).trans ((f4 x j (fun z => h2 z.2)).trans (eF3 x j _ kx1)))))
  have gx2 : F8 x 2 = .ref T := (f8 x 2 (fun z => absurd z.2 (by decide))).trans ((eF7 x 2 _ kx5).trans ((f6 x 2 (fun z => absurd z.2 (by decide))).trans ((eF5 x 2 _ kx3).trans z2)))
  have gx3' : F8 x 3 = .ref h := (f8 x 3 (fun z => absurd z.2 (by decide))).trans ((eF7 x 3 _ kx5).trans z3)
  have nJ : J ≠ x := kne kJ7 kx7 (by decide)
  have gJ : ∀ j, F8 J j = F7 J j := fun j => f8 J j (fun z => nJ z.1)
  have nT : T ≠ x := kne kT3 kx3 (by decide)
  have nh : h ≠ x := kne kh5 kx5 (by decide)
  have hrp : row ≠ pts := fun e => by
    have q := kup (k' := (0, 0)) hq_J (eK5 _ _ krow3)
    rw [e, hpn] at q
    cases q
  have gl0 : (gLive (fun _ => none) 100).length = 0 := by simp [gLive]
  have hNT8 : NT K7 F8 x lb T row h ai ad J pts lens (axD a9) tL (fun _ => none) (fun _ => (0, fun _ => 0)) (fun _ => 0) (fun _ => false) [] 0 0 0 0 0 := by
    refine ⟨⟨kx7, eK7 _ _ (eK5 _ _ (eK3 _ _ klb)), eK7 _ _ (eK5 _ _ kT3), eK7 _ _ (eK5 _ _ krow3), eK7 _ _ kh5, eK7 _ _ kai5, eK7 _ _ kad5, kJ7, kpts7, klens7, hrp⟩, ⟨axD_pos a9, axD_le a9⟩, ⟨(gx3 0 (by decide) (by decide) (by decide)).trans y0, (gx3 1 (by decide) (by decide) (by decide)).trans y1, gx2, gx3', z4, ?_, ?_, ?_, ?_⟩, ⟨(g3 T 0 _ kT3 nT).trans ht0, (g3 T 1 _ kT3 nT).trans ht1, (g3 T 2 _ kT3 nT).trans ht2, (g3 T 3 _ kT3 nT).trans ht3, trivial⟩, ⟨(gJ 0).trans hj0, (gJ 1).trans hj1, (0, 0, 0), ?_, ?_, ?_⟩, fun i _ => ?_, ⟨eK7 _ _ kh5, eK7 _ _ kai5, eK7 _ _ kad5, (g5 h 0 _ kh5 nh).trans hh0, (g5 h 1 _ kh5 nh).trans hh1, (g5 h 2 _ kh5 nh).trans hh2, (g5 h 3 _ kh5 nh).trans hh3, rowL.nil, rowL.nil, Nat.le_refl 0, Nat.zero_le _, fun x hx => by cases hx⟩, fun a ha => by (cases ha), ⟨List.nodup_nil, fun i a _ h => by (cases h), fun a ha => by (cases ha), gl0, Nat.zero_le _, by rw [gl0]; decide, fun a ha => by (cases ha)⟩⟩
    · rw [gl0]; exact (gx3 5 (by decide) (by decide) (by decide)).trans ((y5 5 (by decide)).trans (hz 5 (by decide) (by decide)))
    · exact (gx3 6 (by decide) (by decide) (by decide)).trans ((y5 6 (by decide)).trans (hz 6 (by decide) (by decide)))
    · exact (gx3 7 (by decide) (by decide) (by decide)).trans ((y5 7 (by decide)).trans (hz 7 (by decide) (by decide)))
    · exact (gx3 8 (by decide) (by decide) (by decide)).trans ((y5 8 (by decide)).trans (hz 8 (by decide) (by decide)))
    · exact (gJ 3).trans ((hj2 3 (by decide)).trans (congrFun (va_up_self _ _ _) 3))
    · exact (gJ 4).trans ((hj2 4 (by decide)).trans (congrFun (va_up_self _ _ _) 4))
    · exact (gJ 5).trans ((hj2 5 (by decide)).trans (congrFun (va_up_self _ _ _) 5))
    · exact (g3 lb i _ (eK3 _ _ klb) nlx).trans ((eF3 lb i _ klb).trans (ylb i))
  exact hret none _ _ _ _ _ _ hW (⟨rfl, lb, T, row, h, ai, ad, J, pts, lens, hNT8⟩) (rt_v dX6_init_63)
