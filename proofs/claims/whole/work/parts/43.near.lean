set_option maxHeartbeats 4000000 in
set_option maxRecDepth 100000 in
theorem c_deadCnt (l : Launch) (Γ : gG) (K : gK) (F : gF) (x T d lc : Nat) (tc : TT Nat) (kx : K x = some (6, 0)) (kT : K T = some (5, 0)) (x2 : F x 2 = .ref T) (x5 : F x 5 = .int (nI lc)) (t2 : F T 2 = va_rf (tRt tc)) (hC : CT F d tc none 0) (hnk : ∀ a ∈ tPre tc, K a = some (2, 0)) (hlc : lc ≤ tSz tc) : gMR l yX6_deadCount wsX6_deadCount 2 Γ K F [.ref x] (some (.int (nI (tSz tc - lc)))) := by
  refine g_mR (cc := cX6_deadCount) (maxL := 1) (ret := (some .int)) (by decide) rfl (Nat.le_of_ble_eq_true rfl) ?_
  intro p e s m args below meth c ls Z hx hb hts hown hml hN hP hret hl
  have hl : lv_has ls 1 [(0, .ref x)] := hl
  have hown : s.vm.findClass RX6 = some m.cls := hown
  have hi6 : ∀ w ∈ wsX60, w ∈ wsX6_deadCount := by decide +kernel
  have hfX6_33 : Cond.fieldLink RX6 33 (TX6 2).1 (TX6 2).2.1 (TX6 2).2.2.1 ∈ wsX6_deadCount := by decide +kernel
  have hfX6_66 : Cond.fieldLink RX6 66 (TX6 5).1 (TX6 5).2.1 (TX6 5).2.2.1 ∈ wsX6_deadCount := by decide +kernel
  refine lv_aload_n hx hb dX6_deadCount_0 rfl (lv_at hl 0 rfl) ?_
  refine g_get (C := RX6) (T := TX6) (N := 9) hx hb hts hi6 hown hN hP kx rfl (by decide) 2 (by decide) hfX6_33 (v := .ref T) x2 dX6_deadCount_1 ?_
  refine g_cV (v := (some (.int (nI (tSz tc))))) (As := []) (b := T) (rest := []) hx hb hml hown hts hN hP (c_nodeCount l Γ K F T d tc kT t2 hC hnk) gX6_deadCount_X5_nodeCount rfl kT (by decide) rfl (na := 0) rfl (by decide +kernel) ⟨by decide, by decide⟩ ⟨Nat.zero_le _, Nat.zero_le _⟩ rfl hl.1 (Nat.le_of_ble_eq_true rfl) dX6_deadCount_4 ?_
  show W _ _ _ _ _ _ _ _ _ _ _ _ _ _ _ (F0 m 7 ls [.int (nI (tSz tc))])
  refine lv_aload_n hx hb dX6_deadCount_7 rfl (lv_at hl 0 rfl) ?_
  refine g_get (C := RX6) (T := TX6) (N := 9) hx hb hts hi6 hown hN hP kx rfl (by decide) 5 (by decide) hfX6_66 (v := .int (nI lc)) x5 dX6_deadCount_8 ?_
  refine lv_isub hx hb dX6_deadCount_11 ?_
  refine g_asi (show _ = nI ((tSz tc) - lc) from pk_sub (by omega)) ?_
  exact hret (some (.int (nI ((tSz tc) - lc)))) _ _ (rfl) (rt_i dX6_deadCount_12)

theorem plug_nil {α : Type} (t : TT α) : plug [] t = t := rfl
def dropG {α : Type} (lt : Nat → α → α → Bool) (dd : α → Bool) (d lc : Nat) (t : TT α) : TT α × Nat × Nat := if tSz t < (tSz t - lc) * 2 then (bldG lt d 60 0 ((tPre t).filter (fun a => !dd a)), 1, ((tPre t).filter (fun a => !dd a)).length) else (t, 0, 0)

set_option maxHeartbeats 4000000 in
set_option maxRecDepth 100000 in
theorem c_drop (l : Launch) (hfl : l.stackTraces = false) (Γ : gG) (K : gK) (F : gF) (sz : Nat) (x lb T row h ai ad J pts lens d : Nat) (tc : TT Nat) (nd : Nat → Option Nat) (dt : Nat → gPt) (pl : Nat → Nat) (dd : Nat → Bool) (S : List (Nat × Int64)) (lim lk bc bg bp : Nat) (hNT : NT K F x lb T row h ai ad J pts lens d tc nd dt pl dd S lim lk bc bg bp) (d9 : Int32) : gMX l yX6_drop wsX6_drop 75 1 6 Γ K F sz [.ref x, .int d9] (fun v K' F' => ∃ i n, i < 100 ∧ d9 = nI i ∧ nd i = some n ∧ NT K' F' x lb T row h ai ad J pts lens d (dropG (ltA dt) (va_up dd n true) d (gLive (va_up nd i none) 100).length tc).1 (va_up nd i none) dt pl (va_up dd n true) S lim lk bc (bg + (dropG (ltA dt) (va_up dd n true) d (gLive (va_up nd i none) 100).length tc).2.1) (bp + (dropG (ltA dt) (va_up dd n true) d (gLive (va_up nd i none) 100).length tc).2.2) ∧ v = some (.int (nI (gLive (va_up nd i none) 100).length))) (fun E => (E = nIAE ∧ ¬ okId d9 = true) ∨ (E = nISE ∧ okId d9 = true ∧ ∀ i, d9 = nI i → i < 100 → nd i = none)) := by
  refine g_mX (cc := cX6_drop) (maxL := 3) (ret := (some .int)) hfl rfl (by decide) rfl (Nat.le_of_ble_eq_true rfl) ?_
  intro p e s m args below meth c ls Z hsz hx hb hts hown hml hN hW hret hthr hl
  have hl : lv_has ls 3 [(0, .ref x), (1, .int d9)] := hl
  have hown : s.vm.findClass RX6 = some m.cls := hown
  have hi2 : ∀ w ∈ wsX20, w ∈ wsX6_drop := by decide +kernel
  have hi5 : ∀ w ∈ wsX50, w ∈ wsX6_drop := by decide +kernel
  have hi6 : ∀ w ∈ wsX60, w ∈ wsX6_drop := by decide +kernel
  have hfX6_24 : Cond.fieldLink RX6 24 (TX6 1).1 (TX6 1).2.1 (TX6 1).2.2.1 ∈ wsX6_drop := by decide +kernel
  have hfX6_33 : Cond.fieldLink RX6 33 (TX6 2).1 (TX6 2).2.1 (TX6 2).2.2.1 ∈ wsX6_drop := by decide +kernel
  have hfX6_66 : Cond.fieldLink RX6 66 (TX6 5).1 (TX6 5).2.1 (TX6 5).2.2.1 ∈ wsX6_drop := by decide +kernel
  have hfX6_100 : Cond.fieldLink RX6 100 (TX2 2).1 (TX2 2).2.1 (TX2 2).2.2.1 ∈ wsX6_drop := by decide +kernel
  have hfX6_111 : Cond.fieldLink RX6 111 (TX6 8).1 (TX6 8).2.1 (TX6 8).2.2.1 ∈ wsX6_drop := by decide +kernel
  have hfX6_114 : Cond.fieldLink RX6 114 (TX5 2).1 (TX5 2).2.1 (TX5 2).2.2.1 ∈ wsX6_drop := by decide +kernel
  obtain ⟨⟨kx, klb, kT, krow, kh, kai, kad, kJ, kpts, klens, krp⟩, ⟨hd1, hd4⟩, ⟨x0, x1, x2, x3, x4, x5, x6, x7, x8⟩, ⟨t0, t1, t2, t3, hC⟩, ⟨j0, j1, stJ, hstJ⟩, hrN, hLS, hND, ⟨p1, p2, p3, p4, p5, p6, p7⟩⟩ := id hNT
  have hlive : ∀ i a, i < 100 → nd i = some a → ndD K F a (pl a) (dt a) ∧ F a 2 = .int (bI (dd a)) := fun i a hi ha => hND a (p2 i a hi ha).1
  refine lv_iload_n hx hb dX6_drop_0 rfl (lv_at hl 1 rfl) ?_
  refine g_cS (v := (some (.int (bI (okId d9))))) (As := [.int d9]) (rest := []) hx hb hml hown hts hN hW.1 (c_isId l Γ K F d9) gX6_drop_X6_isId rfl (na := 1) rfl (by decide +kernel) ⟨by decide, by decide⟩ ⟨Nat.zero_le _, Nat.zero_le _⟩ rfl hl.1 (Nat.le_of_ble_eq_true rfl) dX6_drop_1 ?_
  show W _ _ _ _ _ _ _ _ _ _ _ _ _ _ _ (F0 m 4 ls [.int (bI (okId d9))])
  refine lv_if_ne (tgt := 17) hx hb dX6_drop_4 (by decide) (fun c1 => ?_) (fun c1 => ?_)
  · have c1 : (okId d9) = true := bI_n0.mp c1
    obtain ⟨i, hi, rfl⟩ := okId_nI c1
    refine lv_aload_n hx hb dX6_drop_17 rfl (lv_at hl 0 rfl) ?_
    refine g_get (C := RX6) (T := TX6) (N := 9) hx hb hts hi6 hown hN hW.1 kx rfl (by decide) 1 (by decide) hfX6_24 (v := .ref lb) x1 dX6_drop_18 ?_
    refine lv_iload_n hx hb dX6_drop_21 rfl (lv_at hl 1 rfl) ?_
    refine g_aald (j := i) hx hb hN hW.1 klb (by decide) (show _ = nI i from rfl) hi (v := va_rf (nd i)) (hrN i hi) dX6_drop_22 ?_
    refine g_astore_n (r := nd i) (lv' := [(2, va_rf (nd i)), (0, .ref x), (1, .int (nI i))]) hx hb dX6_drop_23 rfl hl (by decide) rfl (fun ls hl => ?_)
    refine g_aload_n (r := nd i) hx hb dX6_drop_24 rfl (lv_at hl 0 rfl) ?_
    refine g_ifnonnull (r := nd i) (tgt := 38) hx hb dX6_drop_25 (by decide) (fun xc4 c4 => ?_) (fun c4 => ?_)
    · rw [c4] at hl
      have hl : lv_has ls 3 [(2, .ref xc4), (0, .ref x), (1, .int (nI i))] := hl
      have hm := p2 i xc4 hi c4
      have kn := (hND xc4 hm.1).1.1
      refine lv_aload_n hx hb dX6_drop_38 rfl (lv_at hl 0 rfl) ?_
      refine lv_iconst (v := nI 1) hx hb dX6_drop_39 (by decide) ?_
      refine g_put (C := RX2) (T := TX2) (N := 9) hx hb hts hi2 tyX2 tyX2_ok nmX2 hown hN hW kn rfl (by decide) 2 (by decide) hfX6_100 rfl rfl rfl dX6_drop_40 (fun H locs hW => ?_)
      refine lv_aload_n hx hb dX6_drop_43 rfl (lv_at hl 1 rfl) ?_
      refine g_get (C := RX6) (T := TX6) (N := 9) hx hb hts hi6 hown hN hW.1 kx rfl (by decide) 1 (by decide) hfX6_24 (v := .ref lb) ((gU_k (by decide)).trans x1) dX6_drop_44 ?_
      refine lv_iload_n hx hb dX6_drop_47 rfl (lv_at hl 2 rfl) ?_
      refine lv_null hx hb dX6_drop_48 ?_
      refine g_aastN (j := i) hx hb hN hW klb (by decide) (show _ = nI i from rfl) hi dX6_drop_49 (fun H locs hW => ?_)
      obtain ⟨nd1, hnd1⟩ : ∃ f, f = va_up nd i none := ⟨_, rfl⟩
      have hgl := gLive_drop c4 100
      rw [if_pos hi, ← hnd1] at hgl
      obtain ⟨lc, hlc⟩ : ∃ n, (gLive nd1 100).length = n := ⟨_, rfl⟩
      rw [hlc] at hgl
      rw [← hgl] at x5 p5 p6
      refine lv_aload_n hx hb dX6_drop_50 rfl (lv_at hl 1 rfl) ?_
      refine lv_dup hx hb dX6_drop_51 rfl ?_
      refine g_get (C := RX6) (T := TX6) (N := 9) hx hb hts hi6 hown hN hW.1 kx rfl (by decide) 5 (by decide) hfX6_66 (v := .int (nI (lc + 1))) ((gU_a (kne kx klb (by decide))).trans ((gU_a (kne kx kn (by decide))).trans x5)) dX6_drop_52 ?_
      refine lv_iconst (v := nI 1) hx hb dX6_drop_55 (by decide) ?_
      refine lv_isub hx hb dX6_drop_56 ?_
      refine g_asi (show _ = nI lc from pk_sub (by omega)) ?_
      refine g_put (C := RX6) (T := TX6) (N := 9) hx hb hts hi6 tyX6 tyX6_ok nmX6 hown hN hW kx rfl (by decide) 5 (by decide) hfX6_66 rfl rfl rfl dX6_drop_57 (fun H locs hW => ?_)
      generalize hF1 : (gU (gU (gU F xc4 2 (.int (nI 1))) lb i (.null)) x 5 (.int (nI lc))) = F1 at hW
      obtain ⟨dd1, hdd1⟩ : ∃ f, f = va_up dd xc4 true := ⟨_, rfl⟩
      have hq1 : NTq (tPre tc) nd1 dt dd1 := by rw [hnd1, hdd1]; exact NTq.drop (NTp.q hNT.2.2.2.2.2.2.2.2) hi c4
      have F1f : ∀ b j, b ≠ lb → ¬ (b = x ∧ j = 5) → ¬ (b = xc4 ∧ j = 2) → F1 b j = F b j := fun b j h1 h2 h3 => by rw [← hF1, gU_ne h2, gU_a h1, gU_ne h3]
      have F1x : F1 x 5 = .int (nI lc) := by rw [← hF1]; exact gU_self
      have hq4 : lc = (alv dd1 (tPre tc)).length := hlc.symm.trans hq1.2.2.2.1
      have F1r : rowN F1 lb nd1 := fun j hj => by
        rw [← hF1, gU_a (kne klb kx (by decide)), hnd1]
        by_cases e : j = i
        · subst e; rw [va_up_self, gU_self]; rfl
        · rw [va_up_ne _ _ e, gU_k e, gU_a (kne klb kn (by decide))]; exact hrN j hj
      have F1xj : ∀ j, j ≠ 5 → F1 x j = F x j := fun j hj => F1f x j (kne kx klb (by decide)) (fun z => hj z.2) (fun z => kne kx kn (by decide) z.1)
      have F1T : ∀ j, F1 T j = F T j := fun j => F1f T j (kne kT klb (by decide)) (fun z => kne kT kx (by decide) z.1) (fun z => kne kT kn (by decide) z.1)
      have F12 : ∀ a j, K a = some (2, 0) → j ≠ 2 → F1 a j = F a j := fun a j ha hj => F1f a j (kne ha klb (by decide)) (fun z => kne ha kx (by decide) z.1) (fun z => hj z.2)
      have F13 : ∀ a j, K a = some (3, 0) → F1 a j = F a j := fun a j ha => F1f a j (kne ha klb (by decide)) (fun z => kne ha kx (by decide) z.1) (fun z => kne ha kn (by decide) z.1)
      have hC1 : CT F1 d tc none 0 := CT_congr (fun a ha j hj => F12 a j (hND a ha).1.1 (by omega)) hC
      have hND1 : NDs K F1 dt pl dd1 (tPre tc) := fun a ha => by
        have q := hND a ha
        refine ⟨⟨q.1.1, q.1.2.1, (F12 a 0 q.1.1 (by decide)).trans q.1.2.2.1, (F12 a 1 q.1.1 (by decide)).trans q.1.2.2.2.1, fun j hj => (F13 _ j q.1.2.1).trans (q.1.2.2.2.2.1 j hj), q.1.2.2.2.2.2⟩, ?_⟩
        by_cases e : a = xc4
        · subst e
          rw [hdd1, va_up_self, ← hF1, gU_a (kne kn kx (by decide)), gU_a (kne kn klb (by decide)), gU_self]
          rfl
        · rw [hdd1, va_up_ne _ _ e, F1f a 2 (kne q.1.1 klb (by decide)) (fun z => kne q.1.1 kx (by decide) z.1) (fun z => e z.1)]
          exact q.2
      have hle : lc ≤ tSz tc := by rw [hq4, ← tPre_len]; exact alv_len
      refine lv_aload_n hx hb dX6_drop_60 rfl (lv_at hl 1 rfl) ?_
      refine g_cV (v := (some (.int (nI (tSz tc - lc))))) (As := []) (b := x) (rest := []) hx hb hml hown hts hN hW.1 (c_deadCnt l Γ K F1 x T d lc tc kx kT ((F1xj 2 (by decide)).trans x2) F1x ((F1T 2).trans t2) hC1 (fun a ha => (hND a ha).1.1) hle) gX6_drop_X6_deadCount rfl kx (by decide) rfl (na := 0) rfl (by decide +kernel) ⟨by decide, by decide⟩ ⟨Nat.zero_le _, Nat.zero_le _⟩ rfl hl.1 (Nat.le_of_ble_eq_true rfl) dX6_drop_61 ?_
      show W _ _ _ _ _ _ _ _ _ _ _ _ _ _ _ (F0 m 64 ls [.int (nI (tSz tc - lc))])
      refine lv_iconst (v := nI 2) hx hb dX6_drop_64 (by decide) ?_
      refine lv_imul hx hb dX6_drop_65 ?_
      refine g_asi (show _ = nI ((tSz tc - lc) * 2) from (pk_mul _ _).trans (by rfl)) ?_
      refine lv_aload_n hx hb dX6_drop_66 rfl (lv_at hl 1 rfl) ?_
      refine g_get (C := RX6) (T := TX6) (N := 9) hx hb hts hi6 hown hN hW.1 kx rfl (by decide) 2 (by decide) hfX6_33 (v := .ref T) ((F1xj 2 (by decide)).trans x2) dX6_drop_67 ?_
      refine g_cV (v := (some (.int (nI (tSz tc))))) (As := []) (b := T) (rest := [.int (nI ((tSz tc - lc) * 2))]) hx hb hml hown hts hN hW.1 (c_nodeCount l Γ K F1 T d tc kT ((F1T 2).trans t2) hC1 (fun a ha => (hND a ha).1.1)) gX6_drop_X5_nodeCount rfl kT (by decide) rfl (na := 0) rfl (by decide +kernel) ⟨by decide, by decide⟩ ⟨Nat.zero_le _, Nat.zero_le _⟩ rfl hl.1 (Nat.le_of_ble_eq_true rfl) dX6_drop_70 ?_
      show W _ _ _ _ _ _ _ _ _ _ _ _ _ _ _ (F0 m 73 ls [.int (nI (tSz tc)), .int (nI ((tSz tc - lc) * 2))])
      refine lv_icmp_le (tgt := 100) hx hb dX6_drop_73 (by decide) (fun c5 => ?_) (fun c5 => ?_)
      · have c5 : ((tSz tc - lc) * 2) ≤ (tSz tc) := (nI_leI (by omega) (by omega)).mp c5
        have hpt : dropG (ltA dt) dd1 d lc tc = (tc, 0, 0) := by unfold dropG; rw [if_neg (by omega)]
        have hNT1 : NT K F1 x lb T row h ai ad J pts lens d tc nd1 dt pl dd1 S lim lk bc bg bp := NT_mk hNT (fun _ _ z => z) (fun b k j hb hk2 b1 b2 b3 _ => F1f b j b1 (fun z => b2 z.1) (fun z => hk2 (Option.some.inj (hb.symm.trans (by rw [z.1]; exact kn))))) (fun j h5 _ _ => F1xj j h5) (by rw [hlc]; exact F1x) ((F1xj 7 (by decide)).trans x7) ((F1xj 8 (by decide)).trans x8) (fun j _ => F1T j) ((F1T 2).trans t2) ((F1T 3).trans t3) hC1 F1r hND1 (NTq.p hq1 (by rw [hlc]; omega) (by rw [hlc]; omega))
        refine lv_aload_n hx hb dX6_drop_100 rfl (lv_at hl 1 rfl) ?_
        refine g_get (C := RX6) (T := TX6) (N := 9) hx hb hts hi6 hown hN hW.1 kx rfl (by decide) 5 (by decide) hfX6_66 (v := .int (nI lc)) F1x dX6_drop_101 ?_
        exact hret (some (.int (nI lc))) _ _ _ _ _ _ _ _ (Nat.le_of_ble_eq_true rfl) (Nat.le_of_ble_eq_true rfl) hW (⟨i, xc4, hi, rfl, c4, by rw [← hnd1, ← hdd1, hlc, hpt]; exact hNT1, by rw [← hnd1, hlc]⟩) (rt_i dX6_drop_104)
      · have c5 : (tSz tc) < ((tSz tc - lc) * 2) := Nat.not_le.mp (fun z => c5 ((nI_leI (by omega) (by omega)).mpr z))
        obtain ⟨old, hold⟩ : ∃ old, tRt tc = some old := by
          cases hr : tRt tc with
          | none => have := tRt_none hr; omega
          | some old => exact ⟨old, rfl⟩
        refine lv_aload_n hx hb dX6_drop_76 rfl (lv_at hl 1 rfl) ?_
        refine lv_dup hx hb dX6_drop_77 rfl ?_
        refine g_get (C := RX6) (T := TX6) (N := 9) hx hb hts hi6 hown hN hW.1 kx rfl (by decide) 8 (by decide) hfX6_111 (v := .int (nI bg)) ((F1xj 8 (by decide)).trans x8) dX6_drop_78 ?_
        refine lv_iconst (v := nI 1) hx hb dX6_drop_81 (by decide) ?_
        refine lv_iadd hx hb dX6_drop_82 ?_
        refine g_asi (show _ = nI (bg + 1) from (nI_add _ _).trans (by rfl)) ?_
        refine g_put (C := RX6) (T := TX6) (N := 9) hx hb hts hi6 tyX6 tyX6_ok nmX6 hown hN hW kx rfl (by decide) 8 (by decide) hfX6_111 rfl rfl rfl dX6_drop_83 (fun H locs hW => ?_)
        generalize hF8 : (gU F1 x 8 (.int (nI (bg + 1)))) = F8 at hW
        have F8f : ∀ b j, ¬ (b = x ∧ j = 8) → F8 b j = F1 b j := fun b j hb => by rw [← hF8, gU_ne hb]
        have F8T : ∀ j, F8 T j = F T j := fun j => (F8f T j (fun z => kne kT kx (by decide) z.1)).trans (F1T j)
        have F8x8 : F8 x 8 = .int (nI (bg + 1)) := by rw [← hF8]; exact gU_self
        have hC8 : CT F8 d (plug [] tc) none 0 := CT_congr (fun a ha j _ => F8f a j (fun z => kne (hND a ha).1.1 kx (by decide) z.1)) hC1
        have hND8 : NDs K F8 dt pl dd1 (tPre tc) := NDs_congr (fun b j hb => F8f b j (fun z => by
          rcases hb with hb | hb
          · exact kne hb.1 kx (by decide) z.1
          · exact kne hb kx (by decide) z.1)) hND1
        have hal : (alv dd1 (tPre tc)).length ≤ 60 := by omega
        have hperm8 : (tPre (bldG (ltA dt) d 60 0 (alv dd1 (tPre tc)))).Perm (alv dd1 (tPre tc)) := bldG_perm (ltA dt) d 60 0 (alv dd1 (tPre tc)) hal
        have hpt : dropG (ltA dt) dd1 d lc tc = (bldG (ltA dt) d 60 0 (alv dd1 (tPre tc)), 1, (alv dd1 (tPre tc)).length) := by unfold dropG; rw [if_pos (by omega)]; rfl
        refine lv_aload_n hx hb dX6_drop_86 rfl (lv_at hl 1 rfl) ?_
        refine g_get (C := RX6) (T := TX6) (N := 9) hx hb hts hi6 hown hN hW.1 kx rfl (by decide) 2 (by decide) hfX6_33 (v := .ref T) ((F8f x 2 (fun z => absurd z.2 (by decide))).trans ((F1xj 2 (by decide)).trans x2)) dX6_drop_87 ?_
        refine lv_aload_n hx hb dX6_drop_90 rfl (lv_at hl 1 rfl) ?_
        refine g_get (C := RX6) (T := TX6) (N := 9) hx hb hts hi6 hown hN hW.1 kx rfl (by decide) 2 (by decide) hfX6_33 (v := .ref T) ((F8f x 2 (fun z => absurd z.2 (by decide))).trans ((F1xj 2 (by decide)).trans x2)) dX6_drop_91 ?_
        refine g_get (C := RX5) (T := TX5) (N := 4) hx hb hts hi5 hown hN hW.1 kT rfl (by decide) 2 (by decide) hfX6_114 (v := .ref old) ((F8T 2).trans (by rw [t2, hold]; rfl)) dX6_drop_94 ?_
        refine g_mV (As := [.ref old]) (b := T) (rest := []) hx hb hml hown hts hN hW (c_buildAnew l Γ K F8 H.size T old row d bp [] tc dt pl dd1 kT krow ((F8T 0).trans t0) ((F8T 1).trans t1) ((F8T 2).trans t2) ((F8T 3).trans t3) hC8 hold hND8 p1 (by show tSz tc ≤ 120; omega) hal hd1 hd4) gX6_drop_X5_buildAnew rfl kT (by decide) rfl (na := 1) rfl (by decide +kernel) ⟨by decide, by decide⟩ ⟨Nat.le_of_ble_eq_true rfl, Nat.le_of_ble_eq_true rfl⟩ rfl hl.1 (Nat.le_of_ble_eq_true rfl) dX6_drop_97 (fun v K' F9 H locs hp hW hsz' => ?_)
        obtain ⟨rfl, hK9, hC9, h92, h93, hf9⟩ := hp
        subst K'
        show W _ _ _ _ _ _ _ _ _ _ _ _ _ _ _ (F0 m 100 ls [])
        rw [plug_nil, List.length_nil] at hC9 h92
        have x9e : ∀ j, F9 x j = F8 x j := fun j => hf9 x j (fun z => kne kx z.1 (by decide) rfl) (fun z => kne kx kT (by decide) z.1) (kne kx krow (by decide))
        have hND9 : NDs K F9 dt pl dd1 (tPre tc) := NDs_congr (fun b j hb => by
          refine hf9 b j (fun z => ?_) (fun z => ?_) (fun z => ?_)
          · rcases hb with hb | hb
            · omega
            · rw [hb] at z; cases z.1
          · rcases hb with hb | hb
            · exact kne hb.1 kT (by decide) z.1
            · exact kne hb kT (by decide) z.1
          · rcases hb with hb | hb
            · exact kne hb.1 krow (by decide) z
            · exact kne hb krow (by decide) z) hND8
        have hNT9 : NT K F9 x lb T row h ai ad J pts lens d (bldG (ltA dt) d 60 0 (alv dd1 (tPre tc))) nd1 dt pl dd1 S lim lk bc (bg + 1) (bp + (alv dd1 (tPre tc)).length) := NT_mk hNT (fun _ _ z => z) (fun b k j hb hk2 b1 b2 b3 b4 => by
            have n2 : ¬ (K b = some (2, 0) ∧ 3 ≤ j) := fun z => hk2 (Option.some.inj (hb.symm.trans z.1))
            exact (hf9 b j n2 (fun z => b3 z.1) b4).trans ((F8f b j (fun z => b2 z.1)).trans (F1f b j b1 (fun z => b2 z.1) (fun z => hk2 (Option.some.inj (hb.symm.trans (by rw [z.1]; exact kn))))))) (fun j h5 _ h8 => (x9e j).trans ((F8f x j (fun z => h8 z.2)).trans (F1xj j h5))) (by rw [hlc]; exact (x9e 5).trans ((F8f x 5 (fun z => absurd z.2 (by decide))).trans F1x)) ((x9e 7).trans ((F8f x 7 (fun z => absurd z.2 (by decide))).trans ((F1xj 7 (by decide)).trans x7))) ((x9e 8).trans F8x8) (fun j hj => (hf9 T j (fun z => kne kT z.1 (by decide) rfl) (fun z => by omega) (kne kT krow (by decide))).trans (F8T j)) h92 h93 hC9 (fun j hj => (hf9 lb j (fun z => kne klb z.1 (by decide) rfl) (fun z => kne klb kT (by decide) z.1) (kne klb krow (by decide))).trans ((F8f lb j (fun z => kne klb kx (by decide) z.1)).trans (F1r j hj))) (NDs_sub hND9 (fun a ha => alv_sub (hperm8.mem_iff.mp ha))) (NTq.p ((by
              have q := NTq.bld (A := tPre tc) (B := []) (by rw [List.append_nil]; exact hq1)
              rw [List.append_nil] at q
              exact q : NTq (alv dd1 (tPre tc)) nd1 dt dd1).perm hperm8.symm) (by
                rw [bldG_sz _ _ _ _ _ hal, hlc]
                omega) (by rw [hlc]; omega))
        refine lv_aload_n hx hb dX6_drop_100 rfl (lv_at hl 1 rfl) ?_
        refine g_get (C := RX6) (T := TX6) (N := 9) hx hb hts hi6 hown hN hW.1 kx rfl (by decide) 5 (by decide) hfX6_66 (v := .int (nI lc)) ((x9e 5).trans ((F8f x 5 (fun z => absurd z.2 (by decide))).trans F1x)) dX6_drop_101 ?_
        exact hret (some (.int (nI lc))) _ _ _ _ _ _ _ _ (Nat.le_of_ble_eq_true rfl) (Nat.le_of_ble_eq_true rfl) hW (⟨i, xc4, hi, rfl, c4, by rw [← hnd1, ← hdd1, hlc, hpt]; exact hNT9, by rw [← hnd1, hlc]⟩) (rt_i dX6_drop_104)
    · exact hthr nISE "drop: the id is not live" 69 98 73 28 _ _ ls (Or.inr ⟨rfl, c1, fun i2 e2 h2 => by rw [(nI_eq (by omega) (by omega)).mp e2] at c4; exact c4⟩) x_ISE (show (98, "drop: the id is not live") ∈ gStr by decide +kernel) (by decide +kernel) (by decide +kernel) (fun w h => List.mem_cons_of_mem _ (List.mem_append_right _ h)) dX6_drop_28 dX6_drop_31 dX6_drop_32 dX6_drop_34 dX6_drop_37 (by decide) (by decide) (by decide) hW hl.1
  · have c1 : (okId d9) = false := bI_0.mp c1
    exact hthr nIAE "drop: the id is out of range" 59 96 63 7 _ _ ls (Or.inl ⟨rfl, fun z => by rw [c1] at z; cases z⟩) x_IAE (show (96, "drop: the id is out of range") ∈ gStr by decide +kernel) (by decide +kernel) (by decide +kernel) (fun w h => List.mem_cons_of_mem _ (List.mem_append_left _ (List.mem_append_right _ h))) dX6_drop_7 dX6_drop_10 dX6_drop_11 dX6_drop_13 dX6_drop_16 (by decide) (by decide) (by decide) hW hl.1
