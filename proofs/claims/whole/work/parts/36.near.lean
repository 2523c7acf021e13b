/-! the class NearTree: its cells -/
def okId (id : Int32) : Bool := decide (¬ id < 0 ∧ id < 100)
def okNum (x : Int32) : Bool := decide (-10000 ≤ x ∧ x ≤ 10000)
def okPl (d : Nat) (x y z w : Int32) : Bool := okNum x && (decide (d < 2) || okNum y) && (decide (d < 3) || okNum z) && (decide (d < 4) || okNum w)
theorem okId_nI {id : Int32} (h : okId id = true) : ∃ i : Nat, i < 100 ∧ id = nI i := by
  have h := of_decide_eq_true h
  obtain ⟨j, hj, e⟩ := nI_of h.1
  refine ⟨j, ?_, e⟩
  have h2 := h.2
  rw [e] at h2
  exact (nI_ltI hj (by decide)).mp h2
def NTk (K : gK) (x lb T row h ai ad J pts lens : Nat) : Prop := K x = some (6, 0) ∧ K lb = some (11, 100) ∧ K T = some (5, 0) ∧ K row = some (11, 60) ∧ K h = some (1, 0) ∧ K ai = some (8, 100) ∧ K ad = some (9, 100) ∧ K J = some (0, 0) ∧ K pts = some (11, 60) ∧ K lens = some (9, 60) ∧ row ≠ pts
def NTx (F : gF) (x lb T h J d lc lk bc bg : Nat) : Prop := F x 0 = .int (nI d) ∧ F x 1 = .ref lb ∧ F x 2 = .ref T ∧ F x 3 = .ref h ∧ F x 4 = .ref J ∧ F x 5 = .int (nI lc) ∧ F x 6 = .int (nI lk) ∧ F x 7 = .int (nI bc) ∧ F x 8 = .int (nI bg)
def NTt (F : gF) (T row d : Nat) (tc : TT Nat) (bp : Nat) : Prop := F T 0 = .int (nI d) ∧ F T 1 = .ref row ∧ F T 2 = va_rf (tRt tc) ∧ F T 3 = .int (nI bp) ∧ CT F d tc none 0
def NTj (K : gK) (F : gF) (J pts lens : Nat) : Prop := F J 0 = .ref pts ∧ F J 1 = .ref lens ∧ ∃ st, prR K F J st
def NTp (tc : TT Nat) (nd : Nat → Option Nat) (dt : Nat → gPt) (dd : Nat → Bool) : Prop := (tPre tc).Nodup ∧ (∀ i a, i < 100 → nd i = some a → a ∈ tPre tc ∧ (dt a).1 = i ∧ dd a = false) ∧ (∀ a ∈ tPre tc, dd a = false → nd (dt a).1 = some a) ∧ (gLive nd 100).length = (alv dd (tPre tc)).length ∧ tSz tc ≤ 2 * (gLive nd 100).length ∧ (gLive nd 100).length ≤ 60 ∧ ∀ a ∈ tPre tc, ∀ i, i < 4 → okNum ((dt a).2 i) = true
def NT (K : gK) (F : gF) (x lb T row h ai ad J pts lens d : Nat) (tc : TT Nat) (nd : Nat → Option Nat) (dt : Nat → gPt) (pl : Nat → Nat) (dd : Nat → Bool) (S : List (Nat × Int64)) (lim lk bc bg bp : Nat) : Prop :=
  NTk K x lb T row h ai ad J pts lens ∧ (0 < d ∧ d ≤ 4) ∧ NTx F x lb T h J d (gLive nd 100).length lk bc bg ∧ NTt F T row d tc bp ∧ NTj K F J pts lens ∧ rowN F lb nd ∧ lsR K F h ai ad S lim ∧ NDs K F dt pl dd (tPre tc) ∧ NTp tc nd dt dd

set_option maxHeartbeats 4000000 in
set_option maxRecDepth 100000 in
theorem c_isId (l : Launch) (Γ : gG) (K : gK) (F : gF) (id : Int32) : gMR l yX6_isId wsX6_isId 0 Γ K F [.int id] (some (.int (bI (okId id)))) := by
  refine g_mR (cc := cX6_isId) (maxL := 1) (ret := (some .boolean)) (by decide) rfl (Nat.le_of_ble_eq_true rfl) ?_
  intro p e s m args below meth c ls Z hx hb hts hown hml hN hP hret hl
  have hl : lv_has ls 1 [(0, .int id)] := hl
  have hown : s.vm.findClass RX6 = some m.cls := hown
  refine lv_iload_n hx hb dX6_isId_0 rfl (lv_at hl 0 rfl) ?_
  refine lv_if_lt (tgt := 14) hx hb dX6_isId_1 (by decide) (fun c1 => ?_) (fun c1 => ?_)
  · refine lv_iconst (v := 0) hx hb dX6_isId_14 (by decide) ?_
    refine g_asi (show _ = bI false from bI_f.symm) ?_
    exact hret (some (.int (bI false))) _ _ (by rw [show okId id = false from decide_eq_false (fun z => z.1 c1)]) (rt_z dX6_isId_15)
  · refine lv_iload_n hx hb dX6_isId_4 rfl (lv_at hl 0 rfl) ?_
    refine lv_bipush (v := 100) hx hb dX6_isId_5 (by decide) ?_
    refine lv_icmp_ge (tgt := 14) hx hb dX6_isId_7 (by decide) (fun c2 => ?_) (fun c2 => ?_)
    · refine lv_iconst (v := 0) hx hb dX6_isId_14 (by decide) ?_
      refine g_asi (show _ = bI false from bI_f.symm) ?_
      exact hret (some (.int (bI false))) _ _ (by rw [show okId id = false from decide_eq_false (fun z => Int32.not_lt.mpr c2 z.2)]) (rt_z dX6_isId_15)
    · refine lv_iconst (v := 1) hx hb dX6_isId_10 (by decide) ?_
      refine lv_goto (tgt := 15) hx hb dX6_isId_11 (by decide) ?_
      refine g_asi (show _ = bI true from bI_t.symm) ?_
      exact hret (some (.int (bI true))) _ _ (by rw [show okId id = true from decide_eq_true ⟨c1, Int32.not_le.mp c2⟩]) (rt_z dX6_isId_15)

set_option maxHeartbeats 4000000 in
set_option maxRecDepth 100000 in
theorem c_isNumber (l : Launch) (Γ : gG) (K : gK) (F : gF) (n : Int32) : gMR l yX6_isNumber wsX6_isNumber 0 Γ K F [.int n] (some (.int (bI (okNum n)))) := by
  refine g_mR (cc := cX6_isNumber) (maxL := 1) (ret := (some .boolean)) (by decide) rfl (Nat.le_of_ble_eq_true rfl) ?_
  intro p e s m args below meth c ls Z hx hb hts hown hml hN hP hret hl
  have hl : lv_has ls 1 [(0, .int n)] := hl
  have hown : s.vm.findClass RX6 = some m.cls := hown
  refine lv_iload_n hx hb dX6_isNumber_0 rfl (lv_at hl 0 rfl) ?_
  refine lv_sipush (v := (-10000)) hx hb dX6_isNumber_1 (by decide) ?_
  refine lv_icmp_lt (tgt := 18) hx hb dX6_isNumber_4 (by decide) (fun c1 => ?_) (fun c1 => ?_)
  · refine lv_iconst (v := 0) hx hb dX6_isNumber_18 (by decide) ?_
    refine g_asi (show _ = bI false from bI_f.symm) ?_
    exact hret (some (.int (bI false))) _ _ (by rw [show okNum n = false from decide_eq_false (fun z => Int32.not_le.mpr c1 z.1)]) (rt_z dX6_isNumber_19)
  · refine lv_iload_n hx hb dX6_isNumber_7 rfl (lv_at hl 0 rfl) ?_
    refine lv_sipush (v := 10000) hx hb dX6_isNumber_8 (by decide) ?_
    refine lv_icmp_gt (tgt := 18) hx hb dX6_isNumber_11 (by decide) (fun c2 => ?_) (fun c2 => ?_)
    · refine lv_iconst (v := 0) hx hb dX6_isNumber_18 (by decide) ?_
      refine g_asi (show _ = bI false from bI_f.symm) ?_
      exact hret (some (.int (bI false))) _ _ (by rw [show okNum n = false from decide_eq_false (fun z => Int32.not_le.mpr c2 z.2)]) (rt_z dX6_isNumber_19)
    · refine lv_iconst (v := 1) hx hb dX6_isNumber_14 (by decide) ?_
      refine lv_goto (tgt := 19) hx hb dX6_isNumber_15 (by decide) ?_
      refine g_asi (show _ = bI true from bI_t.symm) ?_
      exact hret (some (.int (bI true))) _ _ (by rw [show okNum n = true from decide_eq_true ⟨Int32.not_lt.mp c1, Int32.not_lt.mp c2⟩]) (rt_z dX6_isNumber_19)

set_option maxHeartbeats 4000000 in
set_option maxRecDepth 100000 in
theorem c_isCountingAxis (l : Launch) (Γ : gG) (K : gK) (F : gF) (x d : Nat) (ax : Int32) (kx : K x = some (6, 0)) (x0 : F x 0 = .int (nI d)) : gMR l yX6_isCountingAxis wsX6_isCountingAxis 0 Γ K F [.ref x, .int ax] (some (.int (bI (decide (¬ ax < 0 ∧ ax < nI d))))) := by
  refine g_mR (cc := cX6_isCountingAxis) (maxL := 2) (ret := (some .boolean)) (by decide) rfl (Nat.le_of_ble_eq_true rfl) ?_
  intro p e s m args below meth c ls Z hx hb hts hown hml hN hP hret hl
  have hl : lv_has ls 2 [(0, .ref x), (1, .int ax)] := hl
  have hown : s.vm.findClass RX6 = some m.cls := hown
  have hi6 : ∀ w ∈ wsX60, w ∈ wsX6_isCountingAxis := by decide +kernel
  have hfX6_18 : Cond.fieldLink RX6 18 (TX6 0).1 (TX6 0).2.1 (TX6 0).2.2.1 ∈ wsX6_isCountingAxis := by decide +kernel
  refine lv_iload_n hx hb dX6_isCountingAxis_0 rfl (lv_at hl 1 rfl) ?_
  refine lv_if_lt (tgt := 16) hx hb dX6_isCountingAxis_1 (by decide) (fun c1 => ?_) (fun c1 => ?_)
  · refine lv_iconst (v := 0) hx hb dX6_isCountingAxis_16 (by decide) ?_
    refine g_asi (show _ = bI false from bI_f.symm) ?_
    exact hret (some (.int (bI false))) _ _ (by rw [decide_eq_false (fun z => z.1 c1)]) (rt_z dX6_isCountingAxis_17)
  · refine lv_iload_n hx hb dX6_isCountingAxis_4 rfl (lv_at hl 1 rfl) ?_
    refine lv_aload_n hx hb dX6_isCountingAxis_5 rfl (lv_at hl 0 rfl) ?_
    refine g_get (C := RX6) (T := TX6) (N := 9) hx hb hts hi6 hown hN hP kx rfl (by decide) 0 (by decide) hfX6_18 (v := .int (nI d)) x0 dX6_isCountingAxis_6 ?_
    refine lv_icmp_ge (tgt := 16) hx hb dX6_isCountingAxis_9 (by decide) (fun c2 => ?_) (fun c2 => ?_)
    · refine lv_iconst (v := 0) hx hb dX6_isCountingAxis_16 (by decide) ?_
      refine g_asi (show _ = bI false from bI_f.symm) ?_
      exact hret (some (.int (bI false))) _ _ (by rw [decide_eq_false (fun z => Int32.not_lt.mpr c2 z.2)]) (rt_z dX6_isCountingAxis_17)
    · refine lv_iconst (v := 1) hx hb dX6_isCountingAxis_12 (by decide) ?_
      refine lv_goto (tgt := 17) hx hb dX6_isCountingAxis_13 (by decide) ?_
      refine g_asi (show _ = bI true from bI_t.symm) ?_
      exact hret (some (.int (bI true))) _ _ (by rw [decide_eq_true ⟨c1, Int32.not_le.mp c2⟩]) (rt_z dX6_isCountingAxis_17)

set_option maxHeartbeats 4000000 in
set_option maxRecDepth 100000 in
theorem c_isPlace (l : Launch) (Γ : gG) (K : gK) (F : gF) (x9 d : Nat) (x y z w : Int32) (kx : K x9 = some (6, 0)) (x0 : F x9 0 = .int (nI d)) (hd4 : d ≤ 4) : gMR l yX6_isPlace wsX6_isPlace 1 Γ K F [.ref x9, .int x, .int y, .int z, .int w] (some (.int (bI (okPl d x y z w)))) := by
  refine g_mR (cc := cX6_isPlace) (maxL := 5) (ret := (some .boolean)) (by decide) rfl (Nat.le_of_ble_eq_true rfl) ?_
  intro p e s m args below meth c ls Z hx hb hts hown hml hN hP hret hl
  have hl : lv_has ls 5 [(0, .ref x9), (1, .int x), (2, .int y), (3, .int z), (4, .int w)] := hl
  have hown : s.vm.findClass RX6 = some m.cls := hown
  have hi6 : ∀ w ∈ wsX60, w ∈ wsX6_isPlace := by decide +kernel
  have hfX6_18 : Cond.fieldLink RX6 18 (TX6 0).1 (TX6 0).2.1 (TX6 0).2.2.1 ∈ wsX6_isPlace := by decide +kernel
  refine lv_iload_n hx hb dX6_isPlace_0 rfl (lv_at hl 1 rfl) ?_
  refine g_cS (v := (some (.int (bI (okNum x))))) (As := [.int x]) (rest := []) hx hb hml hown hts hN hP (c_isNumber l Γ K F x) gX6_isPlace_X6_isNumber rfl (na := 1) rfl (by decide +kernel) ⟨by decide, by decide⟩ ⟨Nat.zero_le _, Nat.zero_le _⟩ rfl hl.1 (Nat.le_of_ble_eq_true rfl) dX6_isPlace_1 ?_
  show W _ _ _ _ _ _ _ _ _ _ _ _ _ _ _ (F0 m 4 ls [.int (bI (okNum x))])
  refine lv_if_eq (tgt := 57) hx hb dX6_isPlace_4 (by decide) (fun c1 => ?_) (fun c1 => ?_)
  · have c1 : (okNum x) = false := bI_0.mp c1
    refine lv_iconst (v := nI 0) hx hb dX6_isPlace_57 (by decide) ?_
    refine g_asi (show _ = bI false from bI_f') ?_
    exact hret (some (.int (bI false))) _ _ (by simp [okPl, c1]) (rt_z dX6_isPlace_58)
  · have c1 : (okNum x) = true := bI_n0.mp c1
    refine lv_aload_n hx hb dX6_isPlace_7 rfl (lv_at hl 0 rfl) ?_
    refine g_get (C := RX6) (T := TX6) (N := 9) hx hb hts hi6 hown hN hP kx rfl (by decide) 0 (by decide) hfX6_18 (v := .int (nI d)) x0 dX6_isPlace_8 ?_
    refine lv_iconst (v := nI 2) hx hb dX6_isPlace_11 (by decide) ?_
    refine lv_icmp_lt (tgt := 22) hx hb dX6_isPlace_12 (by decide) (fun e1 => ?_) (fun e1 => ?_)
    · have e1 : d < 2 := (nI_ltI (by omega) (by omega)).mp e1
      refine lv_aload_n hx hb dX6_isPlace_22 rfl (lv_at hl 0 rfl) ?_
      refine g_get (C := RX6) (T := TX6) (N := 9) hx hb hts hi6 hown hN hP kx rfl (by decide) 0 (by decide) hfX6_18 (v := .int (nI d)) x0 dX6_isPlace_23 ?_
      refine lv_iconst (v := nI 3) hx hb dX6_isPlace_26 (by decide) ?_
      refine lv_icmp_lt (tgt := 37) hx hb dX6_isPlace_27 (by decide) (fun e2 => ?_) (fun e2 => ?_)
      · have e2 : d < 3 := (nI_ltI (by omega) (by omega)).mp e2
        refine lv_aload_n hx hb dX6_isPlace_37 rfl (lv_at hl 0 rfl) ?_
        refine g_get (C := RX6) (T := TX6) (N := 9) hx hb hts hi6 hown hN hP kx rfl (by decide) 0 (by decide) hfX6_18 (v := .int (nI d)) x0 dX6_isPlace_38 ?_
        refine lv_iconst (v := nI 4) hx hb dX6_isPlace_41 (by decide) ?_
        refine lv_icmp_lt (tgt := 53) hx hb dX6_isPlace_42 (by decide) (fun e3 => ?_) (fun e3 => ?_)
        · have e3 : d < 4 := (nI_ltI (by omega) (by omega)).mp e3
          refine lv_iconst (v := nI 1) hx hb dX6_isPlace_53 (by decide) ?_
          refine lv_goto (tgt := 58) hx hb dX6_isPlace_54 (by decide) ?_
          refine g_asi (show _ = bI true from bI_t') ?_
          exact hret (some (.int (bI true))) _ _ (by simp [okPl, c1, e1, e2, e3]) (rt_z dX6_isPlace_58)
        · have e3 : 4 ≤ d := Nat.not_lt.mp (fun z => e3 ((nI_ltI (by omega) (by omega)).mpr z))
          refine lv_iload hx hb dX6_isPlace_45 (lv_at hl 4 rfl) ?_
          refine g_cS (v := (some (.int (bI (okNum w))))) (As := [.int w]) (rest := []) hx hb hml hown hts hN hP (c_isNumber l Γ K F w) gX6_isPlace_X6_isNumber rfl (na := 1) rfl (by decide +kernel) ⟨by decide, by decide⟩ ⟨Nat.zero_le _, Nat.zero_le _⟩ rfl hl.1 (Nat.le_of_ble_eq_true rfl) dX6_isPlace_47 ?_
          show W _ _ _ _ _ _ _ _ _ _ _ _ _ _ _ (F0 m 50 ls [.int (bI (okNum w))])
          refine lv_if_eq (tgt := 57) hx hb dX6_isPlace_50 (by decide) (fun g3 => ?_) (fun g3 => ?_)
          · have g3 : (okNum w) = false := bI_0.mp g3
            refine lv_iconst (v := nI 0) hx hb dX6_isPlace_57 (by decide) ?_
            refine g_asi (show _ = bI false from bI_f') ?_
            exact hret (some (.int (bI false))) _ _ (by simp [okPl, c1, e1, e2, Nat.not_lt.mpr e3, g3]) (rt_z dX6_isPlace_58)
          · have g3 : (okNum w) = true := bI_n0.mp g3
            refine lv_iconst (v := nI 1) hx hb dX6_isPlace_53 (by decide) ?_
            refine lv_goto (tgt := 58) hx hb dX6_isPlace_54 (by decide) ?_
            refine g_asi (show _ = bI true from bI_t') ?_
            exact hret (some (.int (bI true))) _ _ (by simp [okPl, c1, e1, e2, g3]) (rt_z dX6_isPlace_58)
      · have e2 : 3 ≤ d := Nat.not_lt.mp (fun z => e2 ((nI_ltI (by omega) (by omega)).mpr z))
        refine lv_iload_n hx hb dX6_isPlace_30 rfl (lv_at hl 3 rfl) ?_
        refine g_cS (v := (some (.int (bI (okNum z))))) (As := [.int z]) (rest := []) hx hb hml hown hts hN hP (c_isNumber l Γ K F z) gX6_isPlace_X6_isNumber rfl (na := 1) rfl (by decide +kernel) ⟨by decide, by decide⟩ ⟨Nat.zero_le _, Nat.zero_le _⟩ rfl hl.1 (Nat.le_of_ble_eq_true rfl) dX6_isPlace_31 ?_
        show W _ _ _ _ _ _ _ _ _ _ _ _ _ _ _ (F0 m 34 ls [.int (bI (okNum z))])
        refine lv_if_eq (tgt := 57) hx hb dX6_isPlace_34 (by decide) (fun g2 => ?_) (fun g2 => ?_)
        · have g2 : (okNum z) = false := bI_0.mp g2
          refine lv_iconst (v := nI 0) hx hb dX6_isPlace_57 (by decide) ?_
          refine g_asi (show _ = bI false from bI_f') ?_
          exact hret (some (.int (bI false))) _ _ (by simp [okPl, c1, e1, Nat.not_lt.mpr e2, g2]) (rt_z dX6_isPlace_58)
        · have g2 : (okNum z) = true := bI_n0.mp g2
          refine lv_aload_n hx hb dX6_isPlace_37 rfl (lv_at hl 0 rfl) ?_
          refine g_get (C := RX6) (T := TX6) (N := 9) hx hb hts hi6 hown hN hP kx rfl (by decide) 0 (by decide) hfX6_18 (v := .int (nI d)) x0 dX6_isPlace_38 ?_
          refine lv_iconst (v := nI 4) hx hb dX6_isPlace_41 (by decide) ?_
          refine lv_icmp_lt (tgt := 53) hx hb dX6_isPlace_42 (by decide) (fun e3 => ?_) (fun e3 => ?_)
          · have e3 : d < 4 := (nI_ltI (by omega) (by omega)).mp e3
            refine lv_iconst (v := nI 1) hx hb dX6_isPlace_53 (by decide) ?_
            refine lv_goto (tgt := 58) hx hb dX6_isPlace_54 (by decide) ?_
            refine g_asi (show _ = bI true from bI_t') ?_
            exact hret (some (.int (bI true))) _ _ (by simp [okPl, c1, e1, g2, e3]) (rt_z dX6_isPlace_58)
          · have e3 : 4 ≤ d := Nat.not_lt.mp (fun z => e3 ((nI_ltI (by omega) (by omega)).mpr z))
            refine lv_iload hx hb dX6_isPlace_45 (lv_at hl 4 rfl) ?_
            refine g_cS (v := (some (.int (bI (okNum w))))) (As := [.int w]) (rest := []) hx hb hml hown hts hN hP (c_isNumber l Γ K F w) gX6_isPlace_X6_isNumber rfl (na := 1) rfl (by decide +kernel) ⟨by decide, by decide⟩ ⟨Nat.zero_le _, Nat.zero_le _⟩ rfl hl.1 (Nat.le_of_ble_eq_true rfl) dX6_isPlace_47 ?_
            show W _ _ _ _ _ _ _ _ _ _ _ _ _ _ _ (F0 m 50 ls [.int (bI (okNum w))])
            refine lv_if_eq (tgt := 57) hx hb dX6_isPlace_50 (by decide) (fun g3 => ?_) (fun g3 => ?_)
            · have g3 : (okNum w) = false := bI_0.mp g3
              refine lv_iconst (v := nI 0) hx hb dX6_isPlace_57 (by decide) ?_
              refine g_asi (show _ = bI false from bI_f') ?_
              exact hret (some (.int (bI false))) _ _ (by simp [okPl, c1, e1, g2, Nat.not_lt.mpr e3, g3]) (rt_z dX6_isPlace_58)
            · have g3 : (okNum w) = true := bI_n0.mp g3
              refine lv_iconst (v := nI 1) hx hb dX6_isPlace_53 (by decide) ?_
              refine lv_goto (tgt := 58) hx hb dX6_isPlace_54 (by decide) ?_
              refine g_asi (show _ = bI true from bI_t') ?_
              exact hret (some (.int (bI true))) _ _ (by simp [okPl, c1, e1, g2, g3]) (rt_z dX6_isPlace_58)
    · have e1 : 2 ≤ d := Nat.not_lt.mp (fun z => e1 ((nI_ltI (by omega) (by omega)).mpr z))
      refine lv_iload_n hx hb dX6_isPlace_15 rfl (lv_at hl 2 rfl) ?_
      refine g_cS (v := (some (.int (bI (okNum y))))) (As := [.int y]) (rest := []) hx hb hml hown hts hN hP (c_isNumber l Γ K F y) gX6_isPlace_X6_isNumber rfl (na := 1) rfl (by decide +kernel) ⟨by decide, by decide⟩ ⟨Nat.zero_le _, Nat.zero_le _⟩ rfl hl.1 (Nat.le_of_ble_eq_true rfl) dX6_isPlace_16 ?_
      show W _ _ _ _ _ _ _ _ _ _ _ _ _ _ _ (F0 m 19 ls [.int (bI (okNum y))])
      refine lv_if_eq (tgt := 57) hx hb dX6_isPlace_19 (by decide) (fun g1 => ?_) (fun g1 => ?_)
      · have g1 : (okNum y) = false := bI_0.mp g1
        refine lv_iconst (v := nI 0) hx hb dX6_isPlace_57 (by decide) ?_
        refine g_asi (show _ = bI false from bI_f') ?_
        exact hret (some (.int (bI false))) _ _ (by simp [okPl, c1, Nat.not_lt.mpr e1, g1]) (rt_z dX6_isPlace_58)
      · have g1 : (okNum y) = true := bI_n0.mp g1
        refine lv_aload_n hx hb dX6_isPlace_22 rfl (lv_at hl 0 rfl) ?_
        refine g_get (C := RX6) (T := TX6) (N := 9) hx hb hts hi6 hown hN hP kx rfl (by decide) 0 (by decide) hfX6_18 (v := .int (nI d)) x0 dX6_isPlace_23 ?_
        refine lv_iconst (v := nI 3) hx hb dX6_isPlace_26 (by decide) ?_
        refine lv_icmp_lt (tgt := 37) hx hb dX6_isPlace_27 (by decide) (fun e2 => ?_) (fun e2 => ?_)
        · have e2 : d < 3 := (nI_ltI (by omega) (by omega)).mp e2
          refine lv_aload_n hx hb dX6_isPlace_37 rfl (lv_at hl 0 rfl) ?_
          refine g_get (C := RX6) (T := TX6) (N := 9) hx hb hts hi6 hown hN hP kx rfl (by decide) 0 (by decide) hfX6_18 (v := .int (nI d)) x0 dX6_isPlace_38 ?_
          refine lv_iconst (v := nI 4) hx hb dX6_isPlace_41 (by decide) ?_
          refine lv_icmp_lt (tgt := 53) hx hb dX6_isPlace_42 (by decide) (fun e3 => ?_) (fun e3 => ?_)
          · have e3 : d < 4 := (nI_ltI (by omega) (by omega)).mp e3
            refine lv_iconst (v := nI 1) hx hb dX6_isPlace_53 (by decide) ?_
            refine lv_goto (tgt := 58) hx hb dX6_isPlace_54 (by decide) ?_
            refine g_asi (show _ = bI true from bI_t') ?_
            exact hret (some (.int (bI true))) _ _ (by simp [okPl, c1, g1, e2, e3]) (rt_z dX6_isPlace_58)
          · have e3 : 4 ≤ d := Nat.not_lt.mp (fun z => e3 ((nI_ltI (by omega) (by omega)).mpr z))
            refine lv_iload hx hb dX6_isPlace_45 (lv_at hl 4 rfl) ?_
            refine g_cS (v := (some (.int (bI (okNum w))))) (As := [.int w]) (rest := []) hx hb hml hown hts hN hP (c_isNumber l Γ K F w) gX6_isPlace_X6_isNumber rfl (na := 1) rfl (by decide +kernel) ⟨by decide, by decide⟩ ⟨Nat.zero_le _, Nat.zero_le _⟩ rfl hl.1 (Nat.le_of_ble_eq_true rfl) dX6_isPlace_47 ?_
            show W _ _ _ _ _ _ _ _ _ _ _ _ _ _ _ (F0 m 50 ls [.int (bI (okNum w))])
            refine lv_if_eq (tgt := 57) hx hb dX6_isPlace_50 (by decide) (fun g3 => ?_) (fun g3 => ?_)
            · have g3 : (okNum w) = false := bI_0.mp g3
              refine lv_iconst (v := nI 0) hx hb dX6_isPlace_57 (by decide) ?_
              refine g_asi (show _ = bI false from bI_f') ?_
              exact hret (some (.int (bI false))) _ _ (by simp [okPl, c1, g1, e2, Nat.not_lt.mpr e3, g3]) (rt_z dX6_isPlace_58)
            · have g3 : (okNum w) = true := bI_n0.mp g3
              refine lv_iconst (v := nI 1) hx hb dX6_isPlace_53 (by decide) ?_
              refine lv_goto (tgt := 58) hx hb dX6_isPlace_54 (by decide) ?_
              refine g_asi (show _ = bI true from bI_t') ?_
              exact hret (some (.int (bI true))) _ _ (by simp [okPl, c1, g1, e2, g3]) (rt_z dX6_isPlace_58)
        · have e2 : 3 ≤ d := Nat.not_lt.mp (fun z => e2 ((nI_ltI (by omega) (by omega)).mpr z))
          refine lv_iload_n hx hb dX6_isPlace_30 rfl (lv_at hl 3 rfl) ?_
          refine g_cS (v := (some (.int (bI (okNum z))))) (As := [.int z]) (rest := []) hx hb hml hown hts hN hP (c_isNumber l Γ K F z) gX6_isPlace_X6_isNumber rfl (na := 1) rfl (by decide +kernel) ⟨by decide, by decide⟩ ⟨Nat.zero_le _, Nat.zero_le _⟩ rfl hl.1 (Nat.le_of_ble_eq_true rfl) dX6_isPlace_31 ?_
          show W _ _ _ _ _ _ _ _ _ _ _ _ _ _ _ (F0 m 34 ls [.int (bI (okNum z))])
          refine lv_if_eq (tgt := 57) hx hb dX6_isPlace_34 (by decide) (fun g2 => ?_) (fun g2 => ?_)
          · have g2 : (okNum z) = false := bI_0.mp g2
            refine lv_iconst (v := nI 0) hx hb dX6_isPlace_57 (by decide) ?_
            refine g_asi (show _ = bI false from bI_f') ?_
            exact hret (some (.int (bI false))) _ _ (by simp [okPl, c1, g1, Nat.not_lt.mpr e2, g2]) (rt_z dX6_isPlace_58)
          · have g2 : (okNum z) = true := bI_n0.mp g2
            refine lv_aload_n hx hb dX6_isPlace_37 rfl (lv_at hl 0 rfl) ?_
            refine g_get (C := RX6) (T := TX6) (N := 9) hx hb hts hi6 hown hN hP kx rfl (by decide) 0 (by decide) hfX6_18 (v := .int (nI d)) x0 dX6_isPlace_38 ?_
            refine lv_iconst (v := nI 4) hx hb dX6_isPlace_41 (by decide) ?_
            refine lv_icmp_lt (tgt := 53) hx hb dX6_isPlace_42 (by decide) (fun e3 => ?_) (fun e3 => ?_)
            · have e3 : d < 4 := (nI_ltI (by omega) (by omega)).mp e3
              refine lv_iconst (v := nI 1) hx hb dX6_isPlace_53 (by decide) ?_
              refine lv_goto (tgt := 58) hx hb dX6_isPlace_54 (by decide) ?_
              refine g_asi (show _ = bI true from bI_t') ?_
              exact hret (some (.int (bI true))) _ _ (by simp [okPl, c1, g1, g2, e3]) (rt_z dX6_isPlace_58)
            · have e3 : 4 ≤ d := Nat.not_lt.mp (fun z => e3 ((nI_ltI (by omega) (by omega)).mpr z))
              refine lv_iload hx hb dX6_isPlace_45 (lv_at hl 4 rfl) ?_
              refine g_cS (v := (some (.int (bI (okNum w))))) (As := [.int w]) (rest := []) hx hb hml hown hts hN hP (c_isNumber l Γ K F w) gX6_isPlace_X6_isNumber rfl (na := 1) rfl (by decide +kernel) ⟨by decide, by decide⟩ ⟨Nat.zero_le _, Nat.zero_le _⟩ rfl hl.1 (Nat.le_of_ble_eq_true rfl) dX6_isPlace_47 ?_
              show W _ _ _ _ _ _ _ _ _ _ _ _ _ _ _ (F0 m 50 ls [.int (bI (okNum w))])
              refine lv_if_eq (tgt := 57) hx hb dX6_isPlace_50 (by decide) (fun g3 => ?_) (fun g3 => ?_)
              · have g3 : (okNum w) = false := bI_0.mp g3
                refine lv_iconst (v := nI 0) hx hb dX6_isPlace_57 (by decide) ?_
                refine g_asi (show _ = bI false from bI_f') ?_
                exact hret (some (.int (bI false))) _ _ (by simp [okPl, c1, g1, g2, Nat.not_lt.mpr e3, g3]) (rt_z dX6_isPlace_58)
              · have g3 : (okNum w) = true := bI_n0.mp g3
                refine lv_iconst (v := nI 1) hx hb dX6_isPlace_53 (by decide) ?_
                refine lv_goto (tgt := 58) hx hb dX6_isPlace_54 (by decide) ?_
                refine g_asi (show _ = bI true from bI_t') ?_
                exact hret (some (.int (bI true))) _ _ (by simp [okPl, c1, g1, g2, g3]) (rt_z dX6_isPlace_58)

set_option maxHeartbeats 4000000 in
set_option maxRecDepth 100000 in
theorem c_deadCount (l : Launch) (Γ : gG) (K : gK) (F : gF) (x lb T row h ai ad J pts lens d : Nat) (tc : TT Nat) (nd : Nat → Option Nat) (dt : Nat → gPt) (pl : Nat → Nat) (dd : Nat → Bool) (S : List (Nat × Int64)) (lim lk bc bg bp : Nat) (hNT : NT K F x lb T row h ai ad J pts lens d tc nd dt pl dd S lim lk bc bg bp) : gMR l yX6_deadCount wsX6_deadCount 2 Γ K F [.ref x] (some (.int (nI (tSz tc) - nI (gLive nd 100).length))) := by
  refine g_mR (cc := cX6_deadCount) (maxL := 1) (ret := (some .int)) (by decide) rfl (Nat.le_of_ble_eq_true rfl) ?_
  intro p e s m args below meth c ls Z hx hb hts hown hml hN hP hret hl
  have hl : lv_has ls 1 [(0, .ref x)] := hl
  have hown : s.vm.findClass RX6 = some m.cls := hown
  have hi6 : ∀ w ∈ wsX60, w ∈ wsX6_deadCount := by decide +kernel
  have hfX6_33 : Cond.fieldLink RX6 33 (TX6 2).1 (TX6 2).2.1 (TX6 2).2.2.1 ∈ wsX6_deadCount := by decide +kernel
  have hfX6_66 : Cond.fieldLink RX6 66 (TX6 5).1 (TX6 5).2.1 (TX6 5).2.2.1 ∈ wsX6_deadCount := by decide +kernel
  obtain ⟨⟨kx, klb, kT, krow, kh, kai, kad, kJ, kpts, klens, krp⟩, ⟨hd1, hd4⟩, ⟨x0, x1, x2, x3, x4, x5, x6, x7, x8⟩, ⟨t0, t1, t2, t3, hC⟩, ⟨j0, j1, stJ, hstJ⟩, hrN, hLS, hND, ⟨p1, p2, p3, p4, p5, p6, p7⟩⟩ := id hNT
  have hlive : ∀ i a, i < 100 → nd i = some a → ndD K F a (pl a) (dt a) ∧ F a 2 = .int (bI (dd a)) := fun i a hi ha => hND a (p2 i a hi ha).1
  refine lv_aload_n hx hb dX6_deadCount_0 rfl (lv_at hl 0 rfl) ?_
  refine g_get (C := RX6) (T := TX6) (N := 9) hx hb hts hi6 hown hN hP kx rfl (by decide) 2 (by decide) hfX6_33 (v := .ref T) x2 dX6_deadCount_1 ?_
  refine g_cV (v := (some (.int (nI (tSz tc))))) (As := []) (b := T) (rest := []) hx hb hml hown hts hN hP (c_nodeCount l Γ K F T d tc kT t2 hC (fun a ha => (hND a ha).1.1)) gX6_deadCount_X5_nodeCount rfl kT (by decide) rfl (na := 0) rfl (by decide +kernel) ⟨by decide, by decide⟩ ⟨Nat.zero_le _, Nat.zero_le _⟩ rfl hl.1 (Nat.le_of_ble_eq_true rfl) dX6_deadCount_4 ?_
  show W _ _ _ _ _ _ _ _ _ _ _ _ _ _ _ (F0 m 7 ls [.int (nI (tSz tc))])
  refine lv_aload_n hx hb dX6_deadCount_7 rfl (lv_at hl 0 rfl) ?_
  refine g_get (C := RX6) (T := TX6) (N := 9) hx hb hts hi6 hown hN hP kx rfl (by decide) 5 (by decide) hfX6_66 (v := .int (nI (gLive nd 100).length)) x5 dX6_deadCount_8 ?_
  refine lv_isub hx hb dX6_deadCount_11 ?_
  exact hret (some (.int ((nI (tSz tc)) - (nI (gLive nd 100).length)))) _ _ (rfl) (rt_i dX6_deadCount_12)

set_option maxHeartbeats 4000000 in
set_option maxRecDepth 100000 in
theorem c_looked (l : Launch) (Γ : gG) (K : gK) (F : gF) (x lb T row h ai ad J pts lens d : Nat) (tc : TT Nat) (nd : Nat → Option Nat) (dt : Nat → gPt) (pl : Nat → Nat) (dd : Nat → Bool) (S : List (Nat × Int64)) (lim lk bc bg bp : Nat) (hNT : NT K F x lb T row h ai ad J pts lens d tc nd dt pl dd S lim lk bc bg bp) : gMR l yX6_looked wsX6_looked 0 Γ K F [.ref x] (some (.int (nI lk))) := by
  refine g_mR (cc := cX6_looked) (maxL := 1) (ret := (some .int)) (by decide) rfl (Nat.le_of_ble_eq_true rfl) ?_
  intro p e s m args below meth c ls Z hx hb hts hown hml hN hP hret hl
  have hl : lv_has ls 1 [(0, .ref x)] := hl
  have hown : s.vm.findClass RX6 = some m.cls := hown
  have hi6 : ∀ w ∈ wsX60, w ∈ wsX6_looked := by decide +kernel
  have hfX6_146 : Cond.fieldLink RX6 146 (TX6 6).1 (TX6 6).2.1 (TX6 6).2.2.1 ∈ wsX6_looked := by decide +kernel
  obtain ⟨⟨kx, klb, kT, krow, kh, kai, kad, kJ, kpts, klens, krp⟩, ⟨hd1, hd4⟩, ⟨x0, x1, x2, x3, x4, x5, x6, x7, x8⟩, ⟨t0, t1, t2, t3, hC⟩, ⟨j0, j1, stJ, hstJ⟩, hrN, hLS, hND, ⟨p1, p2, p3, p4, p5, p6, p7⟩⟩ := id hNT
  have hlive : ∀ i a, i < 100 → nd i = some a → ndD K F a (pl a) (dt a) ∧ F a 2 = .int (bI (dd a)) := fun i a hi ha => hND a (p2 i a hi ha).1
  refine lv_aload_n hx hb dX6_looked_0 rfl (lv_at hl 0 rfl) ?_
  refine g_get (C := RX6) (T := TX6) (N := 9) hx hb hts hi6 hown hN hP kx rfl (by decide) 6 (by decide) hfX6_146 (v := .int (nI lk)) x6 dX6_looked_1 ?_
  exact hret (some (.int (nI lk))) _ _ (rfl) (rt_i dX6_looked_4)

set_option maxHeartbeats 4000000 in
set_option maxRecDepth 100000 in
theorem c_at (l : Launch) (hfl : l.stackTraces = false) (Γ : gG) (K : gK) (F : gF) (sz : Nat) (x lb T row h ai ad J pts lens d : Nat) (tc : TT Nat) (nd : Nat → Option Nat) (dt : Nat → gPt) (pl : Nat → Nat) (dd : Nat → Bool) (S : List (Nat × Int64)) (lim lk bc bg bp : Nat) (hNT : NT K F x lb T row h ai ad J pts lens d tc nd dt pl dd S lim lk bc bg bp) (d9 ax : Int32) : gMX l yX6_at wsX6_at 8 1 6 Γ K F sz [.ref x, .int d9, .int ax] (fun v K' F' => K' = K ∧ F' = F ∧ ∃ i a n, i < 100 ∧ a < 4 ∧ d9 = nI i ∧ ax = nI a ∧ nd i = some n ∧ v = some (.int ((dt n).2 a))) (fun E => (E = nIAE ∧ ¬ (okId d9 = true ∧ ¬ ax < 0 ∧ ax < 4)) ∨ (E = nISE ∧ (okId d9 = true ∧ ¬ ax < 0 ∧ ax < 4) ∧ ∀ i, d9 = nI i → i < 100 → nd i = none)) := by
  refine g_mX (cc := cX6_at) (maxL := 4) (ret := (some .int)) hfl rfl (by decide) rfl (Nat.le_of_ble_eq_true rfl) ?_
  intro p e s m args below meth c ls Z hsz hx hb hts hown hml hN hW hret hthr hl
  have hl : lv_has ls 4 [(0, .ref x), (1, .int d9), (2, .int ax)] := hl
  have hown : s.vm.findClass RX6 = some m.cls := hown
  have hi2 : ∀ w ∈ wsX20, w ∈ wsX6_at := by decide +kernel
  have hi6 : ∀ w ∈ wsX60, w ∈ wsX6_at := by decide +kernel
  have hfX6_24 : Cond.fieldLink RX6 24 (TX6 1).1 (TX6 1).2.1 (TX6 1).2.2.1 ∈ wsX6_at := by decide +kernel
  have hfX6_122 : Cond.fieldLink RX6 122 (TX2 1).1 (TX2 1).2.1 (TX2 1).2.2.1 ∈ wsX6_at := by decide +kernel
  obtain ⟨⟨kx, klb, kT, krow, kh, kai, kad, kJ, kpts, klens, krp⟩, ⟨hd1, hd4⟩, ⟨x0, x1, x2, x3, x4, x5, x6, x7, x8⟩, ⟨t0, t1, t2, t3, hC⟩, ⟨j0, j1, stJ, hstJ⟩, hrN, hLS, hND, ⟨p1, p2, p3, p4, p5, p6, p7⟩⟩ := id hNT
  have hlive : ∀ i a, i < 100 → nd i = some a → ndD K F a (pl a) (dt a) ∧ F a 2 = .int (bI (dd a)) := fun i a hi ha => hND a (p2 i a hi ha).1
  refine lv_iload_n hx hb dX6_at_0 rfl (lv_at hl 1 rfl) ?_
  refine g_cS (v := (some (.int (bI (okId d9))))) (As := [.int d9]) (rest := []) hx hb hml hown hts hN hW.1 (c_isId l Γ K F d9) gX6_at_X6_isId rfl (na := 1) rfl (by decide +kernel) ⟨by decide, by decide⟩ ⟨Nat.zero_le _, Nat.zero_le _⟩ rfl hl.1 (Nat.le_of_ble_eq_true rfl) dX6_at_1 ?_
  show W _ _ _ _ _ _ _ _ _ _ _ _ _ _ _ (F0 m 4 ls [.int (bI (okId d9))])
  refine lv_if_eq (tgt := 16) hx hb dX6_at_4 (by decide) (fun c1 => ?_) (fun c1 => ?_)
  · have c1 : (okId d9) = false := bI_0.mp c1
    exact hthr nIAE "at: the id or the axis is out of range" 59 118 63 16 _ _ ls (Or.inl ⟨rfl, fun z => by rw [c1] at z; cases z.1⟩) x_IAE (show (118, "at: the id or the axis is out of range") ∈ gStr by decide +kernel) (by decide +kernel) (by decide +kernel) (fun w h => List.mem_cons_of_mem _ (List.mem_append_left _ (List.mem_append_right _ h))) dX6_at_16 dX6_at_19 dX6_at_20 dX6_at_22 dX6_at_25 (by decide) (by decide) (by decide) hW hl.1
  · have c1 : (okId d9) = true := bI_n0.mp c1
    refine lv_iload_n hx hb dX6_at_7 rfl (lv_at hl 2 rfl) ?_
    refine lv_if_lt (tgt := 16) hx hb dX6_at_8 (by decide) (fun c2 => ?_) (fun c2 => ?_)
    · exact hthr nIAE "at: the id or the axis is out of range" 59 118 63 16 _ _ ls (Or.inl ⟨rfl, fun z => z.2.1 c2⟩) x_IAE (show (118, "at: the id or the axis is out of range") ∈ gStr by decide +kernel) (by decide +kernel) (by decide +kernel) (fun w h => List.mem_cons_of_mem _ (List.mem_append_left _ (List.mem_append_right _ h))) dX6_at_16 dX6_at_19 dX6_at_20 dX6_at_22 dX6_at_25 (by decide) (by decide) (by decide) hW hl.1
    · refine lv_iload_n hx hb dX6_at_11 rfl (lv_at hl 2 rfl) ?_
      refine lv_iconst (v := 4) hx hb dX6_at_12 (by decide) ?_
      refine lv_icmp_lt (tgt := 26) hx hb dX6_at_13 (by decide) (fun c3 => ?_) (fun c3 => ?_)
      · obtain ⟨i, hi, rfl⟩ := okId_nI c1
        obtain ⟨a, ha, rfl⟩ : ∃ a : Nat, a < 4 ∧ ax = nI a := by
          obtain ⟨a, ha, e⟩ := nI_of c2
          exact ⟨a, (nI_ltI ha (by decide)).mp (e ▸ c3), e⟩
        refine lv_aload_n hx hb dX6_at_26 rfl (lv_at hl 0 rfl) ?_
        refine g_get (C := RX6) (T := TX6) (N := 9) hx hb hts hi6 hown hN hW.1 kx rfl (by decide) 1 (by decide) hfX6_24 (v := .ref lb) x1 dX6_at_27 ?_
        refine lv_iload_n hx hb dX6_at_30 rfl (lv_at hl 1 rfl) ?_
        refine g_aald (j := i) hx hb hN hW.1 klb (by decide) (show _ = nI i from rfl) hi (v := va_rf (nd i)) (hrN i hi) dX6_at_31 ?_
        refine g_astore_n (r := nd i) (lv' := [(3, va_rf (nd i)), (0, .ref x), (1, .int (nI i)), (2, .int (nI a))]) hx hb dX6_at_32 rfl hl (by decide) rfl (fun ls hl => ?_)
        refine g_aload_n (r := nd i) hx hb dX6_at_33 rfl (lv_at hl 0 rfl) ?_
        refine g_ifnonnull (r := nd i) (tgt := 47) hx hb dX6_at_34 (by decide) (fun xc4 c4 => ?_) (fun c4 => ?_)
        · have q := (hlive i xc4 hi c4).1
          rw [c4] at hl
          have hl : lv_has ls 4 [(3, .ref xc4), (0, .ref x), (1, .int (nI i)), (2, .int (nI a))] := hl
          refine lv_aload_n hx hb dX6_at_47 rfl (lv_at hl 0 rfl) ?_
          refine g_get (C := RX2) (T := TX2) (N := 9) hx hb hts hi2 hown hN hW.1 q.1 rfl (by decide) 1 (by decide) hfX6_122 (v := .ref (pl xc4)) q.2.2.2.1 dX6_at_48 ?_
          refine lv_iload_n hx hb dX6_at_51 rfl (lv_at hl 3 rfl) ?_
          refine g_cV (v := (some (.int ((dt xc4).2 a)))) (As := [.int (nI a)]) (b := pl xc4) (rest := []) hx hb hml hown hts hN hW.1 (c_number l Γ K F (pl xc4) (dt xc4).2 a q.2.1 q.2.2.2.2.1 ha) gX6_at_X3_number rfl q.2.1 (by decide) rfl (na := 1) rfl (by decide +kernel) ⟨by decide, by decide⟩ ⟨Nat.zero_le _, Nat.zero_le _⟩ rfl hl.1 (Nat.le_of_ble_eq_true rfl) dX6_at_52 ?_
          show W _ _ _ _ _ _ _ _ _ _ _ _ _ _ _ (F0 m 55 ls [.int ((dt xc4).2 a)])
          exact hret (some (.int ((dt xc4).2 a))) _ _ _ _ _ _ _ _ (Nat.le_of_ble_eq_true rfl) (Nat.le_of_ble_eq_true rfl) hW (⟨rfl, rfl, i, a, xc4, hi, ha, rfl, rfl, c4, rfl⟩) (rt_i dX6_at_55)
        · exact hthr nISE "at: the id is not live" 69 120 73 37 _ _ ls (Or.inr ⟨rfl, ⟨c1, c2, c3⟩, fun i2 e2 h2 => by rw [(nI_eq (by omega) (by omega)).mp e2] at c4; exact c4⟩) x_ISE (show (120, "at: the id is not live") ∈ gStr by decide +kernel) (by decide +kernel) (by decide +kernel) (fun w h => List.mem_cons_of_mem _ (List.mem_append_right _ h)) dX6_at_37 dX6_at_40 dX6_at_41 dX6_at_43 dX6_at_46 (by decide) (by decide) (by decide) hW hl.1
      · exact hthr nIAE "at: the id or the axis is out of range" 59 118 63 16 _ _ ls (Or.inl ⟨rfl, fun z => c3 z.2.2⟩) x_IAE (show (118, "at: the id or the axis is out of range") ∈ gStr by decide +kernel) (by decide +kernel) (by decide +kernel) (fun w h => List.mem_cons_of_mem _ (List.mem_append_left _ (List.mem_append_right _ h))) dX6_at_16 dX6_at_19 dX6_at_20 dX6_at_22 dX6_at_25 (by decide) (by decide) (by decide) hW hl.1

set_option maxHeartbeats 4000000 in
set_option maxRecDepth 100000 in
theorem c_listed (l : Launch) (hfl : l.stackTraces = false) (Γ : gG) (K : gK) (F : gF) (sz : Nat) (x lb T row h ai ad J pts lens d : Nat) (tc : TT Nat) (nd : Nat → Option Nat) (dt : Nat → gPt) (pl : Nat → Nat) (dd : Nat → Bool) (S : List (Nat × Int64)) (lim lk bc bg bp : Nat) (hNT : NT K F x lb T row h ai ad J pts lens d tc nd dt pl dd S lim lk bc bg bp) (i9 : Int32) : gMX l yX6_listed wsX6_listed 8 1 6 Γ K F sz [.ref x, .int i9] (fun v K' F' => K' = K ∧ F' = F ∧ ∃ i y, i9 = nI i ∧ S[i]? = some y ∧ v = some (.int (nI y.1))) (fun E => E = nIOB ∧ ¬ (¬ i9 < 0 ∧ i9 < nI S.length)) := by
  refine g_mX (cc := cX6_listed) (maxL := 2) (ret := (some .int)) hfl rfl (by decide) rfl (Nat.le_of_ble_eq_true rfl) ?_
  intro p e s m args below meth c ls Z hsz hx hb hts hown hml hN hW hret hthr hl
  have hl : lv_has ls 2 [(0, .ref x), (1, .int i9)] := hl
  have hown : s.vm.findClass RX6 = some m.cls := hown
  have hi1 : ∀ w ∈ wsX10, w ∈ wsX6_listed := by decide +kernel
  have hi6 : ∀ w ∈ wsX60, w ∈ wsX6_listed := by decide +kernel
  have hfX6_40 : Cond.fieldLink RX6 40 (TX6 3).1 (TX6 3).2.1 (TX6 3).2.2.1 ∈ wsX6_listed := by decide +kernel
  have hfX6_173 : Cond.fieldLink RX6 173 (TX1 0).1 (TX1 0).2.1 (TX1 0).2.2.1 ∈ wsX6_listed := by decide +kernel
  obtain ⟨⟨kx, klb, kT, krow, kh, kai, kad, kJ, kpts, klens, krp⟩, ⟨hd1, hd4⟩, ⟨x0, x1, x2, x3, x4, x5, x6, x7, x8⟩, ⟨t0, t1, t2, t3, hC⟩, ⟨j0, j1, stJ, hstJ⟩, hrN, hLS, hND, ⟨p1, p2, p3, p4, p5, p6, p7⟩⟩ := id hNT
  have hlive : ∀ i a, i < 100 → nd i = some a → ndD K F a (pl a) (dt a) ∧ F a 2 = .int (bI (dd a)) := fun i a hi ha => hND a (p2 i a hi ha).1
  refine lv_aload_n hx hb dX6_listed_0 rfl (lv_at hl 0 rfl) ?_
  refine g_get (C := RX6) (T := TX6) (N := 9) hx hb hts hi6 hown hN hW.1 kx rfl (by decide) 3 (by decide) hfX6_40 (v := .ref h) x3 dX6_listed_1 ?_
  refine lv_iload_n hx hb dX6_listed_4 rfl (lv_at hl 1 rfl) ?_
  refine g_cV (v := (some (.int (bI (decide (¬ i9 < 0 ∧ i9 < nI S.length)))))) (As := [.int i9]) (b := h) (rest := []) hx hb hml hown hts hN hW.1 (c_has l Γ K F h S.length i9 kh hLS.2.2.2.2.2.1) gX6_listed_X1_has rfl kh (by decide) rfl (na := 1) rfl (by decide +kernel) ⟨by decide, by decide⟩ ⟨Nat.zero_le _, Nat.zero_le _⟩ rfl hl.1 (Nat.le_of_ble_eq_true rfl) dX6_listed_5 ?_
  show W _ _ _ _ _ _ _ _ _ _ _ _ _ _ _ (F0 m 8 ls [.int (bI (decide (¬ i9 < 0 ∧ i9 < nI S.length)))])
  refine lv_if_ne (tgt := 21) hx hb dX6_listed_8 (by decide) (fun c1 => ?_) (fun c1 => ?_)
  · have c1 : (decide (¬ i9 < 0 ∧ i9 < nI S.length)) = true := bI_n0.mp c1
    have c1 := of_decide_eq_true c1
    have hSl : S.length ≤ 100 := Nat.le_trans hLS.2.2.2.2.2.2.2.2.2.1 hLS.2.2.2.2.2.2.2.2.2.2.1
    obtain ⟨i, hi, rfl⟩ : ∃ i : Nat, i < S.length ∧ i9 = nI i := by
      obtain ⟨i, hi, e⟩ := nI_of c1.1
      exact ⟨i, (nI_ltI hi (by omega)).mp (e ▸ c1.2), e⟩
    obtain ⟨y, hy⟩ : ∃ y, S[i]? = some y := ⟨_, List.getElem?_eq_getElem hi⟩
    have y1 : F ai i = .int (nI y.1) := by
      have q := hLS.2.2.2.2.2.2.2.1 i (vId y) (by rw [List.getElem?_map, hy]; rfl)
      rw [Nat.zero_add] at q; exact q
    have y2 : F ad i = .long y.2 := by
      have q := hLS.2.2.2.2.2.2.2.2.1 i (vDi y) (by rw [List.getElem?_map, hy]; rfl)
      rw [Nat.zero_add] at q; exact q
    refine lv_aload_n hx hb dX6_listed_21 rfl (lv_at hl 0 rfl) ?_
    refine g_get (C := RX6) (T := TX6) (N := 9) hx hb hts hi6 hown hN hW.1 kx rfl (by decide) 3 (by decide) hfX6_40 (v := .ref h) x3 dX6_listed_22 ?_
    refine g_get (C := RX1) (T := TX1) (N := 4) hx hb hts hi1 hown hN hW.1 kh rfl (by decide) 0 (by decide) hfX6_173 (v := .ref ai) hLS.2.2.2.1 dX6_listed_25 ?_
    refine lv_iload_n hx hb dX6_listed_28 rfl (lv_at hl 1 rfl) ?_
    refine g_iald (j := i) hx hb hN hW.1 kai (by decide) (show _ = nI i from rfl) (by omega) (v := .int (nI y.1)) y1 dX6_listed_29 ?_
    exact hret (some (.int (nI y.1))) _ _ _ _ _ _ _ _ (Nat.le_of_ble_eq_true rfl) (Nat.le_of_ble_eq_true rfl) hW (⟨rfl, rfl, i, y, rfl, hy, rfl⟩) (rt_i dX6_listed_30)
  · have c1 : (decide (¬ i9 < 0 ∧ i9 < nI S.length)) = false := bI_0.mp c1
    exact hthr nIOB "listed: no such place in the list" 168 170 172 11 _ _ ls (⟨rfl, of_decide_eq_false c1⟩) x_IOB (show (170, "listed: no such place in the list") ∈ gStr by decide +kernel) (by decide +kernel) (by decide +kernel) (fun w h => List.mem_cons_of_mem _ (List.mem_append_right _ h)) dX6_listed_11 dX6_listed_14 dX6_listed_15 dX6_listed_17 dX6_listed_20 (by decide) (by decide) (by decide) hW hl.1

set_option maxHeartbeats 4000000 in
set_option maxRecDepth 100000 in
theorem c_distance (l : Launch) (hfl : l.stackTraces = false) (Γ : gG) (K : gK) (F : gF) (sz : Nat) (x lb T row h ai ad J pts lens d : Nat) (tc : TT Nat) (nd : Nat → Option Nat) (dt : Nat → gPt) (pl : Nat → Nat) (dd : Nat → Bool) (S : List (Nat × Int64)) (lim lk bc bg bp : Nat) (hNT : NT K F x lb T row h ai ad J pts lens d tc nd dt pl dd S lim lk bc bg bp) (i9 : Int32) : gMX l yX6_distance wsX6_distance 8 1 6 Γ K F sz [.ref x, .int i9] (fun v K' F' => K' = K ∧ F' = F ∧ ∃ i y, i9 = nI i ∧ S[i]? = some y ∧ v = some (.long y.2)) (fun E => E = nIOB ∧ ¬ (¬ i9 < 0 ∧ i9 < nI S.length)) := by
  refine g_mX (cc := cX6_distance) (maxL := 2) (ret := (some .long)) hfl rfl (by decide) rfl (Nat.le_of_ble_eq_true rfl) ?_
  intro p e s m args below meth c ls Z hsz hx hb hts hown hml hN hW hret hthr hl
  have hl : lv_has ls 2 [(0, .ref x), (1, .int i9)] := hl
  have hown : s.vm.findClass RX6 = some m.cls := hown
  have hi1 : ∀ w ∈ wsX10, w ∈ wsX6_distance := by decide +kernel
  have hi6 : ∀ w ∈ wsX60, w ∈ wsX6_distance := by decide +kernel
  have hfX6_40 : Cond.fieldLink RX6 40 (TX6 3).1 (TX6 3).2.1 (TX6 3).2.2.1 ∈ wsX6_distance := by decide +kernel
  have hfX6_179 : Cond.fieldLink RX6 179 (TX1 1).1 (TX1 1).2.1 (TX1 1).2.2.1 ∈ wsX6_distance := by decide +kernel
  obtain ⟨⟨kx, klb, kT, krow, kh, kai, kad, kJ, kpts, klens, krp⟩, ⟨hd1, hd4⟩, ⟨x0, x1, x2, x3, x4, x5, x6, x7, x8⟩, ⟨t0, t1, t2, t3, hC⟩, ⟨j0, j1, stJ, hstJ⟩, hrN, hLS, hND, ⟨p1, p2, p3, p4, p5, p6, p7⟩⟩ := id hNT
  have hlive : ∀ i a, i < 100 → nd i = some a → ndD K F a (pl a) (dt a) ∧ F a 2 = .int (bI (dd a)) := fun i a hi ha => hND a (p2 i a hi ha).1
  refine lv_aload_n hx hb dX6_distance_0 rfl (lv_at hl 0 rfl) ?_
  refine g_get (C := RX6) (T := TX6) (N := 9) hx hb hts hi6 hown hN hW.1 kx rfl (by decide) 3 (by decide) hfX6_40 (v := .ref h) x3 dX6_distance_1 ?_
  refine lv_iload_n hx hb dX6_distance_4 rfl (lv_at hl 1 rfl) ?_
  refine g_cV (v := (some (.int (bI (decide (¬ i9 < 0 ∧ i9 < nI S.length)))))) (As := [.int i9]) (b := h) (rest := []) hx hb hml hown hts hN hW.1 (c_has l Γ K F h S.length i9 kh hLS.2.2.2.2.2.1) gX6_distance_X1_has rfl kh (by decide) rfl (na := 1) rfl (by decide +kernel) ⟨by decide, by decide⟩ ⟨Nat.zero_le _, Nat.zero_le _⟩ rfl hl.1 (Nat.le_of_ble_eq_true rfl) dX6_distance_5 ?_
  show W _ _ _ _ _ _ _ _ _ _ _ _ _ _ _ (F0 m 8 ls [.int (bI (decide (¬ i9 < 0 ∧ i9 < nI S.length)))])
  refine lv_if_ne (tgt := 21) hx hb dX6_distance_8 (by decide) (fun c1 => ?_) (fun c1 => ?_)
  · have c1 : (decide (¬ i9 < 0 ∧ i9 < nI S.length)) = true := bI_n0.mp c1
    have c1 := of_decide_eq_true c1
    have hSl : S.length ≤ 100 := Nat.le_trans hLS.2.2.2.2.2.2.2.2.2.1 hLS.2.2.2.2.2.2.2.2.2.2.1
    obtain ⟨i, hi, rfl⟩ : ∃ i : Nat, i < S.length ∧ i9 = nI i := by
      obtain ⟨i, hi, e⟩ := nI_of c1.1
      exact ⟨i, (nI_ltI hi (by omega)).mp (e ▸ c1.2), e⟩
    obtain ⟨y, hy⟩ : ∃ y, S[i]? = some y := ⟨_, List.getElem?_eq_getElem hi⟩
    have y1 : F ai i = .int (nI y.1) := by
      have q := hLS.2.2.2.2.2.2.2.1 i (vId y) (by rw [List.getElem?_map, hy]; rfl)
      rw [Nat.zero_add] at q; exact q
    have y2 : F ad i = .long y.2 := by
      have q := hLS.2.2.2.2.2.2.2.2.1 i (vDi y) (by rw [List.getElem?_map, hy]; rfl)
      rw [Nat.zero_add] at q; exact q
    refine lv_aload_n hx hb dX6_distance_21 rfl (lv_at hl 0 rfl) ?_
    refine g_get (C := RX6) (T := TX6) (N := 9) hx hb hts hi6 hown hN hW.1 kx rfl (by decide) 3 (by decide) hfX6_40 (v := .ref h) x3 dX6_distance_22 ?_
    refine g_get (C := RX1) (T := TX1) (N := 4) hx hb hts hi1 hown hN hW.1 kh rfl (by decide) 1 (by decide) hfX6_179 (v := .ref ad) hLS.2.2.2.2.1 dX6_distance_25 ?_
    refine lv_iload_n hx hb dX6_distance_28 rfl (lv_at hl 1 rfl) ?_
    refine g_lald (j := i) hx hb hN hW.1 kad (by decide) (show _ = nI i from rfl) (by omega) (v := .long y.2) y2 dX6_distance_29 ?_
    exact hret (some (.long y.2)) _ _ _ _ _ _ _ _ (Nat.le_of_ble_eq_true rfl) (Nat.le_of_ble_eq_true rfl) hW (⟨rfl, rfl, i, y, rfl, hy, rfl⟩) (rt_l dX6_distance_30)
  · have c1 : (decide (¬ i9 < 0 ∧ i9 < nI S.length)) = false := bI_0.mp c1
    exact hthr nIOB "distance: no such place in the list" 168 177 172 11 _ _ ls (⟨rfl, of_decide_eq_false c1⟩) x_IOB (show (177, "distance: no such place in the list") ∈ gStr by decide +kernel) (by decide +kernel) (by decide +kernel) (fun w h => List.mem_cons_of_mem _ (List.mem_append_right _ h)) dX6_distance_11 dX6_distance_14 dX6_distance_15 dX6_distance_17 dX6_distance_20 (by decide) (by decide) (by decide) hW hl.1
