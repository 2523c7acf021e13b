def wthS (P : Nat → Option (Nat → Int32)) (q : Nat → Int32) (most : Int64) (lim i : Nat) (S : List (Nat × Int64)) : List (Nat × Int64) := match P i with
  | none => S
  | some p => if pDist p q ≤ most then offL lim (i, pDist p q) S else S
def wthL (P : Nat → Option (Nat → Int32)) (q : Nat → Int32) (most : Int64) (lim k : Nat) : List (Nat × Int64) := itr (wthS P q most lim) 0 k []
theorem wthL_succ (P : Nat → Option (Nat → Int32)) (q : Nat → Int32) (most : Int64) (lim k : Nat) : wthL P q most lim (k + 1) = wthS P q most lim k (wthL P q most lim k) := by
  show wthS P q most lim (0 + k) _ = _
  rw [Nat.zero_add]; rfl

set_option maxHeartbeats 4000000 in
set_option maxRecDepth 100000 in
theorem c_within (l : Launch) (hfl : l.stackTraces = false) (Γ : gG) (K : gK) (F : gF) (sz : Nat) (x lb T row h ai ad J pts lens d : Nat) (tc : TT Nat) (nd : Nat → Option Nat) (dt : Nat → gPt) (pl : Nat → Nat) (dd : Nat → Bool) (S : List (Nat × Int64)) (lim lk bc bg bp : Nat) (hNT : NT K F x lb T row h ai ad J pts lens d tc nd dt pl dd S lim lk bc bg bp) (most : Int64) (xx yy zz ww : Int32) : gMX l yX6_within wsX6_within 8 1 6 Γ K F sz [.ref x, .long most, .int xx, .int yy, .int zz, .int ww] (fun v K' F' => ¬ most < 0 ∧ okPl d xx yy zz ww = true ∧ NT K' F' x lb T row h ai ad J pts lens d tc nd dt pl dd (wthL (ndP nd dt) (mkC d xx yy zz ww) most 60 100) 60 lk bc bg bp ∧ v = some (.int (nI (wthL (ndP nd dt) (mkC d xx yy zz ww) most 60 100).length))) (fun E => E = nIAE ∧ ¬ (¬ most < 0 ∧ okPl d xx yy zz ww = true)) := by
  refine g_mX (cc := cX6_within) (maxL := 14) (ret := (some .int)) hfl rfl (by decide) rfl (Nat.le_of_ble_eq_true rfl) ?_
  intro p e s m args below meth c ls Z hsz hx hb hts hown hml hN hW hret hthr hl
  have hl : lv_has ls 14 [(0, .ref x), (1, .long most), (3, .int xx), (4, .int yy), (5, .int zz), (6, .int ww)] := hl
  have hown : s.vm.findClass RX6 = some m.cls := hown
  have hi1 : ∀ w ∈ wsX10, w ∈ wsX6_within := by decide +kernel
  have hi2 : ∀ w ∈ wsX20, w ∈ wsX6_within := by decide +kernel
  have hi3 : ∀ w ∈ wsX30, w ∈ wsX6_within := by decide +kernel
  have hi6 : ∀ w ∈ wsX60, w ∈ wsX6_within := by decide +kernel
  have hfX6_18 : Cond.fieldLink RX6 18 (TX6 0).1 (TX6 0).2.1 (TX6 0).2.2.1 ∈ wsX6_within := by decide +kernel
  have hfX6_24 : Cond.fieldLink RX6 24 (TX6 1).1 (TX6 1).2.1 (TX6 1).2.2.1 ∈ wsX6_within := by decide +kernel
  have hfX6_40 : Cond.fieldLink RX6 40 (TX6 3).1 (TX6 3).2.1 (TX6 3).2.2.1 ∈ wsX6_within := by decide +kernel
  have hfX6_122 : Cond.fieldLink RX6 122 (TX2 1).1 (TX2 1).2.1 (TX2 1).2.2.1 ∈ wsX6_within := by decide +kernel
  have hfX6_149 : Cond.fieldLink RX6 149 (TX1 2).1 (TX1 2).2.1 (TX1 2).2.2.1 ∈ wsX6_within := by decide +kernel
  have hfX6_158 : Cond.fieldLink RX6 158 (TX2 0).1 (TX2 0).2.1 (TX2 0).2.2.1 ∈ wsX6_within := by decide +kernel
  obtain ⟨⟨kx, klb, kT, krow, kh, kai, kad, kJ, kpts, klens, krp⟩, ⟨hd1, hd4⟩, ⟨x0, x1, x2, x3, x4, x5, x6, x7, x8⟩, ⟨t0, t1, t2, t3, hC⟩, ⟨j0, j1, stJ, hstJ⟩, hrN, hLS, hND, ⟨p1, p2, p3, p4, p5, p6, p7⟩⟩ := id hNT
  have hlive : ∀ i a, i < 100 → nd i = some a → ndD K F a (pl a) (dt a) ∧ F a 2 = .int (bI (dd a)) := fun i a hi ha => hND a (p2 i a hi ha).1
  refine lv_lload_n hx hb dX6_within_0 rfl (lv_at hl 1 rfl) ?_
  refine lv_lconst (v := 0) hx hb dX6_within_1 (by decide) ?_
  refine W.lcmp hx hb dX6_within_2 ?_
  refine lv_if_lt (tgt := 20) hx hb dX6_within_3 (by decide) (fun c1 => ?_) (fun c1 => ?_)
  · have c1 : _ := (lg_cmp_lt _ _).mp c1
    exact hthr nIAE "within: most or a number that counts is out of range" 59 152 63 20 _ _ ls (⟨rfl, fun z => z.1 c1⟩) x_IAE (show (152, "within: most or a number that counts is out of range") ∈ gStr by decide +kernel) (by decide +kernel) (by decide +kernel) (fun w h => List.mem_cons_of_mem _ (List.mem_append_right _ h)) dX6_within_20 dX6_within_23 dX6_within_24 dX6_within_26 dX6_within_29 (by decide) (by decide) (by decide) hW hl.1
  · have c1 : ¬ _ := fun z => c1 ((lg_cmp_lt _ _).mpr z)
    refine lv_aload_n hx hb dX6_within_6 rfl (lv_at hl 0 rfl) ?_
    refine lv_iload_n hx hb dX6_within_7 rfl (lv_at hl 2 rfl) ?_
    refine lv_iload hx hb dX6_within_8 (lv_at hl 3 rfl) ?_
    refine lv_iload hx hb dX6_within_10 (lv_at hl 4 rfl) ?_
    refine lv_iload hx hb dX6_within_12 (lv_at hl 5 rfl) ?_
    refine g_cV (v := (some (.int (bI (okPl d xx yy zz ww))))) (As := [.int xx, .int yy, .int zz, .int ww]) (b := x) (rest := []) hx hb hml hown hts hN hW.1 (c_isPlace l Γ K F x d xx yy zz ww kx x0 hd4) gX6_within_X6_isPlace rfl kx (by decide) rfl (na := 4) rfl (by decide +kernel) ⟨by decide, by decide⟩ ⟨Nat.zero_le _, Nat.zero_le _⟩ rfl hl.1 (Nat.le_of_ble_eq_true rfl) dX6_within_14 ?_
    show W _ _ _ _ _ _ _ _ _ _ _ _ _ _ _ (F0 m 17 ls [.int (bI (okPl d xx yy zz ww))])
    refine lv_if_ne (tgt := 30) hx hb dX6_within_17 (by decide) (fun c3 => ?_) (fun c3 => ?_)
    · have c3 : (okPl d xx yy zz ww) = true := bI_n0.mp c3
      refine g_new (C := RX3) (T := TX3) (N := 4) (ci := 3) hx hb hts hi3 tyX3 tyX3_ok hown (show Cond.classLink RX6 74 RX3 ∈ _ by decide +kernel) (by decide +kernel) (by decide +kernel) hN hW rfl (by decide) (Nat.le_of_ble_eq_true rfl) (Nat.le_of_ble_eq_true rfl) dX6_within_30 (fun q1 H hqe_q1 hq_q1 hW => ?_)
      refine lv_dup hx hb dX6_within_33 rfl ?_
      refine lv_aload_n hx hb dX6_within_34 rfl (lv_at hl 0 rfl) ?_
      refine g_get (C := RX6) (T := TX6) (N := 9) hx hb hts hi6 hown hN hW.1 (kup hq_q1 kx) rfl (by decide) 0 (by decide) hfX6_18 (v := .int (nI d)) (fup hq_q1 kx x0) dX6_within_35 ?_
      refine lv_iload_n hx hb dX6_within_38 rfl (lv_at hl 2 rfl) ?_
      refine lv_iload hx hb dX6_within_39 (lv_at hl 3 rfl) ?_
      refine lv_iload hx hb dX6_within_41 (lv_at hl 4 rfl) ?_
      refine lv_iload hx hb dX6_within_43 (lv_at hl 5 rfl) ?_
      have hK1 : ∀ a k, K a = some k → (va_up K q1 (some (3, 0))) a = some k := fun _ _ h => kup hq_q1 h
      have kq1 : (va_up K q1 (some (3, 0))) q1 = some (3, 0) := va_up_self _ _ _
      have F1e : ∀ b i k, K b = some k → (va_up F q1 (fun j => defaultValue (tyX3 j))) b i = F b i := fun b i k hb => fup' hq_q1 hb
      refine g_mI (As := [.int (nI d), .int xx, .int yy, .int zz, .int ww]) (b := q1) (rest := [.ref q1]) hx hb hml hown hts hN hW (c_Place l Γ _ _ H.size q1 d xx yy zz ww kq1 hd4) gX6_within_X3_init rfl (by decide +kernel) (by decide +kernel) (by decide +kernel) rfl (na := 5) rfl (by decide +kernel) ⟨by decide, by decide⟩ ⟨Nat.le_of_ble_eq_true rfl, Nat.le_of_ble_eq_true rfl⟩ rfl hl.1 (Nat.le_of_ble_eq_true rfl) dX6_within_45 (fun v K' F3 H locs hp hW hsz' => ?_)
      obtain ⟨rfl, hK9, hpl, hfr3⟩ := hp
      subst K'
      show W _ _ _ _ _ _ _ _ _ _ _ _ _ _ _ (F0 m 48 ls [.ref q1])
      have nq1 : ∀ b k, K b = some k → b ≠ q1 := fun b k hb e => by rw [e, hq_q1] at hb; cases hb
      have F3e : ∀ b i k, K b = some k → F3 b i = F b i := fun b i k hb => (hfr3 b i (nq1 b k hb)).trans (F1e b i k hb)
      refine lv_astore (lv' := [(7, .ref q1), (0, .ref x), (1, .long most), (3, .int xx), (4, .int yy), (5, .int zz), (6, .int ww)]) hx hb dX6_within_48 hl (by decide) rfl (fun ls hl => ?_)
      refine lv_aload_n hx hb dX6_within_50 rfl (lv_at hl 1 rfl) ?_
      refine g_get (C := RX6) (T := TX6) (N := 9) hx hb hts hi6 hown hN hW.1 (hK1 _ _ kx) rfl (by decide) 3 (by decide) hfX6_40 (v := .ref h) ((F3e x 3 _ kx).trans x3) dX6_within_51 ?_
      refine lv_bipush (v := nI 60) hx hb dX6_within_54 (by decide) ?_
      refine g_mV (As := [.int (nI 60)]) (b := h) (rest := []) hx hb hml hown hts hN hW (c_empty l Γ _ F3 H.size h ai 60 (hK1 _ _ kh) (hK1 _ _ kai) ((F3e h 0 _ kh).trans hLS.2.2.2.1) (by decide)) gX6_within_X1_empty rfl (hK1 _ _ kh) (by decide) rfl (na := 1) rfl (by decide +kernel) ⟨by decide, by decide⟩ ⟨Nat.le_of_ble_eq_true rfl, Nat.le_of_ble_eq_true rfl⟩ rfl hl.1 (Nat.le_of_ble_eq_true rfl) dX6_within_56 (fun v K' F4 H locs hp hW hsz' => ?_)
      obtain ⟨rfl, hK9, hF4⟩ := hp
      subst K'
      show W _ _ _ _ _ _ _ _ _ _ _ _ _ _ _ (F0 m 59 ls [])
      have f4 : ∀ b i, b ≠ h → F4 b i = F3 b i := fun b i hb => by rw [hF4, gU_a hb, gU_a hb]
      have F4e : ∀ b i k, K b = some k → b ≠ h → F4 b i = F b i := fun b i k hb hh => (f4 b i hh).trans (F3e b i k hb)
      have fh : F4 h 0 = F h 0 ∧ F4 h 1 = F h 1 ∧ F4 h 2 = .int (nI 0) ∧ F4 h 3 = .int (nI 60) := by
        rw [hF4]
        exact ⟨by rw [gU_k (by decide), gU_k (by decide)]; exact F3e h 0 _ kh, by rw [gU_k (by decide), gU_k (by decide)]; exact F3e h 1 _ kh, by rw [gU_k (by decide)]; exact gU_self, gU_self⟩
      have hL4 : lsR (va_up K q1 (some (3, 0))) F4 h ai ad [] 60 := lsR_empty hLS hK1 fh.1 fh.2.1 fh.2.2.1 fh.2.2.2 (by decide)
      have hp4 : ∀ i, i < 4 → F4 q1 i = .int (mkC d xx yy zz ww i) := fun i hi => (f4 q1 i (fun e => nq1 h _ kh e.symm)).trans (hpl i hi)
      generalize hK5 : (va_up K q1 (some (3, 0))) = K5 at hK1 kq1 hL4 hW
      have loop : ∀ (j k : Nat) (F5 : gF) (H : Heap) (locs : List Loc) (ls : Array Slot), k + j = 100 → lsR K5 F5 h ai ad (wthL (ndP nd dt) (mkC d xx yy zz ww) most 60 k) 60 → (∀ b i, b ≠ h → b ≠ ai → b ≠ ad → F5 b i = F4 b i) → gW Γ (gA K sz) s.heap K5 F5 H locs → lv_has ls 14 [(10, .int (nI k)), (9, .int (nI 100)), (8, .ref lb), (7, .ref q1), (0, .ref x), (1, .long most), (3, .int xx), (4, .int yy), (5, .int zz), (6, .int ww)] → W p l e (gRm 8 1 6) s m args below meth c H locs 1 4 Z (F0 m 73 ls []) := by
        intro j
        induction j with
        | zero =>
          intro k F5 H locs ls hj hL5 hf5 hW hl
          have hx5 : ∀ i, F5 x i = F x i := fun i => (hf5 x i (kne kx kh (by decide)) (kne kx kai (by decide)) (kne kx kad (by decide))).trans (F4e x i _ kx (kne kx kh (by decide)))
          have hq5 : ∀ i, F5 q1 i = F4 q1 i := fun i => hf5 q1 i (fun e => nq1 h _ kh e.symm) (fun e => nq1 ai _ kai e.symm) (fun e => nq1 ad _ kad e.symm)
          refine lv_iload hx hb dX6_within_73 (lv_at hl 0 rfl) ?_
          refine lv_iload hx hb dX6_within_75 (lv_at hl 1 rfl) ?_
          refine lv_icmp_ge (tgt := 131) hx hb dX6_within_77 (by decide) (fun c4 => ?_) (fun c4 => ?_)
          · have c4 : 100 ≤ k := (nI_leI (by omega) (by omega)).mp c4
            obtain rfl : k = 100 := by omega
            have hNT6 : NT K5 F5 x lb T row h ai ad J pts lens d tc nd dt pl dd (wthL (ndP nd dt) (mkC d xx yy zz ww) most 60 100) 60 lk bc bg bp := NT_up hNT hK1 (fun b k i hb h1 h2 h3 _ => (hf5 b i h1 h2 h3).trans (F4e b i k hb h1)) ((hx5 6).trans x6) hL5
            refine lv_aload_n hx hb dX6_within_131 rfl (lv_at hl 4 rfl) ?_
            refine g_get (C := RX6) (T := TX6) (N := 9) hx hb hts hi6 hown hN hW.1 (hK1 _ _ kx) rfl (by decide) 3 (by decide) hfX6_40 (v := .ref h) ((hx5 3).trans x3) dX6_within_132 ?_
            refine g_get (C := RX1) (T := TX1) (N := 4) hx hb hts hi1 hown hN hW.1 (hK1 _ _ kh) rfl (by decide) 2 (by decide) hfX6_149 (v := .int (nI (wthL (ndP nd dt) (mkC d xx yy zz ww) most 60 100).length)) hL5.2.2.2.2.2.1 dX6_within_135 ?_
            exact hret (some (.int (nI (wthL (ndP nd dt) (mkC d xx yy zz ww) most 60 100).length))) _ _ _ _ _ _ _ _ (Nat.le_of_ble_eq_true rfl) (Nat.le_of_ble_eq_true rfl) hW (⟨c1, c3, hNT6, rfl⟩) (rt_i dX6_within_138)
          · have c4 : k < 100 := Nat.not_le.mp (fun z => c4 ((nI_leI (by omega) (by omega)).mpr z))
            exact absurd c4 (by omega)
        | succ j ih =>
          intro k F5 H locs ls hj hL5 hf5 hW hl
          have hx5 : ∀ i, F5 x i = F x i := fun i => (hf5 x i (kne kx kh (by decide)) (kne kx kai (by decide)) (kne kx kad (by decide))).trans (F4e x i _ kx (kne kx kh (by decide)))
          have hq5 : ∀ i, F5 q1 i = F4 q1 i := fun i => hf5 q1 i (fun e => nq1 h _ kh e.symm) (fun e => nq1 ai _ kai e.symm) (fun e => nq1 ad _ kad e.symm)
          refine lv_iload hx hb dX6_within_73 (lv_at hl 0 rfl) ?_
          refine lv_iload hx hb dX6_within_75 (lv_at hl 1 rfl) ?_
          refine lv_icmp_ge (tgt := 131) hx hb dX6_within_77 (by decide) (fun c4 => ?_) (fun c4 => ?_)
          · have c4 : 100 ≤ k := (nI_leI (by omega) (by omega)).mp c4
            exact absurd c4 (by omega)
          · have c4 : k < 100 := Nat.not_le.mp (fun z => c4 ((nI_leI (by omega) (by omega)).mpr z))
            refine lv_aload hx hb dX6_within_80 (lv_at hl 2 rfl) ?_
            refine lv_iload hx hb dX6_within_82 (lv_at hl 0 rfl) ?_
            refine g_aald (j := k) hx hb hN hW.1 (hK1 _ _ klb) (by decide) (show _ = nI k from rfl) (by omega) (v := va_rf (nd k)) ((hf5 lb k (kne klb kh (by decide)) (kne klb kai (by decide)) (kne klb kad (by decide))).trans ((F4e lb k _ klb (kne klb kh (by decide))).trans (hrN k (by omega)))) dX6_within_84 ?_
            refine g_astore (r := nd k) (lv' := [(11, va_rf (nd k)), (10, .int (nI k)), (9, .int (nI 100)), (8, .ref lb), (7, .ref q1), (0, .ref x), (1, .long most), (3, .int xx), (4, .int yy), (5, .int zz), (6, .int ww)]) hx hb dX6_within_85 hl (by decide) rfl (fun ls hl => ?_)
            refine g_aload (r := nd k) hx hb dX6_within_87 (lv_at hl 0 rfl) ?_
            refine g_ifnull (r := nd k) (tgt := 125) hx hb dX6_within_89 (by decide) (fun c5 => ?_) (fun xc5 c5 => ?_)
            · refine lv_iinc (v := nI (k + 1)) (lv' := [(10, .int (nI (k + 1))), (11, va_rf (nd k)), (9, .int (nI 100)), (8, .ref lb), (7, .ref q1), (0, .ref x), (1, .long most), (3, .int xx), (4, .int yy), (5, .int zz), (6, .int ww)]) hx hb dX6_within_125 hl (k := 1) rfl (inc1 _) (by decide) rfl (fun ls hl => ?_)
              refine lv_goto (tgt := 73) hx hb dX6_within_128 (by decide) ?_
              exact ih (k + 1) F5 H locs ls (by omega) (by rw [wthL_succ]; unfold wthS; rw [show ndP nd dt k = none by simp [ndP, c5]]; exact hL5) hf5 hW (lv_sub hl [0, 2, 3, 4, 5, 6, 7, 8, 9, 10] rfl)
            · rw [c5] at hl
              have hl : lv_has ls 14 [(11, .ref xc5), (10, .int (nI k)), (9, .int (nI 100)), (8, .ref lb), (7, .ref q1), (0, .ref x), (1, .long most), (3, .int xx), (4, .int yy), (5, .int zz), (6, .int ww)] := hl
              have q0 := hlive k xc5 (by omega) c5
              have hid := (p2 k xc5 (by omega) c5).2.1
              have q : ndD K5 F5 xc5 (pl xc5) (dt xc5) := ndD_up q0.1 hK1 (fun b j hb => by
                rcases hb with hb | hb
                · exact (hf5 b j (kne hb.1 kh (by decide)) (kne hb.1 kai (by decide)) (kne hb.1 kad (by decide))).trans (F4e b j _ hb.1 (kne hb.1 kh (by decide)))
                · exact (hf5 b j (kne hb kh (by decide)) (kne hb kai (by decide)) (kne hb kad (by decide))).trans (F4e b j _ hb (kne hb kh (by decide))))
              have hP9 : ndP nd dt k = some (dt xc5).2 := by simp [ndP, c5]
              refine lv_aload hx hb dX6_within_92 (lv_at hl 0 rfl) ?_
              refine g_get (C := RX2) (T := TX2) (N := 9) hx hb hts hi2 hown hN hW.1 q.1 rfl (by decide) 1 (by decide) hfX6_122 (v := .ref (pl xc5)) q.2.2.2.1 dX6_within_94 ?_
              refine lv_aload hx hb dX6_within_97 (lv_at hl 4 rfl) ?_
              refine g_cV (v := (some (.long (pDist (dt xc5).2 (mkC d xx yy zz ww))))) (As := [.ref q1]) (b := pl xc5) (rest := []) hx hb hml hown hts hN hW.1 (c_distanceTo l Γ K5 F5 (pl xc5) q1 (dt xc5).2 (mkC d xx yy zz ww) q.2.1 q.2.2.2.2.1 kq1 (fun i hi => (hq5 i).trans (hp4 i hi))) gX6_within_X3_distanceTo rfl q.2.1 (by decide) rfl (na := 1) rfl (by decide +kernel) ⟨by decide, by decide⟩ ⟨Nat.le_of_ble_eq_true rfl, Nat.le_of_ble_eq_true rfl⟩ rfl hl.1 (Nat.le_of_ble_eq_true rfl) dX6_within_99 ?_
              show W _ _ _ _ _ _ _ _ _ _ _ _ _ _ _ (F0 m 102 ls [.long (pDist (dt xc5).2 (mkC d xx yy zz ww))])
              refine lv_lstore (lv' := [(12, .long (pDist (dt xc5).2 (mkC d xx yy zz ww))), (11, .ref xc5), (10, .int (nI k)), (9, .int (nI 100)), (8, .ref lb), (7, .ref q1), (0, .ref x), (1, .long most), (3, .int xx), (4, .int yy), (5, .int zz), (6, .int ww)]) hx hb dX6_within_102 hl (by decide) rfl (fun ls hl => ?_)
              refine lv_lload hx hb dX6_within_104 (lv_at hl 0 rfl) ?_
              refine lv_lload_n hx hb dX6_within_106 rfl (lv_at hl 7 rfl) ?_
              refine W.lcmp hx hb dX6_within_107 ?_
              refine lv_if_gt (tgt := 125) hx hb dX6_within_108 (by decide) (fun c6 => ?_) (fun c6 => ?_)
              · have c6 : _ := (lg_cmp_gt _ _).mp c6
                refine lv_iinc (v := nI (k + 1)) (lv' := [(10, .int (nI (k + 1))), (12, .long (pDist (dt xc5).2 (mkC d xx yy zz ww))), (11, .ref xc5), (9, .int (nI 100)), (8, .ref lb), (7, .ref q1), (0, .ref x), (1, .long most), (3, .int xx), (4, .int yy), (5, .int zz), (6, .int ww)]) hx hb dX6_within_125 hl (k := 2) rfl (inc1 _) (by decide) rfl (fun ls hl => ?_)
                refine lv_goto (tgt := 73) hx hb dX6_within_128 (by decide) ?_
                exact ih (k + 1) F5 H locs ls (by omega) (by rw [wthL_succ]; unfold wthS; rw [hP9]; show lsR _ _ _ _ _ (if _ then _ else _) _; rw [if_neg (Int64.not_le.mpr c6)]; exact hL5) hf5 hW (lv_sub hl [0, 3, 4, 5, 6, 7, 8, 9, 10, 11] rfl)
              · have c6 : ¬ _ := fun z => c6 ((lg_cmp_gt _ _).mpr z)
                refine lv_aload_n hx hb dX6_within_111 rfl (lv_at hl 6 rfl) ?_
                refine g_get (C := RX6) (T := TX6) (N := 9) hx hb hts hi6 hown hN hW.1 (hK1 _ _ kx) rfl (by decide) 3 (by decide) hfX6_40 (v := .ref h) ((hx5 3).trans x3) dX6_within_112 ?_
                refine lv_aload hx hb dX6_within_115 (lv_at hl 1 rfl) ?_
                refine g_get (C := RX2) (T := TX2) (N := 9) hx hb hts hi2 hown hN hW.1 q.1 rfl (by decide) 0 (by decide) hfX6_158 (v := .int (nI (dt xc5).1)) q.2.2.1 dX6_within_117 ?_
                refine lv_lload hx hb dX6_within_120 (lv_at hl 0 rfl) ?_
                refine g_mV (As := [.int (nI (dt xc5).1), .long (pDist (dt xc5).2 (mkC d xx yy zz ww))]) (b := h) (rest := []) hx hb hml hown hts hN hW (by
                    have q9 := c_offer l Γ K5 F5 H.size h ai ad ((dt xc5).1, pDist (dt xc5).2 (mkC d xx yy zz ww)) (wthL (ndP nd dt) (mkC d xx yy zz ww) most 60 k) 60 hL5 q.2.2.2.2.2
                    exact q9) gX6_within_X1_offer rfl (hK1 _ _ kh) (by decide) rfl (na := 2) rfl (by decide +kernel) ⟨by decide, by decide⟩ ⟨Nat.le_of_ble_eq_true rfl, Nat.le_of_ble_eq_true rfl⟩ rfl hl.1 (Nat.le_of_ble_eq_true rfl) dX6_within_122 (fun v K' F7 H locs hp hW hsz' => ?_)
                obtain ⟨rfl, hK9, hL7, hf7⟩ := hp
                subst K'
                show W _ _ _ _ _ _ _ _ _ _ _ _ _ _ _ (F0 m 125 ls [])
                refine lv_iinc (v := nI (k + 1)) (lv' := [(10, .int (nI (k + 1))), (12, .long (pDist (dt xc5).2 (mkC d xx yy zz ww))), (11, .ref xc5), (9, .int (nI 100)), (8, .ref lb), (7, .ref q1), (0, .ref x), (1, .long most), (3, .int xx), (4, .int yy), (5, .int zz), (6, .int ww)]) hx hb dX6_within_125 hl (k := 2) rfl (inc1 _) (by decide) rfl (fun ls hl => ?_)
                refine lv_goto (tgt := 73) hx hb dX6_within_128 (by decide) ?_
                exact ih (k + 1) F7 H locs ls (by omega) (by rw [wthL_succ]; unfold wthS; rw [hP9]; show lsR _ _ _ _ _ (if _ then _ else _) _; rw [if_pos (Int64.not_lt.mp c6)]; rw [hid] at hL7; exact hL7) (fun b i b1 b2 b3 => (hf7 b i b1 b2 b3).trans (hf5 b i b1 b2 b3)) hW (lv_sub hl [0, 3, 4, 5, 6, 7, 8, 9, 10, 11] rfl)
      refine lv_aload_n hx hb dX6_within_59 rfl (lv_at hl 1 rfl) ?_
      refine g_get (C := RX6) (T := TX6) (N := 9) hx hb hts hi6 hown hN hW.1 (hK1 _ _ kx) rfl (by decide) 1 (by decide) hfX6_24 (v := .ref lb) ((F4e x 1 _ kx (kne kx kh (by decide))).trans x1) dX6_within_60 ?_
      refine lv_astore (lv' := [(8, .ref lb), (7, .ref q1), (0, .ref x), (1, .long most), (3, .int xx), (4, .int yy), (5, .int zz), (6, .int ww)]) hx hb dX6_within_63 hl (by decide) rfl (fun ls hl => ?_)
      refine lv_aload hx hb dX6_within_65 (lv_at hl 0 rfl) ?_
      refine g_alen (t := 3) hx hb hN hW.1 (hK1 _ _ klb) rfl dX6_within_67 ?_
      refine lv_istore (lv' := [(9, .int (nI 100)), (8, .ref lb), (7, .ref q1), (0, .ref x), (1, .long most), (3, .int xx), (4, .int yy), (5, .int zz), (6, .int ww)]) hx hb dX6_within_68 hl (by decide) rfl (fun ls hl => ?_)
      refine lv_iconst (v := nI 0) hx hb dX6_within_70 (by decide) ?_
      refine lv_istore (lv' := [(10, .int (nI 0)), (9, .int (nI 100)), (8, .ref lb), (7, .ref q1), (0, .ref x), (1, .long most), (3, .int xx), (4, .int yy), (5, .int zz), (6, .int ww)]) hx hb dX6_within_71 hl (by decide) rfl (fun ls hl => ?_)
      exact loop 100 0 F4 H locs ls (by omega) hL4 (fun _ _ _ _ _ => rfl) hW (lv_sub hl [0, 1, 2, 3, 4, 5, 6, 7, 8, 9] rfl)
    · have c3 : (okPl d xx yy zz ww) = false := bI_0.mp c3
      exact hthr nIAE "within: most or a number that counts is out of range" 59 152 63 20 _ _ ls (⟨rfl, fun z => by rw [c3] at z; cases z.2⟩) x_IAE (show (152, "within: most or a number that counts is out of range") ∈ gStr by decide +kernel) (by decide +kernel) (by decide +kernel) (fun w h => List.mem_cons_of_mem _ (List.mem_append_right _ h)) dX6_within_20 dX6_within_23 dX6_within_24 dX6_within_26 dX6_within_29 (by decide) (by decide) (by decide) hW hl.1
