theorem sqI_neg (x : Int32) (hx : x ≠ -2147483648) : sqI (-x) = sqI x := by
  unfold sqI
  have h : (-x).toInt64 = -x.toInt64 := by
    apply Int64.toInt_inj.mp
    rw [Int32.toInt_toInt64, Int64.toInt_neg, Int32.toInt_toInt64, Int32.toInt_neg]
    have h1 := x.toInt_lt
    have h2 := x.le_toInt
    have h3 : x.toInt ≠ -2147483648 := fun z => hx (Int32.toInt_inj.mp (z.trans (by decide)))
    rw [Int.bmod_eq_of_le (by omega) (by omega), Int.bmod_eq_of_le (by omega) (by omega)]
  rw [h]
  exact Int64.neg_mul_neg _ _
theorem lsR_up {K K' : gK} {F F' : gF} {h ai ad lim : Nat} {S : List (Nat × Int64)} (H : lsR K F h ai ad S lim) (hK : ∀ a k, K a = some k → K' a = some k) (hf : ∀ b i, b = h ∨ b = ai ∨ b = ad → F' b i = F b i) : lsR K' F' h ai ad S lim := by
  obtain ⟨a1, a2, a3, a4, a5, a6, a7, a8, a9, b1, b2, b3⟩ := H
  exact ⟨hK _ _ a1, hK _ _ a2, hK _ _ a3, (hf _ _ (Or.inl rfl)).trans a4, (hf _ _ (Or.inl rfl)).trans a5, (hf _ _ (Or.inl rfl)).trans a6, (hf _ _ (Or.inl rfl)).trans a7, a8.keep (fun j _ _ => hf _ _ (Or.inr (Or.inl rfl))), a9.keep (fun j _ _ => hf _ _ (Or.inr (Or.inr rfl))), b1, b2, b3⟩
theorem lsR_empty {K K' : gK} {F F' : gF} {h ai ad lim k : Nat} {S : List (Nat × Int64)} (H : lsR K F h ai ad S lim) (hK : ∀ a k, K a = some k → K' a = some k) (h0 : F' h 0 = F h 0) (h1 : F' h 1 = F h 1) (h2 : F' h 2 = .int (nI 0)) (h3 : F' h 3 = .int (nI k)) (hk : k ≤ 100) : lsR K' F' h ai ad [] k := by
  obtain ⟨a1, a2, a3, a4, a5, a6, a7, a8, a9, b1, b2, b3⟩ := H
  exact ⟨hK _ _ a1, hK _ _ a2, hK _ _ a3, h0.trans a4, h1.trans a5, h2, h3, rowL.nil, rowL.nil, Nat.zero_le _, hk, fun x hx => by cases hx⟩
theorem ndD_up {K K' : gK} {F F' : gF} {a p : Nat} {y : gPt} (H : ndD K F a p y) (hK : ∀ a k, K a = some k → K' a = some k) (hf : ∀ b j, (K b = some (2, 0) ∧ j < 2) ∨ K b = some (3, 0) → F' b j = F b j) : ndD K' F' a p y := by
  obtain ⟨a1, a2, a3, a4, a5, a6⟩ := H
  exact ⟨hK _ _ a1, hK _ _ a2, (hf a 0 (Or.inl ⟨a1, by decide⟩)).trans a3, (hf a 1 (Or.inl ⟨a1, by decide⟩)).trans a4, fun i hi => (hf p i (Or.inr a2)).trans (a5 i hi), a6⟩
theorem NDs_up {K K' : gK} {F F' : gF} {dt : Nat → gPt} {pl : Nat → Nat} {dd : Nat → Bool} {L : List Nat} (H : NDs K F dt pl dd L) (hK : ∀ a k, K a = some k → K' a = some k) (hf : ∀ b j, (K b = some (2, 0) ∧ j < 3) ∨ K b = some (3, 0) → F' b j = F b j) : NDs K' F' dt pl dd L := fun a ha => ⟨ndD_up (H a ha).1 hK (fun b j q => hf b j (q.imp (fun z => ⟨z.1, by omega⟩) (fun z => z))), (hf a 2 (Or.inl ⟨(H a ha).1.1, by decide⟩)).trans (H a ha).2⟩
theorem NT_up {K K' : gK} {F F' : gF} {x lb T row h ai ad J pts lens d : Nat} {tc : TT Nat} {nd : Nat → Option Nat} {dt : Nat → gPt} {pl : Nat → Nat} {dd : Nat → Bool} {S : List (Nat × Int64)} {lim lk bc bg bp : Nat} {S' : List (Nat × Int64)} {lim' lk' : Nat} (hNT : NT K F x lb T row h ai ad J pts lens d tc nd dt pl dd S lim lk bc bg bp) (hK : ∀ a k, K a = some k → K' a = some k)
    (hf : ∀ b k i, K b = some k → b ≠ h → b ≠ ai → b ≠ ad → ¬ (b = x ∧ i = 6) → F' b i = F b i) (hx6 : F' x 6 = .int (nI lk')) (hL : lsR K' F' h ai ad S' lim') : NT K' F' x lb T row h ai ad J pts lens d tc nd dt pl dd S' lim' lk' bc bg bp := by
  obtain ⟨⟨kx, klb, kT, krow, kh, kai, kad, kJ, kpts, klens, krp⟩, hd, ⟨x0, x1, x2, x3, x4, x5, x6, x7, x8⟩, ⟨t0, t1, t2, t3, hC⟩, ⟨j0, j1, st, s1, s2, s3⟩, hrN, hLS, hND, hp9⟩ := hNT
  have fx : ∀ i, i ≠ 6 → F' x i = F x i := fun i hi => hf x _ i kx (kne kx kh (by decide)) (kne kx kai (by decide)) (kne kx kad (by decide)) (fun z => hi z.2)
  have fT : ∀ i, F' T i = F T i := fun i => hf T _ i kT (kne kT kh (by decide)) (kne kT kai (by decide)) (kne kT kad (by decide)) (fun z => kne kT kx (by decide) z.1)
  have fJ : ∀ i, F' J i = F J i := fun i => hf J _ i kJ (kne kJ kh (by decide)) (kne kJ kai (by decide)) (kne kJ kad (by decide)) (fun z => kne kJ kx (by decide) z.1)
  have fl : ∀ i, F' lb i = F lb i := fun i => hf lb _ i klb (kne klb kh (by decide)) (kne klb kai (by decide)) (kne klb kad (by decide)) (fun z => kne klb kx (by decide) z.1)
  have f2 : ∀ b i, K b = some (2, 0) → F' b i = F b i := fun b i q => hf b _ i q (kne q kh (by decide)) (kne q kai (by decide)) (kne q kad (by decide)) (fun z => kne q kx (by decide) z.1)
  have f3 : ∀ b i, K b = some (3, 0) → F' b i = F b i := fun b i q => hf b _ i q (kne q kh (by decide)) (kne q kai (by decide)) (kne q kad (by decide)) (fun z => kne q kx (by decide) z.1)
  exact ⟨⟨hK _ _ kx, hK _ _ klb, hK _ _ kT, hK _ _ krow, hK _ _ kh, hK _ _ kai, hK _ _ kad, hK _ _ kJ, hK _ _ kpts, hK _ _ klens, krp⟩, hd, ⟨(fx 0 (by decide)).trans x0, (fx 1 (by decide)).trans x1, (fx 2 (by decide)).trans x2, (fx 3 (by decide)).trans x3, (fx 4 (by decide)).trans x4, (fx 5 (by decide)).trans x5, hx6, (fx 7 (by decide)).trans x7, (fx 8 (by decide)).trans x8⟩, ⟨(fT 0).trans t0, (fT 1).trans t1, (fT 2).trans t2, (fT 3).trans t3, CT_congr (fun a ha k _ => f2 a k (hND a ha).1.1) hC⟩, ⟨(fJ 0).trans j0, (fJ 1).trans j1, st, (fJ 3).trans s1, (fJ 4).trans s2, (fJ 5).trans s3⟩, fun i hi => (fl i).trans (hrN i hi), hL, NDs_up hND hK (fun b j q => q.elim (fun z => f2 b j z.1) (fun z => f3 b j z)), hp9⟩
theorem kup2 {K : gK} {q1 q2 : Nat} {k1 k2 : Nat × Nat} (h1 : K q1 = none) (h2 : va_up K q1 (some k1) q2 = none) : ∀ a k, K a = some k → va_up (va_up K q1 (some k1)) q2 (some k2) a = some k := fun _ _ h => kup h2 (kup h1 h)

set_option maxHeartbeats 4000000 in
set_option maxRecDepth 100000 in
theorem c_nearest (l : Launch) (hfl : l.stackTraces = false) (Γ : gG) (K : gK) (F : gF) (sz : Nat) (x lb T row h ai ad J pts lens d : Nat) (tc : TT Nat) (nd : Nat → Option Nat) (dt : Nat → gPt) (pl : Nat → Nat) (dd : Nat → Bool) (S : List (Nat × Int64)) (lim lk bc bg bp : Nat) (hNT : NT K F x lb T row h ai ad J pts lens d tc nd dt pl dd S lim lk bc bg bp) (k9 xx yy zz ww : Int32) : gMX l yX6_nearest wsX6_nearest 130 2 7 Γ K F sz [.ref x, .int k9, .int xx, .int yy, .int zz, .int ww] (fun v K' F' => ∃ k, k ≤ 100 ∧ k9 = nI k ∧ okPl d xx yy zz ww = true ∧ NT K' F' x lb T row h ai ad J pts lens d tc nd dt pl dd (srchG (fun a => (dt a, dd a)) k d (mkC d xx yy zz ww) tc 0 ([], 0)).1 k (srchG (fun a => (dt a, dd a)) k d (mkC d xx yy zz ww) tc 0 ([], 0)).2 bc bg bp ∧ v = some (.int (nI (srchG (fun a => (dt a, dd a)) k d (mkC d xx yy zz ww) tc 0 ([], 0)).1.length))) (fun E => E = nIAE ∧ ¬ (¬ k9 < 0 ∧ k9 ≤ nI 100 ∧ okPl d xx yy zz ww = true)) := by
  refine g_mX (cc := cX6_nearest) (maxL := 7) (ret := (some .int)) hfl rfl (by decide) rfl (Nat.le_of_ble_eq_true rfl) ?_
  intro p e s m args below meth c ls Z hsz hx hb hts hown hml hN hW hret hthr hl
  have hl : lv_has ls 7 [(0, .ref x), (1, .int k9), (2, .int xx), (3, .int yy), (4, .int zz), (5, .int ww)] := hl
  have hown : s.vm.findClass RX6 = some m.cls := hown
  have hi1 : ∀ w ∈ wsX10, w ∈ wsX6_nearest := by decide +kernel
  have hi3 : ∀ w ∈ wsX30, w ∈ wsX6_nearest := by decide +kernel
  have hi4 : ∀ w ∈ wsX40, w ∈ wsX6_nearest := by decide +kernel
  have hi5 : ∀ w ∈ wsX50, w ∈ wsX6_nearest := by decide +kernel
  have hi6 : ∀ w ∈ wsX60, w ∈ wsX6_nearest := by decide +kernel
  have hfX6_18 : Cond.fieldLink RX6 18 (TX6 0).1 (TX6 0).2.1 (TX6 0).2.2.1 ∈ wsX6_nearest := by decide +kernel
  have hfX6_33 : Cond.fieldLink RX6 33 (TX6 2).1 (TX6 2).2.1 (TX6 2).2.2.1 ∈ wsX6_nearest := by decide +kernel
  have hfX6_40 : Cond.fieldLink RX6 40 (TX6 3).1 (TX6 3).2.1 (TX6 3).2.2.1 ∈ wsX6_nearest := by decide +kernel
  have hfX6_114 : Cond.fieldLink RX6 114 (TX5 2).1 (TX5 2).2.1 (TX5 2).2.2.1 ∈ wsX6_nearest := by decide +kernel
  have hfX6_143 : Cond.fieldLink RX6 143 (TX4 2).1 (TX4 2).2.1 (TX4 2).2.2.1 ∈ wsX6_nearest := by decide +kernel
  have hfX6_146 : Cond.fieldLink RX6 146 (TX6 6).1 (TX6 6).2.1 (TX6 6).2.2.1 ∈ wsX6_nearest := by decide +kernel
  have hfX6_149 : Cond.fieldLink RX6 149 (TX1 2).1 (TX1 2).2.1 (TX1 2).2.2.1 ∈ wsX6_nearest := by decide +kernel
  obtain ⟨⟨kx, klb, kT, krow, kh, kai, kad, kJ, kpts, klens, krp⟩, ⟨hd1, hd4⟩, ⟨x0, x1, x2, x3, x4, x5, x6, x7, x8⟩, ⟨t0, t1, t2, t3, hC⟩, ⟨j0, j1, stJ, hstJ⟩, hrN, hLS, hND, ⟨p1, p2, p3, p4, p5, p6, p7⟩⟩ := id hNT
  have hlive : ∀ i a, i < 100 → nd i = some a → ndD K F a (pl a) (dt a) ∧ F a 2 = .int (bI (dd a)) := fun i a hi ha => hND a (p2 i a hi ha).1
  refine lv_iload_n hx hb dX6_nearest_0 rfl (lv_at hl 1 rfl) ?_
  refine lv_if_lt (tgt := 23) hx hb dX6_nearest_1 (by decide) (fun c1 => ?_) (fun c1 => ?_)
  · exact hthr nIAE "nearest: k or a number that counts is out of range" 59 130 63 23 _ _ ls (⟨rfl, fun z => z.1 c1⟩) x_IAE (show (130, "nearest: k or a number that counts is out of range") ∈ gStr by decide +kernel) (by decide +kernel) (by decide +kernel) (fun w h => List.mem_cons_of_mem _ (List.mem_append_right _ h)) dX6_nearest_23 dX6_nearest_26 dX6_nearest_27 dX6_nearest_29 dX6_nearest_32 (by decide) (by decide) (by decide) hW hl.1
  · refine lv_iload_n hx hb dX6_nearest_4 rfl (lv_at hl 1 rfl) ?_
    refine lv_bipush (v := nI 100) hx hb dX6_nearest_5 (by decide) ?_
    refine lv_icmp_gt (tgt := 23) hx hb dX6_nearest_7 (by decide) (fun c2 => ?_) (fun c2 => ?_)
    · exact hthr nIAE "nearest: k or a number that counts is out of range" 59 130 63 23 _ _ ls (⟨rfl, fun z => Int32.not_le.mpr c2 z.2.1⟩) x_IAE (show (130, "nearest: k or a number that counts is out of range") ∈ gStr by decide +kernel) (by decide +kernel) (by decide +kernel) (fun w h => List.mem_cons_of_mem _ (List.mem_append_right _ h)) dX6_nearest_23 dX6_nearest_26 dX6_nearest_27 dX6_nearest_29 dX6_nearest_32 (by decide) (by decide) (by decide) hW hl.1
    · refine lv_aload_n hx hb dX6_nearest_10 rfl (lv_at hl 0 rfl) ?_
      refine lv_iload_n hx hb dX6_nearest_11 rfl (lv_at hl 2 rfl) ?_
      refine lv_iload_n hx hb dX6_nearest_12 rfl (lv_at hl 3 rfl) ?_
      refine lv_iload hx hb dX6_nearest_13 (lv_at hl 4 rfl) ?_
      refine lv_iload hx hb dX6_nearest_15 (lv_at hl 5 rfl) ?_
      refine g_cV (v := (some (.int (bI (okPl d xx yy zz ww))))) (As := [.int xx, .int yy, .int zz, .int ww]) (b := x) (rest := []) hx hb hml hown hts hN hW.1 (c_isPlace l Γ K F x d xx yy zz ww kx x0 hd4) gX6_nearest_X6_isPlace rfl kx (by decide) rfl (na := 4) rfl (by decide +kernel) ⟨by decide, by decide⟩ ⟨Nat.zero_le _, Nat.zero_le _⟩ rfl hl.1 (Nat.le_of_ble_eq_true rfl) dX6_nearest_17 ?_
      show W _ _ _ _ _ _ _ _ _ _ _ _ _ _ _ (F0 m 20 ls [.int (bI (okPl d xx yy zz ww))])
      refine lv_if_ne (tgt := 33) hx hb dX6_nearest_20 (by decide) (fun c3 => ?_) (fun c3 => ?_)
      · have c3 : (okPl d xx yy zz ww) = true := bI_n0.mp c3
        obtain ⟨k, hk, rfl⟩ : ∃ k : Nat, k ≤ 100 ∧ k9 = nI k := by
          obtain ⟨k, hk, e⟩ := nI_of c1
          have c2 := Int32.not_lt.mp c2
          rw [e] at c2
          exact ⟨k, (nI_leI hk (by decide)).mp c2, e⟩
        have hszt : tSz tc ≤ 120 := by omega
        refine lv_aload_n hx hb dX6_nearest_33 rfl (lv_at hl 0 rfl) ?_
        refine g_get (C := RX6) (T := TX6) (N := 9) hx hb hts hi6 hown hN hW.1 kx rfl (by decide) 3 (by decide) hfX6_40 (v := .ref h) x3 dX6_nearest_34 ?_
        refine lv_iload_n hx hb dX6_nearest_37 rfl (lv_at hl 1 rfl) ?_
        refine g_mV (As := [.int (nI k)]) (b := h) (rest := []) hx hb hml hown hts hN hW (c_empty l Γ K F s.heap.size h ai k kh kai hLS.2.2.2.1 hk) gX6_nearest_X1_empty rfl kh (by decide) rfl (na := 1) rfl (by decide +kernel) ⟨by decide, by decide⟩ ⟨Nat.le_of_ble_eq_true rfl, Nat.le_of_ble_eq_true rfl⟩ rfl hl.1 (Nat.le_of_ble_eq_true rfl) dX6_nearest_38 (fun v K' F1 H locs hp hW hsz' => ?_)
        obtain ⟨rfl, hK9, hF1⟩ := hp
        subst K'
        show W _ _ _ _ _ _ _ _ _ _ _ _ _ _ _ (F0 m 41 ls [])
        have f1 : ∀ b i, b ≠ h → F1 b i = F b i := fun b i hb => by rw [hF1, gU_a hb, gU_a hb]
        have fh : F1 h 0 = F h 0 ∧ F1 h 1 = F h 1 ∧ F1 h 2 = .int (nI 0) ∧ F1 h 3 = .int (nI k) := by
          rw [hF1]
          exact ⟨by rw [gU_k (by decide), gU_k (by decide)], by rw [gU_k (by decide), gU_k (by decide)], by rw [gU_k (by decide)]; exact gU_self, gU_self⟩
        have hNT1 : NT K F1 x lb T row h ai ad J pts lens d tc nd dt pl dd [] k lk bc bg bp := NT_up hNT (fun _ _ z => z) (fun b _ i _ h1 _ _ _ => f1 b i h1) ((f1 x 6 (kne kx kh (by decide))).trans x6) (lsR_empty hLS (fun _ _ z => z) fh.1 fh.2.1 fh.2.2.1 fh.2.2.2 hk)
        refine g_new (C := RX4) (T := TX4) (N := 3) (ci := 4) hx hb hts hi4 tyX4 tyX4_ok hown (show Cond.classLink RX6 135 RX4 ∈ _ by decide +kernel) (by decide +kernel) (by decide +kernel) hN hW rfl (by decide) (Nat.le_of_ble_eq_true rfl) (Nat.le_of_ble_eq_true rfl) dX6_nearest_41 (fun q1 H hqe_q1 hq_q1 hW => ?_)
        refine lv_dup hx hb dX6_nearest_44 rfl ?_
        refine g_new (C := RX3) (T := TX3) (N := 4) (ci := 3) hx hb hts hi3 tyX3 tyX3_ok hown (show Cond.classLink RX6 74 RX3 ∈ _ by decide +kernel) (by decide +kernel) (by decide +kernel) hN hW rfl (by decide) (Nat.le_of_ble_eq_true rfl) (Nat.le_of_ble_eq_true rfl) dX6_nearest_45 (fun q2 H hqe_q2 hq_q2 hW => ?_)
        have hq12 : q1 ≠ q2 := fun e => by rw [← e, va_up_self] at hq_q2; cases hq_q2
        have hK2 := kup2 (k2 := (3, 0)) hq_q1 hq_q2
        have kq1 : (va_up (va_up K q1 (some (4, 0))) q2 (some (3, 0))) q1 = some (4, 0) := kup hq_q2 (va_up_self _ _ _)
        have kq2 : (va_up (va_up K q1 (some (4, 0))) q2 (some (3, 0))) q2 = some (3, 0) := va_up_self _ _ _
        have F2e : ∀ b i k, K b = some k → (va_up (va_up F1 q1 (fun j => defaultValue (tyX4 j))) q2 (fun j => defaultValue (tyX3 j))) b i = F1 b i := fun b i k hb => by rw [fup' hq_q2 (kup hq_q1 hb), fup' hq_q1 hb]
        have hx2 : ∀ i, i ≠ 6 → (va_up (va_up F1 q1 (fun j => defaultValue (tyX4 j))) q2 (fun j => defaultValue (tyX3 j))) x i = F x i := fun i _ => (F2e x i _ kx).trans (f1 x i (kne kx kh (by decide)))
        refine lv_dup hx hb dX6_nearest_48 rfl ?_
        refine lv_aload_n hx hb dX6_nearest_49 rfl (lv_at hl 0 rfl) ?_
        refine g_get (C := RX6) (T := TX6) (N := 9) hx hb hts hi6 hown hN hW.1 (hK2 _ _ kx) rfl (by decide) 0 (by decide) hfX6_18 (v := .int (nI d)) ((hx2 0 (by decide)).trans x0) dX6_nearest_50 ?_
        refine lv_iload_n hx hb dX6_nearest_53 rfl (lv_at hl 2 rfl) ?_
        refine lv_iload_n hx hb dX6_nearest_54 rfl (lv_at hl 3 rfl) ?_
        refine lv_iload hx hb dX6_nearest_55 (lv_at hl 4 rfl) ?_
        refine lv_iload hx hb dX6_nearest_57 (lv_at hl 5 rfl) ?_
        refine g_mI (As := [.int (nI d), .int xx, .int yy, .int zz, .int ww]) (b := q2) (rest := [.ref q2, .ref q1, .ref q1]) hx hb hml hown hts hN hW (c_Place l Γ _ _ H.size q2 d xx yy zz ww kq2 hd4) gX6_nearest_X3_init rfl (by decide +kernel) (by decide +kernel) (by decide +kernel) rfl (na := 5) rfl (by decide +kernel) ⟨by decide, by decide⟩ ⟨Nat.le_of_ble_eq_true rfl, Nat.le_of_ble_eq_true rfl⟩ rfl hl.1 (Nat.le_of_ble_eq_true rfl) dX6_nearest_59 (fun v K' F3 H locs hp hW hsz' => ?_)
        obtain ⟨rfl, hK9, hpl, hfr3⟩ := hp
        subst K'
        show W _ _ _ _ _ _ _ _ _ _ _ _ _ _ _ (F0 m 62 ls [.ref q2, .ref q1, .ref q1])
        have hx3 : ∀ i, i ≠ 6 → F3 x i = F x i := fun i hi => (hfr3 x i (kne (hK2 _ _ kx) kq2 (by decide))).trans (hx2 i hi)
        refine lv_aload_n hx hb dX6_nearest_62 rfl (lv_at hl 0 rfl) ?_
        refine g_get (C := RX6) (T := TX6) (N := 9) hx hb hts hi6 hown hN hW.1 (hK2 _ _ kx) rfl (by decide) 3 (by decide) hfX6_40 (v := .ref h) ((hx3 3 (by decide)).trans x3) dX6_nearest_63 ?_
        refine g_mI (As := [.ref q2, .ref h]) (b := q1) (rest := [.ref q1]) hx hb hml hown hts hN hW (c_Search l Γ _ F3 H.size q1 q2 h kq1) gX6_nearest_X4_init rfl (by decide +kernel) (by decide +kernel) (by decide +kernel) rfl (na := 2) rfl (by decide +kernel) ⟨by decide, by decide⟩ ⟨Nat.le_of_ble_eq_true rfl, Nat.le_of_ble_eq_true rfl⟩ rfl hl.1 (Nat.le_of_ble_eq_true rfl) dX6_nearest_66 (fun v K' F4 H locs hp hW hsz' => ?_)
        obtain ⟨rfl, hK9, hF4⟩ := hp
        subst K'
        show W _ _ _ _ _ _ _ _ _ _ _ _ _ _ _ (F0 m 69 ls [.ref q1])
        have f4 : ∀ b i, b ≠ q1 → F4 b i = F3 b i := fun b i hb => by rw [hF4, gU_a hb, gU_a hb]
        have f40 : F4 q1 0 = .ref q2 ∧ F4 q1 1 = .ref h := by rw [hF4]; exact ⟨by rw [gU_k (by decide)]; exact gU_self, gU_self⟩
        have F4e : ∀ b i k, K b = some k → F4 b i = F1 b i := fun b i k hb => by
          rw [f4 b i (fun e => by rw [e, hq_q1] at hb; cases hb), hfr3 b i (fun e => by rw [e] at hb; rw [kup (k' := (4, 0)) hq_q1 hb] at hq_q2; cases hq_q2)]
          exact F2e b i k hb
        have hNT4 : NT (va_up (va_up K q1 (some (4, 0))) q2 (some (3, 0))) F4 x lb T row h ai ad J pts lens d tc nd dt pl dd [] k lk bc bg bp := NT_up hNT1 hK2 (fun b k i hb _ _ _ _ => F4e b i k hb) ((F4e x 6 _ kx).trans ((f1 x 6 (kne kx kh (by decide))).trans x6)) (lsR_up hNT1.2.2.2.2.2.2.1 hK2 (fun b i hb => by
          rcases hb with rfl | rfl | rfl
          · exact F4e _ i _ kh
          · exact F4e _ i _ kai
          · exact F4e _ i _ kad))
        have hx4 : ∀ i, i ≠ 6 → F4 x i = F x i := fun i hi => (F4e x i _ kx).trans (f1 x i (kne kx kh (by decide)))
        refine lv_astore (lv' := [(6, .ref q1), (0, .ref x), (1, .int (nI k)), (2, .int xx), (3, .int yy), (4, .int zz), (5, .int ww)]) hx hb dX6_nearest_69 hl (by decide) rfl (fun ls hl => ?_)
        refine lv_aload hx hb dX6_nearest_71 (lv_at hl 0 rfl) ?_
        refine lv_aload_n hx hb dX6_nearest_73 rfl (lv_at hl 1 rfl) ?_
        refine g_get (C := RX6) (T := TX6) (N := 9) hx hb hts hi6 hown hN hW.1 (hK2 _ _ kx) rfl (by decide) 2 (by decide) hfX6_33 (v := .ref T) ((hx4 2 (by decide)).trans x2) dX6_nearest_74 ?_
        refine g_get (C := RX5) (T := TX5) (N := 4) hx hb hts hi5 hown hN hW.1 (hK2 _ _ kT) rfl (by decide) 2 (by decide) hfX6_114 (v := va_rf (tRt tc)) hNT4.2.2.2.1.2.2.1 dX6_nearest_77 ?_
        refine g_mV (As := [va_rf (tRt tc)]) (b := q1) (rest := []) hx hb hml hown hts hN hW (c_start l Γ _ F4 H.size q1 h ai ad q2 (mkC d xx yy zz ww) k d dt pl dd kq1 (hK2 _ _ kh) (hK2 _ _ kai) (hK2 _ _ kad) kq2 hd1 hd4 tc [] (tRt tc) rfl ⟨f40.1, f40.2, fun i hi => (f4 q2 i (fun e => hq12 e.symm)).trans (hpl i hi), hNT4.2.2.2.2.2.2.2.1, hNT4.2.2.2.1.2.2.2.2⟩ hNT4.2.2.2.2.2.2.1 hszt) gX6_nearest_X4_start rfl kq1 (by decide) rfl (na := 1) rfl (by decide +kernel) ⟨by show _ ≤ 130; omega, by show _ ≤ 40 * 130; omega⟩ ⟨Nat.le_of_ble_eq_true rfl, Nat.le_of_ble_eq_true rfl⟩ rfl hl.1 (Nat.le_of_ble_eq_true rfl) dX6_nearest_80 (fun v K' F5 H locs hp hW hsz' => ?_)
        obtain ⟨rfl, hK9, hL5, hn5, hf5⟩ := hp
        subst K'
        show W _ _ _ _ _ _ _ _ _ _ _ _ _ _ _ (F0 m 83 ls [])
        generalize hR9 : srchG (fun a => (dt a, dd a)) k d (mkC d xx yy zz ww) tc 0 ([], 0) = R9 at hL5 hn5
        have hx5 : ∀ i, F5 x i = F4 x i := fun i => hf5 x i (kne kx kh (by decide)) (kne kx kai (by decide)) (kne kx kad (by decide)) (fun z => by have z := z.1; rw [z, hq_q1] at kx; cases kx)
        refine lv_aload_n hx hb dX6_nearest_83 rfl (lv_at hl 1 rfl) ?_
        refine lv_aload hx hb dX6_nearest_84 (lv_at hl 0 rfl) ?_
        refine g_get (C := RX4) (T := TX4) (N := 3) hx hb hts hi4 hown hN hW.1 kq1 rfl (by decide) 2 (by decide) hfX6_143 (v := .int (nI R9.2)) hn5 dX6_nearest_86 ?_
        refine g_put (C := RX6) (T := TX6) (N := 9) hx hb hts hi6 tyX6 tyX6_ok nmX6 hown hN hW (hK2 _ _ kx) rfl (by decide) 6 (by decide) hfX6_146 rfl rfl rfl dX6_nearest_89 (fun H locs hW => ?_)
        have kxh := kne kx kh (by decide)
        have hL6 : lsR (va_up (va_up K q1 (some (4, 0))) q2 (some (3, 0))) (gU F5 x 6 (.int (nI R9.2))) h ai ad R9.1 k := lsR_up hL5 (fun _ _ z => z) (fun b i hb => gU_a (by
          rcases hb with rfl | rfl | rfl
          · exact kne kh kx (by decide)
          · exact kne kai kx (by decide)
          · exact kne kad kx (by decide)))
        have hNT6 : NT (va_up (va_up K q1 (some (4, 0))) q2 (some (3, 0))) (gU F5 x 6 (.int (nI R9.2))) x lb T row h ai ad J pts lens d tc nd dt pl dd R9.1 k R9.2 bc bg bp := NT_up hNT1 hK2 (fun b k i hb h1 h2 h3 h4 => (gU_ne h4).trans ((hf5 b i h1 h2 h3 (fun z => by rw [z.1, hq_q1] at hb; cases hb)).trans (F4e b i k hb))) gU_self hL6
        refine lv_aload_n hx hb dX6_nearest_92 rfl (lv_at hl 1 rfl) ?_
        refine g_get (C := RX6) (T := TX6) (N := 9) hx hb hts hi6 hown hN hW.1 (hK2 _ _ kx) rfl (by decide) 3 (by decide) hfX6_40 (v := .ref h) ((gU_k (by decide)).trans ((hx5 3).trans ((hx4 3 (by decide)).trans x3))) dX6_nearest_93 ?_
        refine g_get (C := RX1) (T := TX1) (N := 4) hx hb hts hi1 hown hN hW.1 (hK2 _ _ kh) rfl (by decide) 2 (by decide) hfX6_149 (v := .int (nI R9.1.length)) hL6.2.2.2.2.2.1 dX6_nearest_96 ?_
        exact hret (some (.int (nI R9.1.length))) _ _ _ _ _ _ _ _ (Nat.le_of_ble_eq_true rfl) (Nat.le_of_ble_eq_true rfl) hW (⟨k, hk, rfl, c3, by rw [hR9]; exact hNT6, by rw [hR9]⟩) (rt_i dX6_nearest_99)
      · have c3 : (okPl d xx yy zz ww) = false := bI_0.mp c3
        exact hthr nIAE "nearest: k or a number that counts is out of range" 59 130 63 23 _ _ ls (⟨rfl, fun z => by rw [c3] at z; cases z.2.2⟩) x_IAE (show (130, "nearest: k or a number that counts is out of range") ∈ gStr by decide +kernel) (by decide +kernel) (by decide +kernel) (fun w h => List.mem_cons_of_mem _ (List.mem_append_right _ h)) dX6_nearest_23 dX6_nearest_26 dX6_nearest_27 dX6_nearest_29 dX6_nearest_32 (by decide) (by decide) (by decide) hW hl.1
