theorem srchG_map {α β : Type} (f : α → β) (lb : β → gPt × Bool) (k d : Nat) (q : Nat → Int32) (t : TT α) : ∀ dep st, srchG lb k d q (tMap f t) dep st = srchG (fun a => lb (f a)) k d q t dep st := by
  induction t with
  | leaf => intro dep st; rfl
  | inner s a v l r ihl ihr =>
    intro dep st
    simp only [tMap, srchG, ihl, ihr]
theorem srchG_b {α : Type} (lb : α → gPt × Bool) (k d : Nat) (q : Nat → Int32) (s : Nat) (a : α) (v : Unit) (l r : TT α) (dep : Nat) (st : List (Nat × Int64) × Nat) (b9 : Bool) (h : b9 = decide (q (dep % d) - (lb a).1.2 (dep % d) < 0)) : srchG lb k d q (.inner s a v l r) dep st =
    if shut k (srchG lb k d q (if b9 then l else r) (dep + 1) (if (lb a).2 then st.1 else offL k ((lb a).1.1, pDist q (lb a).1.2) st.1, st.2 + 1)).1 (sqI (q (dep % d) - (lb a).1.2 (dep % d))) then srchG lb k d q (if b9 then l else r) (dep + 1) (if (lb a).2 then st.1 else offL k ((lb a).1.1, pDist q (lb a).1.2) st.1, st.2 + 1)
    else srchG lb k d q (if b9 then r else l) (dep + 1) (srchG lb k d q (if b9 then l else r) (dep + 1) (if (lb a).2 then st.1 else offL k ((lb a).1.1, pDist q (lb a).1.2) st.1, st.2 + 1)) := by
  cases b9 with
  | true => have h := of_decide_eq_true h.symm; rw [srchG, if_pos h]; rfl
  | false => have h := of_decide_eq_false h.symm; rw [srchG, if_neg h]; rfl
theorem below_gap {a b : Int32} (ha : okNum a = true) (hb : okNum b = true) : decide (a - b < 0) = decide (a < b) := by
  obtain ⟨h, _⟩ := okNum_sub ha hb
  rw [decide_eq_decide, Int32.lt_iff_toInt_lt, Int32.lt_iff_toInt_lt, h, show (0 : Int32).toInt = 0 from by decide]
  omega
theorem srchG_leaf {α : Type} (lb : α → gPt × Bool) (k d : Nat) (q : Nat → Int32) (t : TT α) (h : tRt t = none) (dep : Nat) (st : List (Nat × Int64) × Nat) : srchG lb k d q t dep st = st := by
  cases t with
  | leaf => rfl
  | inner s a v l r => cases h
theorem rtI_rt {t : TT mLb} (h : rtI t = none) : tRt t = none := by
  cases t with
  | leaf => rfl
  | inner s a v l r => cases h
theorem RSl.last {F : gF} {m9 : Nat} {B : Nat → Nat} {S : List (Nat × Int64)} (h : RSl F m9 B S) (h0 : 0 < S.length) : F (B 26) (S.length - 1) = .long (lastD S) := by
  obtain ⟨P, z, rfl, hn⟩ := snoc_of (show S.length = (S.length - 1) + 1 by omega)
  have h5 := h.2.2
  rw [List.map_append] at h5
  have := rowL.last (v := vDi z) h5
  rw [List.length_map, Nat.zero_add] at this
  rw [List.length_append, List.length_singleton, Nat.add_sub_cancel, this]
  simp [vDi, lastD]

set_option maxHeartbeats 4000000 in
set_option maxRecDepth 100000 in
theorem m_nearest (l : Launch) (Γ : gG) (K : gK) (F : gF) (sz : Nat) (m9 : Nat) (B : Nat → Nat) (hk : MKk K m9 B) (d : Nat) (P : Nat → Option (Nat → Int32)) (t : TT gLb) (S : List (Nat × Int64)) (lk bc bg bp : Nat) (hR : RS F m9 B d P t S lk bc bg bp) (hd0 : 0 < d) (hd4 : d ≤ 4) (hAS : AS P t) (k9 xx yy zz ww : Int32) : gMM l yX7_nearest wsX7_nearest 2 0 0 Γ K F sz [.ref m9, .int k9, .int xx, .int yy, .int zz, .int ww] (fun v K' F' => ∃ th r, v = some (.int r) ∧ K' = K ∧ F' m9 0 = .int (nI th) ∧ thR th ((¬ k9 < 0 ∧ k9 < nI 101) ∧ okPl d xx yy zz ww = true) True ∧ (th ≠ 0 → RS F' m9 B d P t S lk bc bg bp) ∧ (th = 0 → ∀ kq, kq ≤ 100 → k9 = nI kq → r = nI (srchG (fun y : gLb => y) kq d (mkC d xx yy zz ww) t 0 ([], 0)).1.length ∧ RS F' m9 B d P t (srchG (fun y : gLb => y) kq d (mkC d xx yy zz ww) t 0 ([], 0)).1 (srchG (fun y : gLb => y) kq d (mkC d xx yy zz ww) t 0 ([], 0)).2 bc bg bp)) := by
  refine g_mM (cc := cX7_nearest) (maxL := 14) (ret := (some .int)) (by decide) rfl (Nat.le_of_ble_eq_true rfl) ?_
  intro p e s m args below meth c ls Z hsz hx hb hts hown hml hnm hN hW hret hl
  have hl : lv_has ls 14 [(0, .ref m9), (1, .int k9), (2, .int xx), (3, .int yy), (4, .int zz), (5, .int ww)] := hl
  have hown : s.vm.findClass RX7 = some m.cls := hown
  have hi7 : ∀ w ∈ wsX70, w ∈ wsX7_nearest := by decide +kernel
  have hfX7_1 : Cond.fieldLink RX7 1 (TX7 0).1 (TX7 0).2.1 (TX7 0).2.2.1 ∈ wsX7_nearest := by decide +kernel
  have hfX7_27 : Cond.fieldLink RX7 27 (TX7 7).1 (TX7 7).2.1 (TX7 7).2.2.1 ∈ wsX7_nearest := by decide +kernel
  have hfX7_30 : Cond.fieldLink RX7 30 (TX7 8).1 (TX7 8).2.1 (TX7 8).2.2.1 ∈ wsX7_nearest := by decide +kernel
  have hfX7_33 : Cond.fieldLink RX7 33 (TX7 9).1 (TX7 9).2.1 (TX7 9).2.2.1 ∈ wsX7_nearest := by decide +kernel
  have hfX7_36 : Cond.fieldLink RX7 36 (TX7 10).1 (TX7 10).2.1 (TX7 10).2.2.1 ∈ wsX7_nearest := by decide +kernel
  have hfX7_39 : Cond.fieldLink RX7 39 (TX7 11).1 (TX7 11).2.1 (TX7 11).2.2.1 ∈ wsX7_nearest := by decide +kernel
  have hfX7_45 : Cond.fieldLink RX7 45 (TX7 13).1 (TX7 13).2.1 (TX7 13).2.2.1 ∈ wsX7_nearest := by decide +kernel
  have hfX7_51 : Cond.fieldLink RX7 51 (TX7 18).1 (TX7 18).2.1 (TX7 18).2.2.1 ∈ wsX7_nearest := by decide +kernel
  have hfX7_69 : Cond.fieldLink RX7 69 (TX7 24).1 (TX7 24).2.1 (TX7 24).2.2.1 ∈ wsX7_nearest := by decide +kernel
  have hfX7_75 : Cond.fieldLink RX7 75 (TX7 26).1 (TX7 26).2.1 (TX7 26).2.2.1 ∈ wsX7_nearest := by decide +kernel
  have hfX7_79 : Cond.fieldLink RX7 79 (TX7 29).1 (TX7 29).2.1 (TX7 29).2.2.1 ∈ wsX7_nearest := by decide +kernel
  have hfX7_85 : Cond.fieldLink RX7 85 (TX7 1).1 (TX7 1).2.1 (TX7 1).2.2.1 ∈ wsX7_nearest := by decide +kernel
  have hfX7_150 : Cond.fieldLink RX7 150 (TX7 27).1 (TX7 27).2.1 (TX7 27).2.2.1 ∈ wsX7_nearest := by decide +kernel
  have hfX7_159 : Cond.fieldLink RX7 159 (TX7 28).1 (TX7 28).2.1 (TX7 28).2.2.1 ∈ wsX7_nearest := by decide +kernel
  have hf := hR.1
  refine lv_aload_n hx hb dX7_nearest_0 rfl (lv_at hl 0 rfl) ?_
  refine lv_iload_n hx hb dX7_nearest_1 rfl (lv_at hl 1 rfl) ?_
  refine lv_i2l (v := k9.toInt64) hx hb dX7_nearest_2 rfl ?_
  refine lv_lconst (v := 0) hx hb dX7_nearest_3 (by decide) ?_
  refine lv_ldc2 (v := 100) hx hb hown (hts _ (show Cond.constantLong RX7 153 (100) ∈ _ by decide +kernel)) dX7_nearest_4 ?_
  refine g_cS (v := (some (.int (bI (decide ((0 : Int64) ≤ k9.toInt64 ∧ k9.toInt64 ≤ 100)))))) (As := [.long k9.toInt64, .long 0, .long 100]) (rest := [.ref m9]) hx hb hml hown hts hN hW.1 (m_in l Γ K F k9.toInt64 0 100) gX7_nearest_X7_in rfl (na := 3) rfl (by decide +kernel) ⟨by decide, by decide⟩ ⟨Nat.zero_le _, Nat.zero_le _⟩ rfl hl.1 (Nat.le_of_ble_eq_true rfl) dX7_nearest_7 ?_
  show W _ _ _ _ _ _ _ _ _ _ _ _ _ _ _ (F0 m 10 ls [.int (bI (decide ((0 : Int64) ≤ k9.toInt64 ∧ k9.toInt64 ≤ 100))), .ref m9])
  refine g_asi (show _ = bI (decide (¬ k9 < 0 ∧ k9 < nI 101)) from by rw [inL k9 101 (by decide) 100 (by decide)]) ?_
  refine lv_if_eq (tgt := 26) hx hb dX7_nearest_10 (by decide) (fun c1 => ?_) (fun c1 => ?_)
  · have c1 : (decide (¬ k9 < 0 ∧ k9 < nI 101)) = false := bI_0.mp c1
    have c1 := of_decide_eq_false c1
    refine lv_iconst (v := nI 1) hx hb dX7_nearest_26 (by decide) ?_
    refine lv_goto (tgt := 31) hx hb dX7_nearest_27 (by decide) ?_
    refine g_put (C := RX7) (T := TX7) (N := 31) hx hb hts hi7 tyX7 tyX7_ok nmX7 hown hN hW hk.1 rfl (by decide) 0 (by decide) hfX7_1 rfl rfl rfl dX7_nearest_31 (fun H locs hW => ?_)
    refine lv_aload_n hx hb dX7_nearest_34 rfl (lv_at hl 0 rfl) ?_
    refine g_get (C := RX7) (T := TX7) (N := 31) hx hb hts hi7 hown hN hW.1 hk.1 rfl (by decide) 0 (by decide) hfX7_1 (v := .int (nI 1)) gU_self dX7_nearest_35 ?_
    refine lv_if_le (tgt := 43) hx hb dX7_nearest_38 (by decide) (fun e1 => ?_) (fun e1 => ?_)
    · have e1 : 1 = 0 := (nI_le0 (by omega)).mp e1
      exact absurd e1 (by decide)
    · have e1 : 0 < 1 := Nat.pos_of_ne_zero (fun z => e1 ((nI_le0 (by omega)).mpr z))
      refine lv_iconst (v := nI 0) hx hb dX7_nearest_41 (by decide) ?_
      exact hret (some (.int (nI 0))) _ _ _ _ _ _ hW (⟨1, nI 0, rfl, rfl, gU_self, Or.inl ⟨rfl, fun z => c1 z.1⟩, (fun _ => hR.thr hk), fun z => absurd z (by decide)⟩) (rt_i dX7_nearest_42)
  · have c1 : (decide (¬ k9 < 0 ∧ k9 < nI 101)) = true := bI_n0.mp c1
    have c1 := of_decide_eq_true c1
    obtain ⟨kq, hkq, rfl⟩ := i32_nI (n := 101) (by decide) c1.1 c1.2
    refine lv_aload_n hx hb dX7_nearest_13 rfl (lv_at hl 0 rfl) ?_
    refine lv_iload_n hx hb dX7_nearest_14 rfl (lv_at hl 2 rfl) ?_
    refine lv_iload_n hx hb dX7_nearest_15 rfl (lv_at hl 3 rfl) ?_
    refine lv_iload hx hb dX7_nearest_16 (lv_at hl 4 rfl) ?_
    refine lv_iload hx hb dX7_nearest_18 (lv_at hl 5 rfl) ?_
    refine g_cV (v := (some (.int (bI (okPl d xx yy zz ww))))) (As := [.int xx, .int yy, .int zz, .int ww]) (b := m9) (rest := [.ref m9]) hx hb hml hown hts hN hW.1 (m_areNumbers l Γ K F m9 d xx yy zz ww hk.1 hR.2.1 hd4) gX7_nearest_X7_areNumbers rfl hk.1 (by decide) rfl (na := 4) rfl (by decide +kernel) ⟨by decide, by decide⟩ ⟨Nat.zero_le _, Nat.zero_le _⟩ rfl hl.1 (Nat.le_of_ble_eq_true rfl) dX7_nearest_20 ?_
    show W _ _ _ _ _ _ _ _ _ _ _ _ _ _ _ (F0 m 23 ls [.int (bI (okPl d xx yy zz ww)), .ref m9])
    refine lv_if_ne (tgt := 30) hx hb dX7_nearest_23 (by decide) (fun c2 => ?_) (fun c2 => ?_)
    · have c2 : (okPl d xx yy zz ww) = true := bI_n0.mp c2
      refine lv_iconst (v := nI 0) hx hb dX7_nearest_30 (by decide) ?_
      refine g_put (C := RX7) (T := TX7) (N := 31) hx hb hts hi7 tyX7 tyX7_ok nmX7 hown hN hW hk.1 rfl (by decide) 0 (by decide) hfX7_1 rfl rfl rfl dX7_nearest_31 (fun H locs hW => ?_)
      refine lv_aload_n hx hb dX7_nearest_34 rfl (lv_at hl 0 rfl) ?_
      refine g_get (C := RX7) (T := TX7) (N := 31) hx hb hts hi7 hown hN hW.1 hk.1 rfl (by decide) 0 (by decide) hfX7_1 (v := .int (nI 0)) gU_self dX7_nearest_35 ?_
      refine lv_if_le (tgt := 43) hx hb dX7_nearest_38 (by decide) (fun e1 => ?_) (fun e1 => ?_)
      · have e1 : 0 = 0 := (nI_le0 (by omega)).mp e1
        have hRG : RS (gU F m9 0 (.int (nI 0))) m9 B d P t S lk bc bg bp := hR.thr hk
        have hG0 : gU F m9 0 (.int (nI 0)) m9 0 = .int (nI 0) := gU_self
        generalize gU F m9 0 (.int (nI 0)) = G at hW hRG hG0
        refine lv_aload_n hx hb dX7_nearest_43 rfl (lv_at hl 0 rfl) ?_
        refine lv_iload_n hx hb dX7_nearest_44 rfl (lv_at hl 2 rfl) ?_
        refine lv_iload_n hx hb dX7_nearest_45 rfl (lv_at hl 3 rfl) ?_
        refine lv_iload hx hb dX7_nearest_46 (lv_at hl 4 rfl) ?_
        refine lv_iload hx hb dX7_nearest_48 (lv_at hl 5 rfl) ?_
        refine g_mV (As := [.int xx, .int yy, .int zz, .int ww]) (b := m9) (rest := []) hx hb hml hown hts hN hW (m_aimAt l Γ K G H.size m9 B hk hRG.1 d hRG.2.1 hd4 xx yy zz ww) gX7_nearest_X7_aimAt rfl hk.1 (by decide) rfl (na := 4) rfl (by decide +kernel) ⟨by decide, by decide⟩ ⟨Nat.le_of_ble_eq_true rfl, Nat.le_of_ble_eq_true rfl⟩ rfl hl.1 (Nat.le_of_ble_eq_true rfl) dX7_nearest_50 (fun v K' F2 H locs hp hW hsz' => ?_)
        obtain ⟨rfl, hK9, haim, hfr2⟩ := hp
        subst K'
        show W _ _ _ _ _ _ _ _ _ _ _ _ _ _ _ (F0 m 53 ls [])
        refine lv_aload_n hx hb dX7_nearest_53 rfl (lv_at hl 0 rfl) ?_
        refine lv_iconst (v := nI 0) hx hb dX7_nearest_54 (by decide) ?_
        refine g_put (C := RX7) (T := TX7) (N := 31) hx hb hts hi7 tyX7 tyX7_ok nmX7 hown hN hW hk.1 rfl (by decide) 27 (by decide) hfX7_150 rfl rfl rfl dX7_nearest_55 (fun H locs hW => ?_)
        refine lv_aload_n hx hb dX7_nearest_58 rfl (lv_at hl 0 rfl) ?_
        refine lv_iconst (v := nI 0) hx hb dX7_nearest_59 (by decide) ?_
        refine g_put (C := RX7) (T := TX7) (N := 31) hx hb hts hi7 tyX7 tyX7_ok nmX7 hown hN hW hk.1 rfl (by decide) 28 (by decide) hfX7_159 rfl rfl rfl dX7_nearest_60 (fun H locs hW => ?_)
        obtain ⟨F3, hF3⟩ : ∃ f, f = (gU (gU F2 m9 27 (.int (nI 0))) m9 28 (.int (nI 0))) := ⟨_, rfl⟩
        rw [← hF3] at hW
        obtain ⟨q, hq⟩ : ∃ q, q = mkC d xx yy zz ww := ⟨_, rfl⟩
        have e3 : ∀ b i, b ≠ B 24 → ¬ (b = m9 ∧ (i = 27 ∨ i = 28)) → F3 b i = G b i := fun b i h1 h2 => by rw [hF3, gU_ne (fun z => h2 ⟨z.1, Or.inr z.2⟩), gU_ne (fun z => h2 ⟨z.1, Or.inl z.2⟩)]; exact hfr2 b i h1
        have hm3 : ∀ i, i ≠ 27 → i ≠ 28 → F3 m9 i = G m9 i := fun i h1 h2 => e3 _ i (fun z => hk.nm (i := 24) rfl z.symm) (fun z => z.2.elim h1 h2)
        have ha3 : ∀ a, a < 4 → F3 (B 24) a = .int (q a) := fun a ha => by rw [hF3, gU_a (hk.nm (i := 24) rfl), gU_a (hk.nm (i := 24) rfl), hq]; exact haim a ha
        have hl3 : RSl F3 m9 B [] := ⟨by rw [hF3, gU_k (by decide), gU_self]; rfl, rowL.nil, rowL.nil⟩
        have h28 : F3 m9 28 = .int (nI 0) := by rw [hF3, gU_self]
        have hoq : ∀ a, a < 4 → okNum (q a) = true := fun a ha => by rw [hq]; exact okPl_mkC c2 a ha
        have hf3 : MKf F3 m9 B := hRG.1.up (fun j hj => hm3 j (fun e => by rw [e] at hj; exact absurd hj (by decide)) (fun e => by rw [e] at hj; exact absurd hj (by decide)))
        have e3j : ∀ j i, (mKd j).isSome = true → j ≠ 24 → F3 (B j) i = G (B j) i := fun j i h1 h2 => e3 _ i (hk.ne h1 rfl h2) (fun z => hk.nm h1 z.1)
        obtain ⟨tr, htr⟩ := hRG.2.2.2.2.1
        have htr3 : RSt F3 m9 B t tr := RSt_congr htr (hm3 13 (by decide) (by decide)) (fun j i hj => e3j j i (JK2_some (List.mem_cons_of_mem _ (List.mem_cons_of_mem _ hj))).1 (JK2_some (List.mem_cons_of_mem _ (List.mem_cons_of_mem _ hj))).2.2.2.2.1)
        have hd3 : F3 m9 1 = .int (nI d) := (hm3 1 (by decide) (by decide)).trans hRG.2.1
        have hlab : ∀ y ∈ tPre tr, (y.2.2 = false → ∀ a, a < 4 → F3 (B 3) (4 * y.2.1.1 + a) = .int (y.2.1.2 a)) ∧ ∀ a, a < 4 → okNum (y.2.1.2 a) = true := fun y hy => by
          have hy2 : y.2 ∈ tPre t := by rw [← htr.1, tPre_map]; exact List.mem_map.mpr ⟨y, hy, rfl⟩
          have q1 := hAS.2.2.2.2.2.2 y.2 hy2
          exact ⟨fun hd a ha => (e3j 3 _ rfl (by decide)).trans (hRG.2.2.1.2 y.2.1.1 y.2.1.2 q1.1 (hAS.1 y.2 hy2 hd) a ha), q1.2⟩
        have srch : ∀ (n : Nat) (t9 : TT mLb) (cx : cxT mLb) (r9 o lk1 : Nat) (S1 : List (Nat × Int64)) (F4 : gF) (H : Heap) (locs : List Loc) (ls : Array Slot), tSz t9 ≤ n → RX F3 B t9 (cTI cx) → CX F3 B m9 cx (rtI t9) → rtI t9 = some r9 → (∀ y ∈ tPre t9, y ∈ tPre tr) → cx.length + tSz t9 ≤ 140 → o + tSz t9 ≤ 140 → (∀ b i, b ≠ B 18 → b ≠ B 29 → b ≠ B 25 → b ≠ B 26 → ¬ (b = m9 ∧ (i = 27 ∨ i = 28)) → F4 b i = F3 b i) → RSl F4 m9 B S1 → S1.length ≤ kq → (∀ y ∈ S1, y.1 < 100) → F4 m9 28 = .int (nI lk1) → F4 (B 18) o = .int (nI r9) → F4 (B 29) o = .int (bI false) → gW Γ (gA K sz) s.heap K F4 H locs → lv_has ls 14 [(6, .int (nI (o + 1))), (0, .ref m9), (1, .int (nI kq))] → (∀ (F5 : gF) (H : Heap) (locs : List Loc) (ls : Array Slot), RSl F5 m9 B (srchG (fun y : mLb => y.2) kq d q t9 cx.length (S1, lk1)).1 → F5 m9 28 = .int (nI (srchG (fun y : mLb => y.2) kq d q t9 cx.length (S1, lk1)).2) → (srchG (fun y : mLb => y.2) kq d q t9 cx.length (S1, lk1)).1.length ≤ kq → (∀ y ∈ (srchG (fun y : mLb => y.2) kq d q t9 cx.length (S1, lk1)).1, y.1 < 100) → (∀ b i, b ≠ B 18 → b ≠ B 29 → b ≠ B 25 → b ≠ B 26 → ¬ (b = m9 ∧ (i = 27 ∨ i = 28)) → F5 b i = F3 b i) → (∀ i, i < o → F5 (B 18) i = F4 (B 18) i ∧ F5 (B 29) i = F4 (B 29) i) → gW Γ (gA K sz) s.heap K F5 H locs → lv_has ls 14 [(6, .int (nI o)), (0, .ref m9), (1, .int (nI kq))] → W p l e (gRm 2 0 0) s m args below meth c H locs 0 0 Z (F0 m 94 ls [])) → W p l e (gRm 2 0 0) s m args below meth c H locs 0 0 Z (F0 m 94 ls []) := by
          intro n
          induction n with
          | zero => intro t9 cx r9 o lk1 S1 F4 H locs ls hn _ _ hr; exact absurd (rtI_pos hr) (by omega)
          | succ n ih =>
            intro t9 cx r9 o lk1 S1 F4 H locs ls hn hX hC hr hsub hcx hoo hfr4 hl4 hS1 hS1i h284 h18 h29 hW hl cont
            rcases t9 with ⟨s9, y, v9, L, R⟩ | _
            case leaf => cases hr
            have hry : r9 = y.1 := by cases hr; rfl
            subst hry
            have hs9 : tSz (Std.DTreeMap.Internal.Impl.inner s9 y v9 L R) = tSz L + tSz R + 1 := rfl
            rw [hs9] at hn hcx hoo
            have hXn := hX.1
            have hy140 := hXn.1
            obtain ⟨hlab1, hlab2⟩ := hlab y (hsub y List.mem_cons_self)
            obtain ⟨ax, hax⟩ : ∃ ax, ax = cx.length % d := ⟨_, rfl⟩
            have haxd : ax < d := by rw [hax]; exact Nat.mod_lt _ hd0
            obtain ⟨b9, hb9⟩ : ∃ b, b = decide (q ax < y.2.1.2 ax) := ⟨_, rfl⟩
            have hb9' : b9 = decide (q (cx.length % d) - y.2.1.2 (cx.length % d) < 0) := by rw [← hax, below_gap (hoq ax (by omega)) (hlab2 ax (by omega))]; exact hb9
            have hsr := srchG_b (fun y : mLb => y.2) kq d q s9 y v9 L R cx.length (S1, lk1) b9 hb9'
            rw [← hax] at hsr
            obtain ⟨N, hN9⟩ : ∃ N, N = (if b9 then L else R) := ⟨_, rfl⟩
            obtain ⟨O9, hO9⟩ : ∃ N, N = (if b9 then R else L) := ⟨_, rfl⟩
            rw [← hN9, ← hO9] at hsr
            obtain ⟨S3, hS3⟩ : ∃ S3, S3 = (if y.2.2 then S1 else offL kq (y.2.1.1, pDist q y.2.1.2) S1) := ⟨_, rfl⟩
            rw [show (if y.2.2 then (S1, lk1).1 else offL kq (y.2.1.1, pDist q y.2.1.2) (S1, lk1).1) = S3 from hS3.symm] at hsr
            have hXN : RX F3 B N (some y.1) := by rw [hN9]; cases b9; exact hX.2.2; exact hX.2.1
            have hXO : RX F3 B O9 (some y.1) := by rw [hO9]; cases b9; exact hX.2.1; exact hX.2.2
            have hCN : CX F3 B m9 ((b9, y, O9) :: cx) (rtI N) := by rw [hN9, hO9]; cases b9; exact ⟨hX.1, hX.2.1, hC⟩; exact ⟨hX.1, hX.2.2, hC⟩
            have hCO : CX F3 B m9 ((!b9, y, N) :: cx) (rtI O9) := by rw [hN9, hO9]; cases b9; exact ⟨hX.1, hX.2.2, hC⟩; exact ⟨hX.1, hX.2.1, hC⟩
            have hzN : tSz N + tSz O9 = tSz L + tSz R := by rw [hN9, hO9]; cases b9; exact Nat.add_comm _ _; rfl
            have hsN : ∀ z ∈ tPre N, z ∈ tPre tr := fun z hz => hsub z (List.mem_cons_of_mem _ (by rw [hN9] at hz; cases b9; exact List.mem_append_right _ hz; exact List.mem_append_left _ hz))
            have hsO : ∀ z ∈ tPre O9, z ∈ tPre tr := fun z hz => hsub z (List.mem_cons_of_mem _ (by rw [hO9] at hz; cases b9; exact List.mem_append_left _ hz; exact List.mem_append_right _ hz))
            have hlN : F3 (B 10) y.1 = .int (oI (rtI L)) := hXn.2.2.2.2.2.1
            have hlR : F3 (B 11) y.1 = .int (oI (rtI R)) := hXn.2.2.2.2.2.2.1
            have hup0 : upC F3 B (y.1 :: (cPath cx).map (fun z : mLb => z.1)) := ⟨hy140, by
              have q1 := hXn.2.2.2.2.2.2.2
              rcases cx with _ | ⟨⟨b, z, o9⟩, c9⟩
              · exact q1
              · exact q1, CX_up hC⟩
            have upm : ∀ (G4 : gF), (∀ i, G4 (B 12) i = F3 (B 12) i) → ∀ cs, upC F3 B cs → upC G4 B cs := fun G4 hG cs => by
              induction cs with
              | nil => intro _; trivial
              | cons z zs ih2 => intro h; exact ⟨h.1, (hG z).trans h.2.1, ih2 h.2.2⟩
            have frj : ∀ (G4 : gF), (∀ b i, b ≠ B 18 → b ≠ B 29 → b ≠ B 25 → b ≠ B 26 → ¬ (b = m9 ∧ (i = 27 ∨ i = 28)) → G4 b i = F3 b i) → ∀ j i, (mKd j).isSome = true → j ≠ 18 → j ≠ 29 → j ≠ 25 → j ≠ 26 → G4 (B j) i = F3 (B j) i := fun G4 hG j i h1 h2 h3 h4 h5 => hG _ i (hk.ne h1 rfl h2) (hk.ne h1 rfl h3) (hk.ne h1 rfl h4) (hk.ne h1 rfl h5) (fun z => hk.nm h1 z.1)
            have frm : ∀ (G4 : gF), (∀ b i, b ≠ B 18 → b ≠ B 29 → b ≠ B 25 → b ≠ B 26 → ¬ (b = m9 ∧ (i = 27 ∨ i = 28)) → G4 b i = F3 b i) → ∀ i, i ≠ 27 → i ≠ 28 → G4 m9 i = F3 m9 i := fun G4 hG i h1 h2 => hG _ i (fun z => hk.nm (i := 18) rfl z.symm) (fun z => hk.nm (i := 29) rfl z.symm) (fun z => hk.nm (i := 25) rfl z.symm) (fun z => hk.nm (i := 26) rfl z.symm) (fun z => z.2.elim h1 h2)
            have frf : ∀ (G4 : gF), (∀ b i, b ≠ B 18 → b ≠ B 29 → b ≠ B 25 → b ≠ B 26 → ¬ (b = m9 ∧ (i = 27 ∨ i = 28)) → G4 b i = F3 b i) → MKf G4 m9 B := fun G4 hG => hf3.up (fun j hj => frm G4 hG j (fun e => by rw [e] at hj; exact absurd hj (by decide)) (fun e => by rw [e] at hj; exact absurd hj (by decide)))
            have pre : ∀ (bl : Bool) (G4 : gF) (H : Heap) (locs : List Loc) (ls : Array Slot), (∀ b i, b ≠ B 18 → b ≠ B 29 → b ≠ B 25 → b ≠ B 26 → ¬ (b = m9 ∧ (i = 27 ∨ i = 28)) → G4 b i = F3 b i) → G4 (B 18) o = .int (nI y.1) → G4 (B 29) o = .int (bI bl) → gW Γ (gA K sz) s.heap K G4 H locs → lv_has ls 14 [(6, .int (nI (o + 1))), (0, .ref m9), (1, .int (nI kq))] → (∀ (ls : Array Slot), lv_has ls 14 [(9, .int (bI b9)), (8, .int (nI ax)), (7, .int (nI y.1)), (6, .int (nI (o + 1))), (0, .ref m9), (1, .int (nI kq))] → W p l e (gRm 2 0 0) s m args below meth c H locs 0 0 Z (F0 m 161 ls [.int (bI bl)])) → W p l e (gRm 2 0 0) s m args below meth c H locs 0 0 Z (F0 m 94 ls []) := by
              intro bl G4 H locs ls hG h1 h2 hW hl kk
              have hfG := frf G4 hG
              have gd := (frm G4 hG 1 (by decide) (by decide)).trans hd3
              refine lv_iload hx hb dX7_nearest_94 (lv_at hl 0 rfl) ?_
              refine lv_if_le (tgt := 357) hx hb dX7_nearest_96 (by decide) (fun z1 => ?_) (fun z1 => ?_)
              · have z1 : (o + 1) = 0 := (nI_le0 (by omega)).mp z1
                exact absurd z1 (by omega)
              · have z1 : 0 < (o + 1) := Nat.pos_of_ne_zero (fun z => z1 ((nI_le0 (by omega)).mpr z))
                refine lv_aload_n hx hb dX7_nearest_99 rfl (lv_at hl 1 rfl) ?_
                refine g_get (C := RX7) (T := TX7) (N := 31) hx hb hts hi7 hown hN hW.1 hk.1 rfl (by decide) 18 (by decide) hfX7_51 (v := .ref (B 18)) (hfG 18 rfl) dX7_nearest_100 ?_
                refine lv_iload hx hb dX7_nearest_103 (lv_at hl 0 rfl) ?_
                refine lv_iconst (v := nI 1) hx hb dX7_nearest_105 (by decide) ?_
                refine lv_isub hx hb dX7_nearest_106 ?_
                refine g_asi (show _ = nI o from pk_sub (by omega)) ?_
                refine g_iald (j := o) hx hb hN hW.1 (hk.2.1 18 (8, 140) rfl) (by decide) (show _ = nI o from rfl) (by omega) (v := .int (nI y.1)) h1 dX7_nearest_107 ?_
                refine lv_istore (lv' := [(7, .int (nI y.1)), (6, .int (nI (o + 1))), (0, .ref m9), (1, .int (nI kq))]) hx hb dX7_nearest_108 hl (by decide) rfl (fun ls hl => ?_)
                refine lv_aload_n hx hb dX7_nearest_110 rfl (lv_at hl 2 rfl) ?_
                refine lv_iload hx hb dX7_nearest_111 (lv_at hl 0 rfl) ?_
                have hdp : gMR l yX7_depth wsX7_depth 0 Γ K G4 [.ref m9, .int (nI y.1)] (some (.int (nI cx.length))) := by
                  have q1 := m_depth l Γ K G4 m9 B hk hfG y.1 _ (upm G4 (fun i => frj G4 hG 12 i rfl (by decide) (by decide) (by decide) (by decide)) _ hup0)
                  rw [List.length_map, cPath_len] at q1
                  exact q1
                refine g_cV (v := (some (.int (nI cx.length)))) (As := [.int (nI y.1)]) (b := m9) (rest := []) hx hb hml hown hts hN hW.1 (hdp) gX7_nearest_X7_depth rfl hk.1 (by decide) rfl (na := 1) rfl (by decide +kernel) ⟨by decide, by decide⟩ ⟨Nat.zero_le _, Nat.zero_le _⟩ rfl hl.1 (Nat.le_of_ble_eq_true rfl) dX7_nearest_113 ?_
                show W _ _ _ _ _ _ _ _ _ _ _ _ _ _ _ (F0 m 116 ls [.int (nI cx.length)])
                refine lv_aload_n hx hb dX7_nearest_116 rfl (lv_at hl 2 rfl) ?_
                refine g_get (C := RX7) (T := TX7) (N := 31) hx hb hts hi7 hown hN hW.1 hk.1 rfl (by decide) 1 (by decide) hfX7_85 (v := .int (nI d)) gd dX7_nearest_117 ?_
                refine lv_irem hx hb dX7_nearest_120 (fun z => by have := (nI_eq0 (by omega)).mp z; omega) ?_
                refine g_asi (show _ = nI (cx.length % d) from pk_rem (by omega) (by omega) (by omega)) ?_
                refine g_asi (show _ = nI ax from by rw [hax]) ?_
                refine lv_istore (lv' := [(8, .int (nI ax)), (7, .int (nI y.1)), (6, .int (nI (o + 1))), (0, .ref m9), (1, .int (nI kq))]) hx hb dX7_nearest_121 hl (by decide) rfl (fun ls hl => ?_)
                refine lv_aload_n hx hb dX7_nearest_123 rfl (lv_at hl 3 rfl) ?_
                refine g_get (C := RX7) (T := TX7) (N := 31) hx hb hts hi7 hown hN hW.1 hk.1 rfl (by decide) 24 (by decide) hfX7_69 (v := .ref (B 24)) (hfG 24 rfl) dX7_nearest_124 ?_
                refine lv_iload hx hb dX7_nearest_127 (lv_at hl 0 rfl) ?_
                refine g_iald (j := ax) hx hb hN hW.1 (hk.2.1 24 (8, 4) rfl) (by decide) (show _ = nI ax from rfl) (by omega) (v := .int (q ax)) ((frj G4 hG 24 ax rfl (by decide) (by decide) (by decide) (by decide)).trans (ha3 ax (by omega))) dX7_nearest_129 ?_
                refine lv_aload_n hx hb dX7_nearest_130 rfl (lv_at hl 3 rfl) ?_
                refine g_get (C := RX7) (T := TX7) (N := 31) hx hb hts hi7 hown hN hW.1 hk.1 rfl (by decide) 8 (by decide) hfX7_30 (v := .ref (B 8)) (hfG 8 rfl) dX7_nearest_131 ?_
                refine lv_iconst (v := nI 4) hx hb dX7_nearest_134 (by decide) ?_
                refine lv_iload hx hb dX7_nearest_135 (lv_at hl 1 rfl) ?_
                refine lv_imul hx hb dX7_nearest_137 ?_
                refine g_asi (show _ = nI (4 * y.1) from (pk_mul _ _).trans (by rfl)) ?_
                refine lv_iload hx hb dX7_nearest_138 (lv_at hl 0 rfl) ?_
                refine lv_iadd hx hb dX7_nearest_140 ?_
                refine g_asi (show _ = nI ((4 * y.1) + ax) from (nI_add _ _).trans (by rfl)) ?_
                refine g_iald (j := 4 * y.1 + ax) hx hb hN hW.1 (hk.2.1 8 (8, 560) rfl) (by decide) (show _ = nI (4 * y.1 + ax) from rfl) (by omega) (v := .int (y.2.1.2 ax)) ((frj G4 hG 8 _ rfl (by decide) (by decide) (by decide) (by decide)).trans (hXn.2.2.2.1 ax (by omega))) dX7_nearest_141 ?_
                refine lv_icmp_ge (tgt := 149) hx hb dX7_nearest_142 (by decide) (fun z2 => ?_) (fun z2 => ?_)
                · refine lv_iconst (v := nI 0) hx hb dX7_nearest_149 (by decide) ?_
                  refine g_asi (show _ = bI b9 from by rw [hb9, decide_eq_false (Int32.not_lt.mpr z2)]; rfl) ?_
                  refine lv_istore (lv' := [(9, .int (bI b9)), (8, .int (nI ax)), (7, .int (nI y.1)), (6, .int (nI (o + 1))), (0, .ref m9), (1, .int (nI kq))]) hx hb dX7_nearest_150 hl (by decide) rfl (fun ls hl => ?_)
                  refine lv_aload_n hx hb dX7_nearest_152 rfl (lv_at hl 4 rfl) ?_
                  refine g_get (C := RX7) (T := TX7) (N := 31) hx hb hts hi7 hown hN hW.1 hk.1 rfl (by decide) 29 (by decide) hfX7_79 (v := .ref (B 29)) (hfG 29 rfl) dX7_nearest_153 ?_
                  refine lv_iload hx hb dX7_nearest_156 (lv_at hl 3 rfl) ?_
                  refine lv_iconst (v := nI 1) hx hb dX7_nearest_158 (by decide) ?_
                  refine lv_isub hx hb dX7_nearest_159 ?_
                  refine g_asi (show _ = nI o from pk_sub (by omega)) ?_
                  refine g_zald (j := o) hx hb hN hW.1 (hk.2.1 29 (10, 140) rfl) (by decide) (show _ = nI o from rfl) (by omega) (v := .int (bI bl)) h2 dX7_nearest_160 ?_
                  exact kk ls (lv_sub hl [0, 1, 2, 3, 4, 5] rfl)
                · refine lv_iconst (v := nI 1) hx hb dX7_nearest_145 (by decide) ?_
                  refine lv_goto (tgt := 150) hx hb dX7_nearest_146 (by decide) ?_
                  refine g_asi (show _ = bI b9 from by rw [hb9, decide_eq_true (Int32.not_le.mp z2)]; rfl) ?_
                  refine lv_istore (lv' := [(9, .int (bI b9)), (8, .int (nI ax)), (7, .int (nI y.1)), (6, .int (nI (o + 1))), (0, .ref m9), (1, .int (nI kq))]) hx hb dX7_nearest_150 hl (by decide) rfl (fun ls hl => ?_)
                  refine lv_aload_n hx hb dX7_nearest_152 rfl (lv_at hl 4 rfl) ?_
                  refine g_get (C := RX7) (T := TX7) (N := 31) hx hb hts hi7 hown hN hW.1 hk.1 rfl (by decide) 29 (by decide) hfX7_79 (v := .ref (B 29)) (hfG 29 rfl) dX7_nearest_153 ?_
                  refine lv_iload hx hb dX7_nearest_156 (lv_at hl 3 rfl) ?_
                  refine lv_iconst (v := nI 1) hx hb dX7_nearest_158 (by decide) ?_
                  refine lv_isub hx hb dX7_nearest_159 ?_
                  refine g_asi (show _ = nI o from pk_sub (by omega)) ?_
                  refine g_zald (j := o) hx hb hN hW.1 (hk.2.1 29 (10, 140) rfl) (by decide) (show _ = nI o from rfl) (by omega) (v := .int (bI bl)) h2 dX7_nearest_160 ?_
                  exact kk ls (lv_sub hl [0, 1, 2, 3, 4, 5] rfl)
            have pass2 : ∀ (S2 : List (Nat × Int64)) (lk2 : Nat) (G4 : gF) (H : Heap) (locs : List Loc) (ls : Array Slot), srchG (fun y : mLb => y.2) kq d q (Std.DTreeMap.Internal.Impl.inner s9 y v9 L R) cx.length (S1, lk1) = (if shut kq S2 (sqI (q ax - y.2.1.2 ax)) then (S2, lk2) else srchG (fun y : mLb => y.2) kq d q O9 (cx.length + 1) (S2, lk2)) → RSl G4 m9 B S2 → S2.length ≤ kq → (∀ z ∈ S2, z.1 < 100) → G4 m9 28 = .int (nI lk2) → G4 (B 18) o = .int (nI y.1) → G4 (B 29) o = .int (bI true) → (∀ b i, b ≠ B 18 → b ≠ B 29 → b ≠ B 25 → b ≠ B 26 → ¬ (b = m9 ∧ (i = 27 ∨ i = 28)) → G4 b i = F3 b i) → (∀ i, i < o → G4 (B 18) i = F4 (B 18) i ∧ G4 (B 29) i = F4 (B 29) i) → gW Γ (gA K sz) s.heap K G4 H locs → lv_has ls 14 [(6, .int (nI (o + 1))), (0, .ref m9), (1, .int (nI kq))] → W p l e (gRm 2 0 0) s m args below meth c H locs 0 0 Z (F0 m 94 ls []) := by
              intro S2 lk2 G4 H locs ls hst hl2 hlen2 hid2 h28 h1 h2 hG hbel hW hl
              have hfG := frf G4 hG
              refine pre true G4 H locs ls hG h1 h2 hW hl (fun ls hl => ?_)
              refine lv_if_ne (tgt := 233) hx hb dX7_nearest_161 (by decide) (fun z3 => ?_) (fun z3 => ?_)
              · have z3 : true = true := bI_n0.mp z3
                refine lv_iinc (v := nI o) (lv' := [(6, .int (nI o)), (9, .int (bI b9)), (8, .int (nI ax)), (7, .int (nI y.1)), (0, .ref m9), (1, .int (nI kq))]) hx hb dX7_nearest_233 hl (k := 3) rfl (dec1s _) (by decide) rfl (fun ls hl => ?_)
                refine lv_aload_n hx hb dX7_nearest_236 rfl (lv_at hl 4 rfl) ?_
                refine g_get (C := RX7) (T := TX7) (N := 31) hx hb hts hi7 hown hN hW.1 hk.1 rfl (by decide) 24 (by decide) hfX7_69 (v := .ref (B 24)) (hfG 24 rfl) dX7_nearest_237 ?_
                refine lv_iload hx hb dX7_nearest_240 (lv_at hl 2 rfl) ?_
                refine g_iald (j := ax) hx hb hN hW.1 (hk.2.1 24 (8, 4) rfl) (by decide) (show _ = nI ax from rfl) (by omega) (v := .int (q ax)) ((frj G4 hG 24 ax rfl (by decide) (by decide) (by decide) (by decide)).trans (ha3 ax (by omega))) dX7_nearest_242 ?_
                refine lv_aload_n hx hb dX7_nearest_243 rfl (lv_at hl 4 rfl) ?_
                refine g_get (C := RX7) (T := TX7) (N := 31) hx hb hts hi7 hown hN hW.1 hk.1 rfl (by decide) 8 (by decide) hfX7_30 (v := .ref (B 8)) (hfG 8 rfl) dX7_nearest_244 ?_
                refine lv_iconst (v := nI 4) hx hb dX7_nearest_247 (by decide) ?_
                refine lv_iload hx hb dX7_nearest_248 (lv_at hl 3 rfl) ?_
                refine lv_imul hx hb dX7_nearest_250 ?_
                refine g_asi (show _ = nI (4 * y.1) from (pk_mul _ _).trans (by rfl)) ?_
                refine lv_iload hx hb dX7_nearest_251 (lv_at hl 2 rfl) ?_
                refine lv_iadd hx hb dX7_nearest_253 ?_
                refine g_asi (show _ = nI ((4 * y.1) + ax) from (nI_add _ _).trans (by rfl)) ?_
                refine g_iald (j := 4 * y.1 + ax) hx hb hN hW.1 (hk.2.1 8 (8, 560) rfl) (by decide) (show _ = nI (4 * y.1 + ax) from rfl) (by omega) (v := .int (y.2.1.2 ax)) ((frj G4 hG 8 _ rfl (by decide) (by decide) (by decide) (by decide)).trans (hXn.2.2.2.1 ax (by omega))) dX7_nearest_254 ?_
                refine lv_isub hx hb dX7_nearest_255 ?_
                refine lv_i2l (v := ((q ax) - (y.2.1.2 ax)).toInt64) hx hb dX7_nearest_256 rfl ?_
                refine lv_lstore (lv' := [(11, .long (((q ax) - (y.2.1.2 ax)).toInt64)), (6, .int (nI o)), (9, .int (bI b9)), (8, .int (nI ax)), (7, .int (nI y.1)), (0, .ref m9), (1, .int (nI kq))]) hx hb dX7_nearest_257 hl (by decide) rfl (fun ls hl => ?_)
                refine lv_iload_n hx hb dX7_nearest_259 rfl (lv_at hl 6 rfl) ?_
                have j293 : ∀ (ls : Array Slot), lv_has ls 14 [(11, .long ((q ax - y.2.1.2 ax).toInt64)), (9, .int (bI b9)), (8, .int (nI ax)), (7, .int (nI y.1)), (6, .int (nI o)), (0, .ref m9), (1, .int (nI kq))] → W p l e (gRm 2 0 0) s m args below meth c H locs 0 0 Z (F0 m 293 ls [.int (bI (!(shut kq S2 (sqI (q ax - y.2.1.2 ax)))))]) := by
                  intro ls hl
                  cases hsh : shut kq S2 (sqI (q ax - y.2.1.2 ax)) with
                  | true =>
                    rw [hsh] at hst
                    refine lv_istore (lv' := [(13, .int (bI (!true))), (11, .long ((q ax - y.2.1.2 ax).toInt64)), (9, .int (bI b9)), (8, .int (nI ax)), (7, .int (nI y.1)), (6, .int (nI o)), (0, .ref m9), (1, .int (nI kq))]) hx hb dX7_nearest_293 hl (by decide) rfl (fun ls hl => ?_)
                    refine lv_iload hx hb dX7_nearest_295 (lv_at hl 0 rfl) ?_
                    refine lv_if_ne (tgt := 304) hx hb dX7_nearest_297 (by decide) (fun z7 => ?_) (fun z7 => ?_)
                    · have z7 : (!true) = true := bI_n0.mp z7
                      exact absurd z7 (by decide)
                    · have z7 : (!true) = false := bI_0.mp z7
                      refine lv_iconst (v := (-1)) hx hb dX7_nearest_300 (by decide) ?_
                      refine lv_goto (tgt := 326) hx hb dX7_nearest_301 (by decide) ?_
                      refine lv_istore (lv' := [(10, .int (-1)), (13, .int (bI (!true))), (11, .long ((q ax - y.2.1.2 ax).toInt64)), (9, .int (bI b9)), (8, .int (nI ax)), (7, .int (nI y.1)), (6, .int (nI o)), (0, .ref m9), (1, .int (nI kq))]) hx hb dX7_nearest_326 hl (by decide) rfl (fun ls hl => ?_)
                      refine lv_iload hx hb dX7_nearest_328 (lv_at hl 0 rfl) ?_
                      refine lv_iconst (v := (-1)) hx hb dX7_nearest_330 (by decide) ?_
                      refine lv_icmp_eq (tgt := 354) hx hb dX7_nearest_331 (by decide) (fun z8 => ?_) (fun z8 => ?_)
                      · refine lv_goto (tgt := 94) hx hb dX7_nearest_354 (by decide) ?_
                        rw [if_pos rfl] at hst
                        refine cont G4 H locs ls ?_ ?_ ?_ ?_ hG hbel hW (lv_sub hl [6, 7, 8] rfl) <;> rw [hst]
                        · exact hl2
                        · exact h28
                        · exact hlen2
                        · exact hid2
                      · exact absurd rfl z8
                  | false =>
                    rw [hsh] at hst
                    refine lv_istore (lv' := [(13, .int (bI (!false))), (11, .long ((q ax - y.2.1.2 ax).toInt64)), (9, .int (bI b9)), (8, .int (nI ax)), (7, .int (nI y.1)), (6, .int (nI o)), (0, .ref m9), (1, .int (nI kq))]) hx hb dX7_nearest_293 hl (by decide) rfl (fun ls hl => ?_)
                    refine lv_iload hx hb dX7_nearest_295 (lv_at hl 0 rfl) ?_
                    refine lv_if_ne (tgt := 304) hx hb dX7_nearest_297 (by decide) (fun z7 => ?_) (fun z7 => ?_)
                    · have z7 : (!false) = true := bI_n0.mp z7
                      rw [if_neg (by decide)] at hst
                      have j326 : ∀ (ls : Array Slot), lv_has ls 14 [(13, .int (bI (!false))), (11, .long ((q ax - y.2.1.2 ax).toInt64)), (9, .int (bI b9)), (8, .int (nI ax)), (7, .int (nI y.1)), (6, .int (nI o)), (0, .ref m9), (1, .int (nI kq))] → W p l e (gRm 2 0 0) s m args below meth c H locs 0 0 Z (F0 m 326 ls [.int (oI (rtI O9))]) := by
                        intro ls hl
                        refine lv_istore (lv' := [(10, .int (oI (rtI O9))), (13, .int (bI (!false))), (11, .long ((q ax - y.2.1.2 ax).toInt64)), (9, .int (bI b9)), (8, .int (nI ax)), (7, .int (nI y.1)), (6, .int (nI o)), (0, .ref m9), (1, .int (nI kq))]) hx hb dX7_nearest_326 hl (by decide) rfl (fun ls hl => ?_)
                        refine lv_iload hx hb dX7_nearest_328 (lv_at hl 0 rfl) ?_
                        refine lv_iconst (v := (-1)) hx hb dX7_nearest_330 (by decide) ?_
                        refine lv_icmp_eq (tgt := 354) hx hb dX7_nearest_331 (by decide) (fun z10 => ?_) (fun z10 => ?_)
                        · have hno : rtI O9 = none := (oI_none (fun n hn => Nat.lt_trans (RX_root hXO hn) (by decide))).mp z10
                          rw [srchG_leaf _ _ _ _ _ (rtI_rt hno)] at hst
                          refine lv_goto (tgt := 94) hx hb dX7_nearest_354 (by decide) ?_
                          refine cont G4 H locs ls ?_ ?_ ?_ ?_ hG hbel hW (lv_sub hl [6, 7, 8] rfl) <;> rw [hst]
                          · exact hl2
                          · exact h28
                          · exact hlen2
                          · exact hid2
                        · obtain ⟨rO, hrO⟩ : ∃ r, rtI O9 = some r := by
                            cases h9 : rtI O9 with
                            | none => rw [h9] at z10; exact absurd rfl z10
                            | some r => exact ⟨r, rfl⟩
                          have hrO2 := RX_root hXO hrO
                          have hpO := rtI_pos hrO
                          refine lv_aload_n hx hb dX7_nearest_334 rfl (lv_at hl 7 rfl) ?_
                          refine g_get (C := RX7) (T := TX7) (N := 31) hx hb hts hi7 hown hN hW.1 hk.1 rfl (by decide) 18 (by decide) hfX7_51 (v := .ref (B 18)) (hfG 18 rfl) dX7_nearest_335 ?_
                          refine lv_iload hx hb dX7_nearest_338 (lv_at hl 6 rfl) ?_
                          refine lv_iload hx hb dX7_nearest_340 (lv_at hl 0 rfl) ?_
                          refine g_iast (j := o) hx hb hN hW (hk.2.1 18 (8, 140) rfl) (by decide) (show _ = nI o from rfl) (by omega) dX7_nearest_342 (fun H locs hW => ?_)
                          refine lv_aload_n hx hb dX7_nearest_343 rfl (lv_at hl 7 rfl) ?_
                          refine g_get (C := RX7) (T := TX7) (N := 31) hx hb hts hi7 hown hN hW.1 hk.1 rfl (by decide) 29 (by decide) hfX7_79 (v := .ref (B 29)) ((gU_a (Ne.symm (hk.nm (i := 18) rfl))).trans (hfG 29 rfl)) dX7_nearest_344 ?_
                          refine lv_iload hx hb dX7_nearest_347 (lv_at hl 6 rfl) ?_
                          refine lv_iconst (v := nI 0) hx hb dX7_nearest_349 (by decide) ?_
                          refine g_zast (j := o) hx hb hN hW (hk.2.1 29 (10, 140) rfl) (by decide) rfl (show _ = nI o from rfl) (by omega) dX7_nearest_350 (fun H locs hW => ?_)
                          refine lv_iinc (v := nI (o + 1)) (lv' := [(6, .int (nI (o + 1))), (10, .int (oI (rtI O9))), (13, .int (bI (!false))), (11, .long ((q ax - y.2.1.2 ax).toInt64)), (9, .int (bI b9)), (8, .int (nI ax)), (7, .int (nI y.1)), (0, .ref m9), (1, .int (nI kq))]) hx hb dX7_nearest_351 hl (k := 6) rfl (inc1 _) (by decide) rfl (fun ls hl => ?_)
                          refine lv_goto (tgt := 94) hx hb dX7_nearest_354 (by decide) ?_
                          refine ih O9 ((!b9, y, N) :: cx) rO o lk2 S2 (gU (gU G4 (B 18) o (.int (oI (rtI O9)))) (B 29) o (.int (nI 0))) H locs ls (by omega) hXO hCO hrO hsO (by rw [List.length_cons]; omega) (by omega) (fun b i h1 h2 h3 h4 h5 => by rw [gU_a h2, gU_a h1]; exact hG b i h1 h2 h3 h4 h5) ⟨(gU_a (Ne.symm (hk.nm (i := 29) rfl))).trans ((gU_a (Ne.symm (hk.nm (i := 18) rfl))).trans hl2.1), hl2.2.1.keep (fun j _ _ => (gU_a (hk.ne (i := 25) (j := 29) rfl rfl (by decide))).trans (gU_a (hk.ne (i := 25) (j := 18) rfl rfl (by decide)))), hl2.2.2.keep (fun j _ _ => (gU_a (hk.ne (i := 26) (j := 29) rfl rfl (by decide))).trans (gU_a (hk.ne (i := 26) (j := 18) rfl rfl (by decide))))⟩ hlen2 hid2 ((gU_a (Ne.symm (hk.nm (i := 29) rfl))).trans ((gU_a (Ne.symm (hk.nm (i := 18) rfl))).trans h28)) ((gU_a (hk.ne (i := 18) (j := 29) rfl rfl (by decide))).trans (gU_self.trans (by rw [hrO]; rfl))) gU_self hW (lv_sub hl [0, 7, 8] rfl) (fun F5 H locs ls g1 g2 g3 g4 g5 g6 hW hl => ?_)
                          refine cont F5 H locs ls ?_ ?_ ?_ ?_ g5 (fun i hi => ?_) hW hl
                          · rw [hst]; exact g1
                          · rw [hst]; exact g2
                          · rw [hst]; exact g3
                          · rw [hst]; exact g4
                          · have u1 := g6 i hi
                            have u2 := hbel i hi
                            exact ⟨(u1.1.trans ((gU_a (hk.ne (i := 18) (j := 29) rfl rfl (by decide))).trans (gU_k (by omega)))).trans u2.1, (u1.2.trans ((gU_k (by omega)).trans (gU_a (hk.ne (i := 29) (j := 18) rfl rfl (by decide))))).trans u2.2⟩
                      refine lv_iload hx hb dX7_nearest_304 (lv_at hl 2 rfl) ?_
                      refine lv_if_eq (tgt := 319) hx hb dX7_nearest_306 (by decide) (fun z9 => ?_) (fun z9 => ?_)
                      · have z9 : b9 = false := bI_0.mp z9
                        refine lv_aload_n hx hb dX7_nearest_319 rfl (lv_at hl 6 rfl) ?_
                        refine g_get (C := RX7) (T := TX7) (N := 31) hx hb hts hi7 hown hN hW.1 hk.1 rfl (by decide) 10 (by decide) hfX7_36 (v := .ref (B 10)) (hfG 10 rfl) dX7_nearest_320 ?_
                        refine lv_iload hx hb dX7_nearest_323 (lv_at hl 4 rfl) ?_
                        refine g_iald (j := y.1) hx hb hN hW.1 (hk.2.1 10 (8, 140) rfl) (by decide) (show _ = nI y.1 from rfl) (by omega) (v := .int (oI (rtI L))) ((frj G4 hG 10 _ rfl (by decide) (by decide) (by decide) (by decide)).trans hlN) dX7_nearest_325 ?_
                        refine g_asi (show _ = oI (rtI O9) from by rw [hO9, z9]; rfl) ?_
                        exact j326 ls hl
                      · have z9 : b9 = true := bI_n0.mp z9
                        refine lv_aload_n hx hb dX7_nearest_309 rfl (lv_at hl 6 rfl) ?_
                        refine g_get (C := RX7) (T := TX7) (N := 31) hx hb hts hi7 hown hN hW.1 hk.1 rfl (by decide) 11 (by decide) hfX7_39 (v := .ref (B 11)) (hfG 11 rfl) dX7_nearest_310 ?_
                        refine lv_iload hx hb dX7_nearest_313 (lv_at hl 4 rfl) ?_
                        refine g_iald (j := y.1) hx hb hN hW.1 (hk.2.1 11 (8, 140) rfl) (by decide) (show _ = nI y.1 from rfl) (by omega) (v := .int (oI (rtI R))) ((frj G4 hG 11 _ rfl (by decide) (by decide) (by decide) (by decide)).trans hlR) dX7_nearest_315 ?_
                        refine lv_goto (tgt := 326) hx hb dX7_nearest_316 (by decide) ?_
                        refine g_asi (show _ = oI (rtI O9) from by rw [hO9, z9]; rfl) ?_
                        exact j326 ls hl
                    · have z7 : (!false) = false := bI_0.mp z7
                      exact absurd z7 (by decide)
                refine lv_if_le (tgt := 292) hx hb dX7_nearest_260 (by decide) (fun z4 => ?_) (fun z4 => ?_)
                · have z4 : kq = 0 := (nI_le0 (by omega)).mp z4
                  refine lv_iconst (v := nI 0) hx hb dX7_nearest_292 (by decide) ?_
                  refine g_asi (show _ = bI (!(shut kq S2 (sqI (q ax - y.2.1.2 ax)))) from by unfold shut; rw [decide_eq_true ⟨by omega, Or.inl (by omega)⟩]; rfl) ?_
                  exact j293 ls (lv_sub hl [0, 2, 3, 4, 1, 5, 6] rfl)
                · have z4 : 0 < kq := Nat.pos_of_ne_zero (fun z => z4 ((nI_le0 (by omega)).mpr z))
                  refine lv_aload_n hx hb dX7_nearest_263 rfl (lv_at hl 5 rfl) ?_
                  refine g_get (C := RX7) (T := TX7) (N := 31) hx hb hts hi7 hown hN hW.1 hk.1 rfl (by decide) 27 (by decide) hfX7_150 (v := .int (nI S2.length)) hl2.1 dX7_nearest_264 ?_
                  refine lv_iload_n hx hb dX7_nearest_267 rfl (lv_at hl 6 rfl) ?_
                  refine lv_icmp_lt (tgt := 288) hx hb dX7_nearest_268 (by decide) (fun z5 => ?_) (fun z5 => ?_)
                  · have z5 : S2.length < kq := (nI_ltI (by omega) (by omega)).mp z5
                    refine lv_iconst (v := nI 1) hx hb dX7_nearest_288 (by decide) ?_
                    refine lv_goto (tgt := 293) hx hb dX7_nearest_289 (by decide) ?_
                    refine g_asi (show _ = bI (!(shut kq S2 (sqI (q ax - y.2.1.2 ax)))) from by unfold shut; rw [decide_eq_false (fun z => absurd z.1 (by omega))]; rfl) ?_
                    exact j293 ls (lv_sub hl [0, 2, 3, 4, 1, 5, 6] rfl)
                  · have z5 : kq ≤ S2.length := Nat.not_lt.mp (fun z => z5 ((nI_ltI (by omega) (by omega)).mpr z))
                    have hSk : S2.length = kq := by omega
                    have hlast := hl2.last (by omega)
                    rw [hSk] at hlast
                    refine lv_lload hx hb dX7_nearest_271 (lv_at hl 0 rfl) ?_
                    refine lv_lload hx hb dX7_nearest_273 (lv_at hl 0 rfl) ?_
                    refine lv_lmul hx hb dX7_nearest_275 ?_
                    refine lv_aload_n hx hb dX7_nearest_276 rfl (lv_at hl 5 rfl) ?_
                    refine g_get (C := RX7) (T := TX7) (N := 31) hx hb hts hi7 hown hN hW.1 hk.1 rfl (by decide) 26 (by decide) hfX7_75 (v := .ref (B 26)) (hfG 26 rfl) dX7_nearest_277 ?_
                    refine lv_iload_n hx hb dX7_nearest_280 rfl (lv_at hl 6 rfl) ?_
                    refine lv_iconst (v := nI 1) hx hb dX7_nearest_281 (by decide) ?_
                    refine lv_isub hx hb dX7_nearest_282 ?_
                    refine g_asi (show _ = nI (kq - 1) from pk_sub (by omega)) ?_
                    refine g_lald (j := kq - 1) hx hb hN hW.1 (hk.2.1 26 (9, 100) rfl) (by decide) (show _ = nI (kq - 1) from rfl) (by omega) (v := .long (lastD S2)) hlast dX7_nearest_283 ?_
                    refine W.lcmp hx hb dX7_nearest_284 ?_
                    refine lv_if_gt (tgt := 292) hx hb dX7_nearest_285 (by decide) (fun z6 => ?_) (fun z6 => ?_)
                    · have z6 : _ := (lg_cmp_gt _ _).mp z6
                      refine lv_iconst (v := nI 0) hx hb dX7_nearest_292 (by decide) ?_
                      refine g_asi (show _ = bI (!(shut kq S2 (sqI (q ax - y.2.1.2 ax)))) from by unfold shut; rw [decide_eq_true ⟨by omega, Or.inr z6⟩]; rfl) ?_
                      exact j293 ls (lv_sub hl [0, 2, 3, 4, 1, 5, 6] rfl)
                    · have z6 : ¬ _ := fun z => z6 ((lg_cmp_gt _ _).mpr z)
                      refine lv_iconst (v := nI 1) hx hb dX7_nearest_288 (by decide) ?_
                      refine lv_goto (tgt := 293) hx hb dX7_nearest_289 (by decide) ?_
                      refine g_asi (show _ = bI (!(shut kq S2 (sqI (q ax - y.2.1.2 ax)))) from by unfold shut; rw [decide_eq_false (fun z => z.2.elim (fun z => by omega) (fun z => z6 z))]; rfl) ?_
                      exact j293 ls (lv_sub hl [0, 2, 3, 4, 1, 5, 6] rfl)
              · have z3 : true = false := bI_0.mp z3
                exact absurd z3 (by decide)
            refine pre false F4 H locs ls hfr4 h18 h29 hW hl (fun ls hl => ?_)
            have hf4 := frf F4 hfr4
            refine lv_if_ne (tgt := 233) hx hb dX7_nearest_161 (by decide) (fun z3 => ?_) (fun z3 => ?_)
            · have z3 : false = true := bI_n0.mp z3
              exact absurd z3 (by decide)
            · have z3 : false = false := bI_0.mp z3
              refine lv_aload_n hx hb dX7_nearest_164 rfl (lv_at hl 4 rfl) ?_
              refine g_get (C := RX7) (T := TX7) (N := 31) hx hb hts hi7 hown hN hW.1 hk.1 rfl (by decide) 29 (by decide) hfX7_79 (v := .ref (B 29)) (hf4 29 rfl) dX7_nearest_165 ?_
              refine lv_iload hx hb dX7_nearest_168 (lv_at hl 3 rfl) ?_
              refine lv_iconst (v := nI 1) hx hb dX7_nearest_170 (by decide) ?_
              refine lv_isub hx hb dX7_nearest_171 ?_
              refine g_asi (show _ = nI o from pk_sub (by omega)) ?_
              refine lv_iconst (v := nI 1) hx hb dX7_nearest_172 (by decide) ?_
              refine g_zast (j := o) hx hb hN hW (hk.2.1 29 (10, 140) rfl) (by decide) rfl (show _ = nI o from rfl) (by omega) dX7_nearest_173 (fun H locs hW => ?_)
              refine lv_aload_n hx hb dX7_nearest_174 rfl (lv_at hl 4 rfl) ?_
              refine lv_dup hx hb dX7_nearest_175 rfl ?_
              refine g_get (C := RX7) (T := TX7) (N := 31) hx hb hts hi7 hown hN hW.1 hk.1 rfl (by decide) 28 (by decide) hfX7_159 (v := .int (nI lk1)) ((gU_a (Ne.symm (hk.nm (i := 29) rfl))).trans h284) dX7_nearest_176 ?_
              refine lv_iconst (v := nI 1) hx hb dX7_nearest_179 (by decide) ?_
              refine lv_iadd hx hb dX7_nearest_180 ?_
              refine g_asi (show _ = nI (lk1 + 1) from (nI_add _ _).trans (by rfl)) ?_
              refine g_put (C := RX7) (T := TX7) (N := 31) hx hb hts hi7 tyX7 tyX7_ok nmX7 hown hN hW hk.1 rfl (by decide) 28 (by decide) hfX7_159 rfl rfl rfl dX7_nearest_181 (fun H locs hW => ?_)
              obtain ⟨G6, hG6⟩ : ∃ f, f = (gU (gU F4 (B 29) o (.int (nI 1))) m9 28 (.int (nI (lk1 + 1)))) := ⟨_, rfl⟩
              rw [← hG6] at hW
              have g6 : ∀ b i, ¬ (b = B 29 ∧ i = o) → ¬ (b = m9 ∧ i = 28) → G6 b i = F4 b i := fun b i h1 h2 => by rw [hG6, gU_ne h2, gU_ne h1]
              have g629 : G6 (B 29) o = .int (bI true) := by rw [hG6, gU_a (hk.nm (i := 29) rfl), gU_self]; rfl
              have g628 : G6 m9 28 = .int (nI (lk1 + 1)) := by rw [hG6, gU_self]
              have g6F : (∀ b i, b ≠ B 18 → b ≠ B 29 → b ≠ B 25 → b ≠ B 26 → ¬ (b = m9 ∧ (i = 27 ∨ i = 28)) → G6 b i = F3 b i) := fun b i h1 h2 h3 h4 h5 => (g6 b i (fun z => h2 z.1) (fun z => h5 ⟨z.1, Or.inr z.2⟩)).trans (hfr4 b i h1 h2 h3 h4 h5)
              have g6l : RSl G6 m9 B S1 := ⟨(g6 _ _ (fun z => hk.nm (i := 29) rfl z.1.symm) (fun z => absurd z.2 (by decide))).trans hl4.1, hl4.2.1.keep (fun j _ _ => g6 _ _ (fun z => absurd z.1 (hk.ne (i := 25) (j := 29) rfl rfl (by decide))) (fun z => hk.nm (i := 25) rfl z.1)), hl4.2.2.keep (fun j _ _ => g6 _ _ (fun z => absurd z.1 (hk.ne (i := 26) (j := 29) rfl rfl (by decide))) (fun z => hk.nm (i := 26) rfl z.1))⟩
              have g618 : ∀ i, G6 (B 18) i = F4 (B 18) i := fun i => g6 _ i (fun z => absurd z.1 (hk.ne (i := 18) (j := 29) rfl rfl (by decide))) (fun z => hk.nm (i := 18) rfl z.1)
              have g629' : ∀ i, i ≠ o → G6 (B 29) i = F4 (B 29) i := fun i hi => g6 _ i (fun z => hi z.2) (fun z => hk.nm (i := 29) rfl z.1)
              clear hG6
              have hf6 := frf G6 g6F
              have j206 : ∀ (G7 : gF) (H : Heap) (locs : List Loc) (ls : Array Slot), RSl G7 m9 B S3 → S3.length ≤ kq → (∀ z ∈ S3, z.1 < 100) → G7 m9 28 = .int (nI (lk1 + 1)) → G7 (B 18) o = .int (nI y.1) → G7 (B 29) o = .int (bI true) → (∀ b i, b ≠ B 18 → b ≠ B 29 → b ≠ B 25 → b ≠ B 26 → ¬ (b = m9 ∧ (i = 27 ∨ i = 28)) → G7 b i = F3 b i) → (∀ i, i < o → G7 (B 18) i = F4 (B 18) i ∧ G7 (B 29) i = F4 (B 29) i) → gW Γ (gA K sz) s.heap K G7 H locs → lv_has ls 14 [(9, .int (bI b9)), (8, .int (nI ax)), (7, .int (nI y.1)), (6, .int (nI (o + 1))), (0, .ref m9), (1, .int (nI kq))] → W p l e (gRm 2 0 0) s m args below meth c H locs 0 0 Z (F0 m 206 ls []) := by
                intro G7 H locs ls hl7 hlen7 hid7 h287 h187 h297 hG7 hbel7 hW hl
                have hf7 := frf G7 hG7
                have j228 : ∀ (ls : Array Slot), lv_has ls 14 [(9, .int (bI b9)), (8, .int (nI ax)), (7, .int (nI y.1)), (6, .int (nI (o + 1))), (0, .ref m9), (1, .int (nI kq))] → W p l e (gRm 2 0 0) s m args below meth c H locs 0 0 Z (F0 m 228 ls [.int (oI (rtI N))]) := by
                  intro ls hl
                  refine lv_istore (lv' := [(10, .int (oI (rtI N))), (9, .int (bI b9)), (8, .int (nI ax)), (7, .int (nI y.1)), (6, .int (nI (o + 1))), (0, .ref m9), (1, .int (nI kq))]) hx hb dX7_nearest_228 hl (by decide) rfl (fun ls hl => ?_)
                  refine lv_goto (tgt := 328) hx hb dX7_nearest_230 (by decide) ?_
                  refine lv_iload hx hb dX7_nearest_328 (lv_at hl 0 rfl) ?_
                  refine lv_iconst (v := (-1)) hx hb dX7_nearest_330 (by decide) ?_
                  refine lv_icmp_eq (tgt := 354) hx hb dX7_nearest_331 (by decide) (fun z10 => ?_) (fun z10 => ?_)
                  · have hno : rtI N = none := (oI_none (fun n hn => Nat.lt_trans (RX_root hXN hn) (by decide))).mp z10
                    rw [srchG_leaf _ _ _ _ N (rtI_rt hno)] at hsr
                    refine lv_goto (tgt := 94) hx hb dX7_nearest_354 (by decide) ?_
                    exact pass2 S3 (lk1 + 1) G7 H locs ls hsr hl7 hlen7 hid7 h287 h187 h297 hG7 hbel7 hW (lv_sub hl [4, 5, 6] rfl)
                  · obtain ⟨rN, hrN⟩ : ∃ r, rtI N = some r := by
                      cases h9 : rtI N with
                      | none => rw [h9] at z10; exact absurd rfl z10
                      | some r => exact ⟨r, rfl⟩
                    have hrN2 := RX_root hXN hrN
                    have hpN := rtI_pos hrN
                    refine lv_aload_n hx hb dX7_nearest_334 rfl (lv_at hl 5 rfl) ?_
                    refine g_get (C := RX7) (T := TX7) (N := 31) hx hb hts hi7 hown hN hW.1 hk.1 rfl (by decide) 18 (by decide) hfX7_51 (v := .ref (B 18)) (hf7 18 rfl) dX7_nearest_335 ?_
                    refine lv_iload hx hb dX7_nearest_338 (lv_at hl 4 rfl) ?_
                    refine lv_iload hx hb dX7_nearest_340 (lv_at hl 0 rfl) ?_
                    refine g_iast (j := o + 1) hx hb hN hW (hk.2.1 18 (8, 140) rfl) (by decide) (show _ = nI (o + 1) from rfl) (by omega) dX7_nearest_342 (fun H locs hW => ?_)
                    refine lv_aload_n hx hb dX7_nearest_343 rfl (lv_at hl 5 rfl) ?_
                    refine g_get (C := RX7) (T := TX7) (N := 31) hx hb hts hi7 hown hN hW.1 hk.1 rfl (by decide) 29 (by decide) hfX7_79 (v := .ref (B 29)) ((gU_a (Ne.symm (hk.nm (i := 18) rfl))).trans (hf7 29 rfl)) dX7_nearest_344 ?_
                    refine lv_iload hx hb dX7_nearest_347 (lv_at hl 4 rfl) ?_
                    refine lv_iconst (v := nI 0) hx hb dX7_nearest_349 (by decide) ?_
                    refine g_zast (j := o + 1) hx hb hN hW (hk.2.1 29 (10, 140) rfl) (by decide) rfl (show _ = nI (o + 1) from rfl) (by omega) dX7_nearest_350 (fun H locs hW => ?_)
                    refine lv_iinc (v := nI ((o + 1) + 1)) (lv' := [(6, .int (nI ((o + 1) + 1))), (10, .int (oI (rtI N))), (9, .int (bI b9)), (8, .int (nI ax)), (7, .int (nI y.1)), (0, .ref m9), (1, .int (nI kq))]) hx hb dX7_nearest_351 hl (k := 4) rfl (inc1 _) (by decide) rfl (fun ls hl => ?_)
                    refine lv_goto (tgt := 94) hx hb dX7_nearest_354 (by decide) ?_
                    refine ih N ((b9, y, O9) :: cx) rN (o + 1) (lk1 + 1) S3 (gU (gU G7 (B 18) (o + 1) (.int (oI (rtI N)))) (B 29) (o + 1) (.int (nI 0))) H locs ls (by omega) hXN hCN hrN hsN (by rw [List.length_cons]; omega) (by omega) (fun b i h1 h2 h3 h4 h5 => by rw [gU_a h2, gU_a h1]; exact hG7 b i h1 h2 h3 h4 h5) ⟨(gU_a (Ne.symm (hk.nm (i := 29) rfl))).trans ((gU_a (Ne.symm (hk.nm (i := 18) rfl))).trans hl7.1), hl7.2.1.keep (fun j _ _ => (gU_a (hk.ne (i := 25) (j := 29) rfl rfl (by decide))).trans (gU_a (hk.ne (i := 25) (j := 18) rfl rfl (by decide)))), hl7.2.2.keep (fun j _ _ => (gU_a (hk.ne (i := 26) (j := 29) rfl rfl (by decide))).trans (gU_a (hk.ne (i := 26) (j := 18) rfl rfl (by decide))))⟩ hlen7 hid7 ((gU_a (Ne.symm (hk.nm (i := 29) rfl))).trans ((gU_a (Ne.symm (hk.nm (i := 18) rfl))).trans h287)) ((gU_a (hk.ne (i := 18) (j := 29) rfl rfl (by decide))).trans (gU_self.trans (by rw [hrN]; rfl))) gU_self hW (lv_sub hl [0, 5, 6] rfl) (fun F5 H locs ls g1 g2 g3 g4 g5 g6 hW hl => ?_)
                    obtain ⟨st2, hst2⟩ : ∃ st2, st2 = srchG (fun y : mLb => y.2) kq d q N (cx.length + 1) (S3, lk1 + 1) := ⟨_, rfl⟩
                    rw [← hst2] at hsr
                    have hst2' : srchG (fun y : mLb => y.2) kq d q N ((b9, y, O9) :: cx).length (S3, lk1 + 1) = st2 := hst2.symm
                    rw [hst2'] at g1 g2 g3 g4
                    have u1 := g6 o (by omega)
                    exact pass2 st2.1 st2.2 F5 H locs ls hsr g1 g3 g4 g2 ((u1.1.trans ((gU_a (hk.ne (i := 18) (j := 29) rfl rfl (by decide))).trans (gU_k (by omega)))).trans h187) ((u1.2.trans ((gU_k (by omega)).trans (gU_a (hk.ne (i := 29) (j := 18) rfl rfl (by decide))))).trans h297) g5 (fun i hi => ⟨((g6 i (by omega)).1.trans ((gU_a (hk.ne (i := 18) (j := 29) rfl rfl (by decide))).trans (gU_k (by omega)))).trans (hbel7 i hi).1, ((g6 i (by omega)).2.trans ((gU_k (by omega)).trans (gU_a (hk.ne (i := 29) (j := 18) rfl rfl (by decide))))).trans (hbel7 i hi).2⟩) hW hl
                refine lv_iload hx hb dX7_nearest_206 (lv_at hl 0 rfl) ?_
                refine lv_if_eq (tgt := 221) hx hb dX7_nearest_208 (by decide) (fun z9 => ?_) (fun z9 => ?_)
                · have z9 : b9 = false := bI_0.mp z9
                  refine lv_aload_n hx hb dX7_nearest_221 rfl (lv_at hl 4 rfl) ?_
                  refine g_get (C := RX7) (T := TX7) (N := 31) hx hb hts hi7 hown hN hW.1 hk.1 rfl (by decide) 11 (by decide) hfX7_39 (v := .ref (B 11)) (hf7 11 rfl) dX7_nearest_222 ?_
                  refine lv_iload hx hb dX7_nearest_225 (lv_at hl 2 rfl) ?_
                  refine g_iald (j := y.1) hx hb hN hW.1 (hk.2.1 11 (8, 140) rfl) (by decide) (show _ = nI y.1 from rfl) (by omega) (v := .int (oI (rtI R))) ((frj G7 hG7 11 _ rfl (by decide) (by decide) (by decide) (by decide)).trans hlR) dX7_nearest_227 ?_
                  refine g_asi (show _ = oI (rtI N) from by rw [hN9, z9]; rfl) ?_
                  exact j228 ls hl
                · have z9 : b9 = true := bI_n0.mp z9
                  refine lv_aload_n hx hb dX7_nearest_211 rfl (lv_at hl 4 rfl) ?_
                  refine g_get (C := RX7) (T := TX7) (N := 31) hx hb hts hi7 hown hN hW.1 hk.1 rfl (by decide) 10 (by decide) hfX7_36 (v := .ref (B 10)) (hf7 10 rfl) dX7_nearest_212 ?_
                  refine lv_iload hx hb dX7_nearest_215 (lv_at hl 2 rfl) ?_
                  refine g_iald (j := y.1) hx hb hN hW.1 (hk.2.1 10 (8, 140) rfl) (by decide) (show _ = nI y.1 from rfl) (by omega) (v := .int (oI (rtI L))) ((frj G7 hG7 10 _ rfl (by decide) (by decide) (by decide) (by decide)).trans hlN) dX7_nearest_217 ?_
                  refine lv_goto (tgt := 228) hx hb dX7_nearest_218 (by decide) ?_
                  refine g_asi (show _ = oI (rtI N) from by rw [hN9, z9]; rfl) ?_
                  exact j228 ls hl
              refine lv_aload_n hx hb dX7_nearest_184 rfl (lv_at hl 4 rfl) ?_
              refine g_get (C := RX7) (T := TX7) (N := 31) hx hb hts hi7 hown hN hW.1 hk.1 rfl (by decide) 9 (by decide) hfX7_33 (v := .ref (B 9)) (hf6 9 rfl) dX7_nearest_185 ?_
              refine lv_iload hx hb dX7_nearest_188 (lv_at hl 2 rfl) ?_
              refine g_zald (j := y.1) hx hb hN hW.1 (hk.2.1 9 (10, 140) rfl) (by decide) (show _ = nI y.1 from rfl) (by omega) (v := .int (bI (!y.2.2))) ((frj G6 g6F 9 _ rfl (by decide) (by decide) (by decide) (by decide)).trans hXn.2.2.2.2.1) dX7_nearest_190 ?_
              refine lv_if_eq (tgt := 206) hx hb dX7_nearest_191 (by decide) (fun z4 => ?_) (fun z4 => ?_)
              · have z4 : (!y.2.2) = false := bI_0.mp z4
                have hdd : y.2.2 = true := by simpa using z4
                rw [if_pos hdd] at hS3
                exact j206 G6 H locs ls (by rw [hS3]; exact g6l) (by rw [hS3]; exact hS1) (by rw [hS3]; exact hS1i) g628 ((g618 o).trans h18) g629 g6F (fun i hi => ⟨g618 i, g629' i (by omega)⟩) hW (lv_sub hl [0, 1, 2, 3, 4, 5] rfl)
              · have z4 : (!y.2.2) = true := bI_n0.mp z4
                have hdd : y.2.2 = false := by simpa using z4
                rw [if_neg (by rw [hdd]; decide)] at hS3
                refine lv_aload_n hx hb dX7_nearest_194 rfl (lv_at hl 4 rfl) ?_
                refine lv_aload_n hx hb dX7_nearest_195 rfl (lv_at hl 4 rfl) ?_
                refine g_get (C := RX7) (T := TX7) (N := 31) hx hb hts hi7 hown hN hW.1 hk.1 rfl (by decide) 7 (by decide) hfX7_27 (v := .ref (B 7)) (hf6 7 rfl) dX7_nearest_196 ?_
                refine lv_iload hx hb dX7_nearest_199 (lv_at hl 2 rfl) ?_
                refine g_iald (j := y.1) hx hb hN hW.1 (hk.2.1 7 (8, 140) rfl) (by decide) (show _ = nI y.1 from rfl) (by omega) (v := .int (nI y.2.1.1)) ((frj G6 g6F 7 _ rfl (by decide) (by decide) (by decide) (by decide)).trans hXn.2.2.1) dX7_nearest_201 ?_
                refine lv_iload_n hx hb dX7_nearest_202 rfl (lv_at hl 5 rfl) ?_
                refine g_mV (As := [.int (nI y.2.1.1), .int (nI kq)]) (b := m9) (rest := []) hx hb hml hown hts hN hW (m_come l Γ K G6 H.size m9 B hk hf6 y.2.1.1 kq hXn.2.1 q y.2.1.2 (fun a ha => (frj G6 g6F 24 a rfl (by decide) (by decide) (by decide) (by decide)).trans (ha3 a ha)) (fun a ha => (frj G6 g6F 3 _ rfl (by decide) (by decide) (by decide) (by decide)).trans (hlab1 hdd a ha)) S1 g6l hS1 (by omega) hS1i) gX7_nearest_X7_come rfl hk.1 (by decide) rfl (na := 2) rfl (by decide +kernel) ⟨by decide, by decide⟩ ⟨Nat.le_of_ble_eq_true rfl, Nat.le_of_ble_eq_true rfl⟩ rfl hl.1 (Nat.le_of_ble_eq_true rfl) dX7_nearest_203 (fun v K' G7 H locs hp hW hsz' => ?_)
                obtain ⟨rfl, hK9, hl7, hfr7⟩ := hp
                subst K'
                show W _ _ _ _ _ _ _ _ _ _ _ _ _ _ _ (F0 m 206 ls [])
                rw [← hS3] at hl7
                refine j206 G7 H locs ls hl7 (by rw [hS3]; exact offL_len) (fun z hz => ?_) ((hfr7 _ _ (fun z => hk.nm (i := 25) rfl z.symm) (fun z => hk.nm (i := 26) rfl z.symm) (fun z => absurd z.2 (by decide))).trans g628) ((hfr7 _ _ (hk.ne (i := 18) (j := 25) rfl rfl (by decide)) (hk.ne (i := 18) (j := 26) rfl rfl (by decide)) (fun z => hk.nm (i := 18) rfl z.1)).trans ((g618 o).trans h18)) ((hfr7 _ _ (hk.ne (i := 29) (j := 25) rfl rfl (by decide)) (hk.ne (i := 29) (j := 26) rfl rfl (by decide)) (fun z => hk.nm (i := 29) rfl z.1)).trans g629) (fun b i h1 h2 h3 h4 h5 => (hfr7 b i h3 h4 (fun z => h5 ⟨z.1, Or.inl z.2⟩)).trans (g6F b i h1 h2 h3 h4 h5)) (fun i hi => ⟨(hfr7 _ _ (hk.ne (i := 18) (j := 25) rfl rfl (by decide)) (hk.ne (i := 18) (j := 26) rfl rfl (by decide)) (fun z => hk.nm (i := 18) rfl z.1)).trans (g618 i), (hfr7 _ _ (hk.ne (i := 29) (j := 25) rfl rfl (by decide)) (hk.ne (i := 29) (j := 26) rfl rfl (by decide)) (fun z => hk.nm (i := 29) rfl z.1)).trans (g629' i (by omega))⟩) hW (lv_sub hl [0, 1, 2, 3, 4, 5] rfl)
                rw [hS3] at hz
                rcases offL_mem hz with e | e
                · rw [e]; exact hXn.2.1
                · exact hS1i z e
        have hmp : srchG (fun y : mLb => y.2) kq d q tr 0 ([], 0) = srchG (fun y : gLb => y) kq d (mkC d xx yy zz ww) t 0 ([], 0) := by rw [hq, ← htr.1]; exact (srchG_map (fun y : mLb => y.2) (fun y : gLb => y) kq d _ tr 0 ([], 0)).symm
        have fin : ∀ (F5 : gF) (H : Heap) (locs : List Loc) (ls : Array Slot), RSl F5 m9 B (srchG (fun y : mLb => y.2) kq d q tr 0 ([], 0)).1 → F5 m9 28 = .int (nI (srchG (fun y : mLb => y.2) kq d q tr 0 ([], 0)).2) → (∀ b i, b ≠ B 18 → b ≠ B 29 → b ≠ B 25 → b ≠ B 26 → ¬ (b = m9 ∧ (i = 27 ∨ i = 28)) → F5 b i = F3 b i) → gW Γ (gA K sz) s.heap K F5 H locs → lv_has ls 14 [(6, .int (nI 0)), (0, .ref m9), (1, .int (nI kq))] → W p l e (gRm 2 0 0) s m args below meth c H locs 0 0 Z (F0 m 94 ls []) := by
          intro F5 H locs ls g1 g2 g5 hW hl
          rw [hmp] at g1 g2
          obtain ⟨st9, hst9⟩ : ∃ st9, st9 = srchG (fun y : gLb => y) kq d (mkC d xx yy zz ww) t 0 ([], 0) := ⟨_, rfl⟩
          rw [← hst9] at g1 g2
          refine lv_iload hx hb dX7_nearest_94 (lv_at hl 0 rfl) ?_
          refine lv_if_le (tgt := 357) hx hb dX7_nearest_96 (by decide) (fun z1 => ?_) (fun z1 => ?_)
          · have z1 : 0 = 0 := (nI_le0 (by omega)).mp z1
            refine lv_aload_n hx hb dX7_nearest_357 rfl (lv_at hl 1 rfl) ?_
            refine g_get (C := RX7) (T := TX7) (N := 31) hx hb hts hi7 hown hN hW.1 hk.1 rfl (by decide) 27 (by decide) hfX7_150 (v := .int (nI st9.1.length)) g1.1 dX7_nearest_358 ?_
            have gm : ∀ i, i ≠ 27 → i ≠ 28 → F5 m9 i = G m9 i := fun i h1 h2 => (g5 _ i (fun z => hk.nm (i := 18) rfl z.symm) (fun z => hk.nm (i := 29) rfl z.symm) (fun z => hk.nm (i := 25) rfl z.symm) (fun z => hk.nm (i := 26) rfl z.symm) (fun z => z.2.elim h1 h2)).trans (hm3 i h1 h2)
            have hR5 : RS F5 m9 B d P t st9.1 st9.2 bc bg bp := RS_list hRG (fun j h1 h2 h3 => gm j h2 h3) (fun j i hj => (g5 _ i (hk.ne (JK2_some hj).1 rfl (JK2_some hj).2.2.1) (hk.ne (JK2_some hj).1 rfl (JK2_some hj).2.2.2.2.2.2.2.1) (hk.ne (JK2_some hj).1 rfl (JK2_some hj).2.2.2.2.2.1) (hk.ne (JK2_some hj).1 rfl (JK2_some hj).2.2.2.2.2.2.1) (fun z => hk.nm (JK2_some hj).1 z.1)).trans (e3j j i (JK2_some hj).1 (JK2_some hj).2.2.2.2.1)) g1 g2
            exact hret (some (.int (nI st9.1.length))) _ _ _ _ _ _ hW (⟨0, nI st9.1.length, rfl, rfl, (gm 0 (by decide) (by decide)).trans hG0, Or.inr (Or.inr ⟨rfl, ⟨c1, c2⟩, trivial⟩), fun z => absurd rfl z, fun _ k2 hk2 e2 => by have e2 := nI_inj (by omega) (by omega) e2; subst e2; rw [← hst9]; exact ⟨rfl, hR5⟩⟩) (rt_i dX7_nearest_361)
          · have z1 : 0 < 0 := Nat.pos_of_ne_zero (fun z => z1 ((nI_le0 (by omega)).mpr z))
            exact absurd z1 (by decide)
        refine lv_iconst (v := nI 0) hx hb dX7_nearest_63 (by decide) ?_
        refine lv_istore (lv' := [(6, .int (nI 0)), (0, .ref m9), (1, .int (nI kq)), (2, .int xx), (3, .int yy), (4, .int zz), (5, .int ww)]) hx hb dX7_nearest_64 hl (by decide) rfl (fun ls hl => ?_)
        refine lv_aload_n hx hb dX7_nearest_66 rfl (lv_at hl 1 rfl) ?_
        refine g_get (C := RX7) (T := TX7) (N := 31) hx hb hts hi7 hown hN hW.1 hk.1 rfl (by decide) 13 (by decide) hfX7_45 (v := .int (oI (rtI tr))) htr3.2.2.1 dX7_nearest_67 ?_
        refine lv_iconst (v := (-1)) hx hb dX7_nearest_70 (by decide) ?_
        refine lv_icmp_eq (tgt := 94) hx hb dX7_nearest_71 (by decide) (fun z1 => ?_) (fun z1 => ?_)
        · have hno : rtI tr = none := (oI_none (fun n hn => Nat.lt_trans (RX_root htr3.2.1 hn) (by decide))).mp z1
          exact fin F3 H locs ls (by rw [srchG_leaf _ _ _ _ tr (rtI_rt hno)]; exact hl3) (by rw [srchG_leaf _ _ _ _ tr (rtI_rt hno)]; exact h28) (fun _ _ _ _ _ _ _ => rfl) hW (lv_sub hl [0, 1, 2] rfl)
        · obtain ⟨r9, hr9⟩ : ∃ r, rtI tr = some r := by
            cases h9 : rtI tr with
            | none => rw [h9] at z1; exact absurd rfl z1
            | some r => exact ⟨r, rfl⟩
          have htsz : tSz tr ≤ 120 := by
            have q1 := hAS.2.2.2.2.1
            have q2 := hAS.2.2.2.2.2.1
            rw [← htr.1, tSz_map] at q1
            omega
          refine lv_aload_n hx hb dX7_nearest_74 rfl (lv_at hl 1 rfl) ?_
          refine g_get (C := RX7) (T := TX7) (N := 31) hx hb hts hi7 hown hN hW.1 hk.1 rfl (by decide) 18 (by decide) hfX7_51 (v := .ref (B 18)) (hf3 18 rfl) dX7_nearest_75 ?_
          refine lv_iconst (v := nI 0) hx hb dX7_nearest_78 (by decide) ?_
          refine lv_aload_n hx hb dX7_nearest_79 rfl (lv_at hl 1 rfl) ?_
          refine g_get (C := RX7) (T := TX7) (N := 31) hx hb hts hi7 hown hN hW.1 hk.1 rfl (by decide) 13 (by decide) hfX7_45 (v := .int (oI (rtI tr))) htr3.2.2.1 dX7_nearest_80 ?_
          refine g_iast (j := 0) hx hb hN hW (hk.2.1 18 (8, 140) rfl) (by decide) (show _ = nI 0 from rfl) (by omega) dX7_nearest_83 (fun H locs hW => ?_)
          refine lv_aload_n hx hb dX7_nearest_84 rfl (lv_at hl 1 rfl) ?_
          refine g_get (C := RX7) (T := TX7) (N := 31) hx hb hts hi7 hown hN hW.1 hk.1 rfl (by decide) 29 (by decide) hfX7_79 (v := .ref (B 29)) ((gU_a (Ne.symm (hk.nm (i := 18) rfl))).trans (hf3 29 rfl)) dX7_nearest_85 ?_
          refine lv_iconst (v := nI 0) hx hb dX7_nearest_88 (by decide) ?_
          refine lv_iconst (v := nI 0) hx hb dX7_nearest_89 (by decide) ?_
          refine g_zast (j := 0) hx hb hN hW (hk.2.1 29 (10, 140) rfl) (by decide) rfl (show _ = nI 0 from rfl) (by omega) dX7_nearest_90 (fun H locs hW => ?_)
          refine lv_iconst (v := nI 1) hx hb dX7_nearest_91 (by decide) ?_
          refine lv_istore (lv' := [(6, .int (nI 1)), (0, .ref m9), (1, .int (nI kq)), (2, .int xx), (3, .int yy), (4, .int zz), (5, .int ww)]) hx hb dX7_nearest_92 hl (by decide) rfl (fun ls hl => ?_)
          refine srch (tSz tr) tr [] r9 0 0 [] (gU (gU F3 (B 18) 0 (.int (oI (rtI tr)))) (B 29) 0 (.int (nI 0))) H locs ls (Nat.le_refl _) htr3.2.1 htr3.2.2.1 hr9 (fun _ h => h) (by rw [List.length_nil]; omega) (by omega) (fun b i h1 h2 h3 h4 h5 => by rw [gU_a h2, gU_a h1]) ⟨(gU_a (Ne.symm (hk.nm (i := 29) rfl))).trans ((gU_a (Ne.symm (hk.nm (i := 18) rfl))).trans hl3.1), rowL.nil, rowL.nil⟩ (Nat.zero_le _) (fun y hy => by cases hy) ((gU_a (Ne.symm (hk.nm (i := 29) rfl))).trans ((gU_a (Ne.symm (hk.nm (i := 18) rfl))).trans h28)) ((gU_a (hk.ne (i := 18) (j := 29) rfl rfl (by decide))).trans (gU_self.trans (by rw [hr9]; rfl))) gU_self hW (lv_sub hl [0, 1, 2] rfl) (fun F5 H locs ls g1 g2 g3 g4 g5 g6 hW hl => ?_)
          exact fin F5 H locs ls g1 g2 g5 hW hl
      · have e1 : 0 < 0 := Nat.pos_of_ne_zero (fun z => e1 ((nI_le0 (by omega)).mpr z))
        exact absurd e1 (by decide)
    · have c2 : (okPl d xx yy zz ww) = false := bI_0.mp c2
      refine lv_iconst (v := nI 1) hx hb dX7_nearest_26 (by decide) ?_
      refine lv_goto (tgt := 31) hx hb dX7_nearest_27 (by decide) ?_
      refine g_put (C := RX7) (T := TX7) (N := 31) hx hb hts hi7 tyX7 tyX7_ok nmX7 hown hN hW hk.1 rfl (by decide) 0 (by decide) hfX7_1 rfl rfl rfl dX7_nearest_31 (fun H locs hW => ?_)
      refine lv_aload_n hx hb dX7_nearest_34 rfl (lv_at hl 0 rfl) ?_
      refine g_get (C := RX7) (T := TX7) (N := 31) hx hb hts hi7 hown hN hW.1 hk.1 rfl (by decide) 0 (by decide) hfX7_1 (v := .int (nI 1)) gU_self dX7_nearest_35 ?_
      refine lv_if_le (tgt := 43) hx hb dX7_nearest_38 (by decide) (fun e1 => ?_) (fun e1 => ?_)
      · have e1 : 1 = 0 := (nI_le0 (by omega)).mp e1
        exact absurd e1 (by decide)
      · have e1 : 0 < 1 := Nat.pos_of_ne_zero (fun z => e1 ((nI_le0 (by omega)).mpr z))
        refine lv_iconst (v := nI 0) hx hb dX7_nearest_41 (by decide) ?_
        exact hret (some (.int (nI 0))) _ _ _ _ _ _ hW (⟨1, nI 0, rfl, rfl, gU_self, Or.inl ⟨rfl, fun z => by rw [c2] at z; exact absurd z.2 (by decide)⟩, (fun _ => hR.thr hk), fun z => absurd z (by decide)⟩) (rt_i dX7_nearest_42)
