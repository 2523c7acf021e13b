def ltL (ax : Nat) (a b : gLb) : Bool := pLess ax a.1 b.1
def lcP (P : Nat → Option (Nat → Int32)) : Nat := ((List.range 100).filter (fun i => (P i).isSome)).length
/-- what a tree of labels has to do with the points -/
def AS (P : Nat → Option (Nat → Int32)) (t : TT gLb) : Prop := (∀ y ∈ tPre t, y.2 = false → P y.1.1 = some y.1.2) ∧ (∀ i p, i < 100 → P i = some p → ((i, p), false) ∈ tPre t) ∧ (((tPre t).filter (fun y => !y.2)).map (fun y => y.1.1)).Nodup ∧ ((tPre t).filter (fun y => !y.2)).length = lcP P ∧ tSz t ≤ 2 * lcP P ∧ lcP P ≤ 60 ∧ ∀ y ∈ tPre t, y.1.1 < 100 ∧ ∀ a, a < 4 → okNum (y.1.2 a) = true
def RSt (F : gF) (m9 : Nat) (B : Nat → Nat) (t : TT gLb) (tr : TT mLb) : Prop := sndT tr = t ∧ RX F B tr none ∧ F m9 13 = .int (oI (rtI tr)) ∧ usL F B (ixT tr) ∧ (ixT tr).Nodup ∧ ∀ y ∈ tPre tr, y.2.2 = false → F (B 4) y.2.1.1 = .int (nI y.1)
def RSp (F : gF) (B : Nat → Nat) (P : Nat → Option (Nat → Int32)) : Prop := (∀ i, i < 100 → F (B 2) i = .int (bI (P i).isSome)) ∧ ∀ i p, i < 100 → P i = some p → ∀ a, a < 4 → F (B 3) (4 * i + a) = .int (p a)
def RSl (F : gF) (m9 : Nat) (B : Nat → Nat) (S : List (Nat × Int64)) : Prop := F m9 27 = .int (nI S.length) ∧ rowL F (B 25) 0 (S.map vId) ∧ rowL F (B 26) 0 (S.map vDi)
/-- the reference's state -/
def RS (F : gF) (m9 : Nat) (B : Nat → Nat) (d : Nat) (P : Nat → Option (Nat → Int32)) (t : TT gLb) (S : List (Nat × Int64)) (lk bc bg bp : Nat) : Prop :=
  MKf F m9 B ∧ F m9 1 = .int (nI d) ∧ RSp F B P ∧ F m9 5 = .int (nI (lcP P)) ∧ (∃ tr, RSt F m9 B t tr) ∧ RSl F m9 B S ∧ F m9 28 = .int (nI lk) ∧ F m9 14 = .int (nI bc) ∧ F m9 15 = .int (nI bg) ∧ F m9 16 = .int (nI bp)
def JK : List Nat := [2, 3, 4, 6, 7, 8, 9, 10, 11, 12, 25, 26]
theorem RSt_congr {F F' : gF} {m9 : Nat} {B : Nat → Nat} {t : TT gLb} {tr : TT mLb} (h : RSt F m9 B t tr) (hm : F' m9 13 = F m9 13) (hB : ∀ j i, j ∈ [4, 6, 7, 8, 9, 10, 11, 12] → F' (B j) i = F (B j) i) : RSt F' m9 B t tr :=
  ⟨h.1, RX_keep (fun j i h1 h2 => hB j i (by rcases (show j = 7 ∨ j = 8 ∨ j = 9 ∨ j = 10 ∨ j = 11 ∨ j = 12 by omega) with rfl | rfl | rfl | rfl | rfl | rfl <;> decide)) h.2.1, hm.trans h.2.2.1, fun j hj => (hB 6 j (by decide)).trans (h.2.2.2.1 j hj), h.2.2.2.2.1, fun y hy hd => (hB 4 _ (by decide)).trans (h.2.2.2.2.2 y hy hd)⟩
theorem RS_congr {F F' : gF} {m9 : Nat} {B : Nat → Nat} {d : Nat} {P : Nat → Option (Nat → Int32)} {t : TT gLb} {S : List (Nat × Int64)} {lk bc bg bp : Nat} (h : RS F m9 B d P t S lk bc bg bp) (hm : ∀ j, j ≠ 0 → F' m9 j = F m9 j) (hB : ∀ j i, j ∈ JK → F' (B j) i = F (B j) i) : RS F' m9 B d P t S lk bc bg bp := by
  obtain ⟨h1, h2, ⟨h3, h3'⟩, h5, ⟨tr, ht⟩, ⟨l1, l2, l3⟩, h28, h14, h15, h16⟩ := h
  exact ⟨h1.up (fun j hj => hm j (fun e => by rw [e] at hj; exact absurd hj (by decide))), (hm 1 (by decide)).trans h2, ⟨fun i hi => (hB 2 i (by decide)).trans (h3 i hi), fun i p hi hp a ha => (hB 3 _ (by decide)).trans (h3' i p hi hp a ha)⟩, (hm 5 (by decide)).trans h5, ⟨tr, RSt_congr ht (hm 13 (by decide)) (fun j i hj => hB j i (by
    rcases hj with _ | ⟨_, hj⟩
    · decide
    · unfold JK; exact List.mem_cons_of_mem _ (List.mem_cons_of_mem _ (List.mem_cons_of_mem _ (List.mem_append_left (as := [6, 7, 8, 9, 10, 11, 12]) [25, 26] hj))))) ⟩, ⟨(hm 27 (by decide)).trans l1, l2.keep (fun j _ _ => hB 25 j (by decide)), l3.keep (fun j _ _ => hB 26 j (by decide))⟩, (hm 28 (by decide)).trans h28, (hm 14 (by decide)).trans h14, (hm 15 (by decide)).trans h15, (hm 16 (by decide)).trans h16⟩
theorem JK_some {j : Nat} (h : j ∈ JK) : (mKd j).isSome = true := by
  revert j
  decide
theorem RS.thr {K : gK} {F : gF} {m9 : Nat} {B : Nat → Nat} {d : Nat} {P : Nat → Option (Nat → Int32)} {t : TT gLb} {S : List (Nat × Int64)} {lk bc bg bp : Nat} {v : Value} (hk : MKk K m9 B) (h : RS F m9 B d P t S lk bc bg bp) : RS (gU F m9 0 v) m9 B d P t S lk bc bg bp := RS_congr h (fun _ hj => gU_k hj) (fun _ _ hj => gU_a (hk.nm (JK_some hj)))
def thR (th : Nat) (C1 C2 : Prop) : Prop := (th = 1 ∧ ¬ C1) ∨ (th = 2 ∧ C1 ∧ ¬ C2) ∨ (th = 0 ∧ C1 ∧ C2)
theorem thR_uniq {a b : Nat} {C1 C2 : Prop} (h1 : thR a C1 C2) (h2 : thR b C1 C2) : a = b := by
  rcases h1 with ⟨e, p⟩ | ⟨e, p, q⟩ | ⟨e, p, q⟩ <;> rcases h2 with ⟨e', p'⟩ | ⟨e', p', q'⟩ | ⟨e', p', q'⟩
  all_goals first | omega | exact absurd p p' | exact absurd p' p | exact absurd q q' | exact absurd q' q
theorem in0 (i : Int32) (n : Nat) (hn : n < 1000) : decide ((0 : Int64) ≤ i.toInt64 ∧ i.toInt64 ≤ (nI n - nI 1).toInt64) = decide (¬ i < 0 ∧ i < nI n) := by
  have h : (nI n - nI 1).toInt = (n : Int) - 1 := by
    rw [Int32.toInt_sub, nI_toInt (by omega), nI_toInt (by decide)]
    exact Int.bmod_eq_of_le (by omega) (by omega)
  rw [decide_eq_decide, Int64.le_iff_toInt_le, Int64.le_iff_toInt_le, Int32.toInt_toInt64, Int32.toInt_toInt64, h, Int32.not_lt, Int32.le_iff_toInt_le, Int32.lt_iff_toInt_lt, nI_toInt (by omega), show (0 : Int64).toInt = 0 from by decide, show (0 : Int32).toInt = 0 from by decide]
  omega
theorem inL (i : Int32) (n : Nat) (hn : n < 1000) (N : Int64) (hN : N.toInt = (n : Int) - 1) : decide ((0 : Int64) ≤ i.toInt64 ∧ i.toInt64 ≤ N) = decide (¬ i < 0 ∧ i < nI n) := by
  rw [decide_eq_decide, Int64.le_iff_toInt_le, Int64.le_iff_toInt_le, Int32.toInt_toInt64, hN, Int32.not_lt, Int32.le_iff_toInt_le, Int32.lt_iff_toInt_lt, nI_toInt (by omega), show (0 : Int64).toInt = 0 from by decide, show (0 : Int32).toInt = 0 from by decide]
  omega
theorem inI (v lo hi : Int32) : decide (lo.toInt64 ≤ v.toInt64 ∧ v.toInt64 ≤ hi.toInt64) = decide (lo ≤ v ∧ v ≤ hi) := by
  rw [decide_eq_decide, Int64.le_iff_toInt_le, Int64.le_iff_toInt_le, Int32.toInt_toInt64, Int32.toInt_toInt64, Int32.toInt_toInt64, Int32.le_iff_toInt_le, Int32.le_iff_toInt_le]
theorem nI_inj {a b : Nat} (ha : a < 2 ^ 31) (hb : b < 2 ^ 31) (h : nI a = nI b) : a = b := (nI_eq ha hb).mp h

set_option maxHeartbeats 4000000 in
set_option maxRecDepth 100000 in
theorem m_at (l : Launch) (Γ : gG) (K : gK) (F : gF) (sz : Nat) (m9 : Nat) (B : Nat → Nat) (hk : MKk K m9 B) (d : Nat) (P : Nat → Option (Nat → Int32)) (t : TT gLb) (S : List (Nat × Int64)) (lk bc bg bp : Nat) (hR : RS F m9 B d P t S lk bc bg bp) (d9 ax : Int32) : gMM l yX7_at wsX7_at 2 0 0 Γ K F sz [.ref m9, .int d9, .int ax] (fun v K' F' => ∃ th r, v = some (.int r) ∧ K' = K ∧ F' m9 0 = .int (nI th) ∧ thR th (okId d9 = true ∧ ¬ ax < 0 ∧ ax < 4) (∃ i p, i < 100 ∧ d9 = nI i ∧ P i = some p) ∧ RS F' m9 B d P t S lk bc bg bp ∧ (th = 0 → ∀ i a p, i < 100 → a < 4 → d9 = nI i → ax = nI a → P i = some p → r = p a)) := by
  refine g_mM (cc := cX7_at) (maxL := 3) (ret := (some .int)) (by decide) rfl (Nat.le_of_ble_eq_true rfl) ?_
  intro p e s m args below meth c ls Z hsz hx hb hts hown hml hnm hN hW hret hl
  have hl : lv_has ls 3 [(0, .ref m9), (1, .int d9), (2, .int ax)] := hl
  have hown : s.vm.findClass RX7 = some m.cls := hown
  have hi7 : ∀ w ∈ wsX70, w ∈ wsX7_at := by decide +kernel
  have hfX7_1 : Cond.fieldLink RX7 1 (TX7 0).1 (TX7 0).2.1 (TX7 0).2.2.1 ∈ wsX7_at := by decide +kernel
  have hfX7_13 : Cond.fieldLink RX7 13 (TX7 2).1 (TX7 2).2.1 (TX7 2).2.2.1 ∈ wsX7_at := by decide +kernel
  have hfX7_17 : Cond.fieldLink RX7 17 (TX7 3).1 (TX7 3).2.1 (TX7 3).2.2.1 ∈ wsX7_at := by decide +kernel
  have hf := hR.1
  refine lv_aload_n hx hb dX7_at_0 rfl (lv_at hl 0 rfl) ?_
  refine lv_iload_n hx hb dX7_at_1 rfl (lv_at hl 1 rfl) ?_
  refine g_cS (v := (some (.int (bI (okId d9))))) (As := [.int d9]) (rest := [.ref m9]) hx hb hml hown hts hN hW.1 (m_isId l Γ K F d9) gX7_at_X7_isId rfl (na := 1) rfl (by decide +kernel) ⟨by decide, by decide⟩ ⟨Nat.zero_le _, Nat.zero_le _⟩ rfl hl.1 (Nat.le_of_ble_eq_true rfl) dX7_at_2 ?_
  show W _ _ _ _ _ _ _ _ _ _ _ _ _ _ _ (F0 m 5 ls [.int (bI (okId d9)), .ref m9])
  refine lv_if_eq (tgt := 20) hx hb dX7_at_5 (by decide) (fun c1 => ?_) (fun c1 => ?_)
  · have c1 : (okId d9) = false := bI_0.mp c1
    refine lv_iconst (v := nI 1) hx hb dX7_at_20 (by decide) ?_
    refine lv_goto (tgt := 38) hx hb dX7_at_21 (by decide) ?_
    refine g_put (C := RX7) (T := TX7) (N := 31) hx hb hts hi7 tyX7 tyX7_ok nmX7 hown hN hW hk.1 rfl (by decide) 0 (by decide) hfX7_1 rfl rfl rfl dX7_at_38 (fun H locs hW => ?_)
    refine lv_aload_n hx hb dX7_at_41 rfl (lv_at hl 0 rfl) ?_
    refine g_get (C := RX7) (T := TX7) (N := 31) hx hb hts hi7 hown hN hW.1 hk.1 rfl (by decide) 0 (by decide) hfX7_1 (v := .int (nI 1)) gU_self dX7_at_42 ?_
    refine lv_if_le (tgt := 52) hx hb dX7_at_45 (by decide) (fun e1 => ?_) (fun e1 => ?_)
    · have e1 : 1 = 0 := (nI_le0 (by omega)).mp e1
      exact absurd e1 (by decide)
    · have e1 : 0 < 1 := Nat.pos_of_ne_zero (fun z => e1 ((nI_le0 (by omega)).mpr z))
      refine lv_iconst (v := nI 0) hx hb dX7_at_48 (by decide) ?_
      refine lv_goto (tgt := 62) hx hb dX7_at_49 (by decide) ?_
      exact hret (some (.int (nI 0))) _ _ _ _ _ _ hW (⟨1, nI 0, rfl, rfl, gU_self, Or.inl ⟨rfl, fun z => by rw [c1] at z; exact absurd z.1 (by decide)⟩, hR.thr hk, fun z => absurd z (by decide)⟩) (rt_i dX7_at_62)
  · have c1 : (okId d9) = true := bI_n0.mp c1
    refine lv_iload_n hx hb dX7_at_8 rfl (lv_at hl 2 rfl) ?_
    refine lv_i2l (v := ax.toInt64) hx hb dX7_at_9 rfl ?_
    refine lv_lconst (v := 0) hx hb dX7_at_10 (by decide) ?_
    refine lv_ldc2 (v := 3) hx hb hown (hts _ (show Cond.constantLong RX7 144 (3) ∈ _ by decide +kernel)) dX7_at_11 ?_
    refine g_cS (v := (some (.int (bI (decide ((0 : Int64) ≤ ax.toInt64 ∧ ax.toInt64 ≤ 3)))))) (As := [.long ax.toInt64, .long 0, .long 3]) (rest := [.ref m9]) hx hb hml hown hts hN hW.1 (m_in l Γ K F ax.toInt64 0 3) gX7_at_X7_in rfl (na := 3) rfl (by decide +kernel) ⟨by decide, by decide⟩ ⟨Nat.zero_le _, Nat.zero_le _⟩ rfl hl.1 (Nat.le_of_ble_eq_true rfl) dX7_at_14 ?_
    show W _ _ _ _ _ _ _ _ _ _ _ _ _ _ _ (F0 m 17 ls [.int (bI (decide ((0 : Int64) ≤ ax.toInt64 ∧ ax.toInt64 ≤ 3))), .ref m9])
    refine g_asi (show _ = bI (decide (¬ ax < 0 ∧ ax < 4)) from by rw [inL ax 4 (by decide) 3 (by decide)]; rfl) ?_
    refine lv_if_ne (tgt := 24) hx hb dX7_at_17 (by decide) (fun c2 => ?_) (fun c2 => ?_)
    · have c2 : (decide (¬ ax < 0 ∧ ax < 4)) = true := bI_n0.mp c2
      have c2 := of_decide_eq_true c2
      obtain ⟨i, hi, rfl⟩ := okId_nI c1
      obtain ⟨a, ha, rfl⟩ := i32_nI (n := 4) (by decide) c2.1 c2.2
      refine lv_aload_n hx hb dX7_at_24 rfl (lv_at hl 0 rfl) ?_
      refine g_get (C := RX7) (T := TX7) (N := 31) hx hb hts hi7 hown hN hW.1 hk.1 rfl (by decide) 2 (by decide) hfX7_13 (v := .ref (B 2)) (hf 2 rfl) dX7_at_25 ?_
      refine lv_iload_n hx hb dX7_at_28 rfl (lv_at hl 1 rfl) ?_
      refine g_zald (j := i) hx hb hN hW.1 (hk.2.1 2 (10, 100) rfl) (by decide) (show _ = nI i from rfl) hi (v := .int (bI (P i).isSome)) (hR.2.2.1.1 i hi) dX7_at_29 ?_
      refine lv_if_ne (tgt := 37) hx hb dX7_at_30 (by decide) (fun c3 => ?_) (fun c3 => ?_)
      · have c3 : (P i).isSome = true := bI_n0.mp c3
        obtain ⟨p9, hp9⟩ := Option.isSome_iff_exists.mp c3
        refine lv_iconst (v := nI 0) hx hb dX7_at_37 (by decide) ?_
        refine g_put (C := RX7) (T := TX7) (N := 31) hx hb hts hi7 tyX7 tyX7_ok nmX7 hown hN hW hk.1 rfl (by decide) 0 (by decide) hfX7_1 rfl rfl rfl dX7_at_38 (fun H locs hW => ?_)
        refine lv_aload_n hx hb dX7_at_41 rfl (lv_at hl 0 rfl) ?_
        refine g_get (C := RX7) (T := TX7) (N := 31) hx hb hts hi7 hown hN hW.1 hk.1 rfl (by decide) 0 (by decide) hfX7_1 (v := .int (nI 0)) gU_self dX7_at_42 ?_
        refine lv_if_le (tgt := 52) hx hb dX7_at_45 (by decide) (fun e1 => ?_) (fun e1 => ?_)
        · have e1 : 0 = 0 := (nI_le0 (by omega)).mp e1
          refine lv_aload_n hx hb dX7_at_52 rfl (lv_at hl 0 rfl) ?_
          refine g_get (C := RX7) (T := TX7) (N := 31) hx hb hts hi7 hown hN hW.1 hk.1 rfl (by decide) 3 (by decide) hfX7_17 (v := .ref (B 3)) ((gU_k (by decide)).trans (hf 3 rfl)) dX7_at_53 ?_
          refine lv_iconst (v := nI 4) hx hb dX7_at_56 (by decide) ?_
          refine lv_iload_n hx hb dX7_at_57 rfl (lv_at hl 1 rfl) ?_
          refine lv_imul hx hb dX7_at_58 ?_
          refine g_asi (show _ = nI (4 * i) from (pk_mul _ _).trans (by rfl)) ?_
          refine lv_iload_n hx hb dX7_at_59 rfl (lv_at hl 2 rfl) ?_
          refine lv_iadd hx hb dX7_at_60 ?_
          refine g_asi (show _ = nI ((4 * i) + a) from (nI_add _ _).trans (by rfl)) ?_
          refine g_iald (j := 4 * i + a) hx hb hN hW.1 (hk.2.1 3 (8, 400) rfl) (by decide) (show _ = nI (4 * i + a) from rfl) (by omega) (v := .int (p9 a)) ((gU_a (hk.nm (i := 3) rfl)).trans (hR.2.2.1.2 i p9 hi hp9 a ha)) dX7_at_61 ?_
          exact hret (some (.int (p9 a))) _ _ _ _ _ _ hW (⟨0, p9 a, rfl, rfl, gU_self, Or.inr (Or.inr ⟨rfl, ⟨c1, c2⟩, i, p9, hi, rfl, hp9⟩), hR.thr hk, fun _ j b p hj hb2 e1 e2 hp => by have e1 := nI_inj (by omega) (by omega) e1; have e2 := nI_inj (by omega) (by omega) e2; subst e1; subst e2; rw [hp9] at hp; rw [Option.some.inj hp]⟩) (rt_i dX7_at_62)
        · have e1 : 0 < 0 := Nat.pos_of_ne_zero (fun z => e1 ((nI_le0 (by omega)).mpr z))
          exact absurd e1 (by decide)
      · have c3 : (P i).isSome = false := bI_0.mp c3
        have hn : P i = none := Option.not_isSome_iff_eq_none.mp (by rw [c3]; decide)
        refine lv_iconst (v := nI 2) hx hb dX7_at_33 (by decide) ?_
        refine lv_goto (tgt := 38) hx hb dX7_at_34 (by decide) ?_
        refine g_put (C := RX7) (T := TX7) (N := 31) hx hb hts hi7 tyX7 tyX7_ok nmX7 hown hN hW hk.1 rfl (by decide) 0 (by decide) hfX7_1 rfl rfl rfl dX7_at_38 (fun H locs hW => ?_)
        refine lv_aload_n hx hb dX7_at_41 rfl (lv_at hl 0 rfl) ?_
        refine g_get (C := RX7) (T := TX7) (N := 31) hx hb hts hi7 hown hN hW.1 hk.1 rfl (by decide) 0 (by decide) hfX7_1 (v := .int (nI 2)) gU_self dX7_at_42 ?_
        refine lv_if_le (tgt := 52) hx hb dX7_at_45 (by decide) (fun e1 => ?_) (fun e1 => ?_)
        · have e1 : 2 = 0 := (nI_le0 (by omega)).mp e1
          exact absurd e1 (by decide)
        · have e1 : 0 < 2 := Nat.pos_of_ne_zero (fun z => e1 ((nI_le0 (by omega)).mpr z))
          refine lv_iconst (v := nI 0) hx hb dX7_at_48 (by decide) ?_
          refine lv_goto (tgt := 62) hx hb dX7_at_49 (by decide) ?_
          exact hret (some (.int (nI 0))) _ _ _ _ _ _ hW (⟨2, nI 0, rfl, rfl, gU_self, Or.inr (Or.inl ⟨rfl, ⟨c1, c2⟩, fun ⟨j, p, hj, e, hp⟩ => by rw [nI_inj (by omega) (by omega) e, hp] at hn; cases hn⟩), hR.thr hk, fun z => absurd z (by decide)⟩) (rt_i dX7_at_62)
    · have c2 : (decide (¬ ax < 0 ∧ ax < 4)) = false := bI_0.mp c2
      have c2 := of_decide_eq_false c2
      refine lv_iconst (v := nI 1) hx hb dX7_at_20 (by decide) ?_
      refine lv_goto (tgt := 38) hx hb dX7_at_21 (by decide) ?_
      refine g_put (C := RX7) (T := TX7) (N := 31) hx hb hts hi7 tyX7 tyX7_ok nmX7 hown hN hW hk.1 rfl (by decide) 0 (by decide) hfX7_1 rfl rfl rfl dX7_at_38 (fun H locs hW => ?_)
      refine lv_aload_n hx hb dX7_at_41 rfl (lv_at hl 0 rfl) ?_
      refine g_get (C := RX7) (T := TX7) (N := 31) hx hb hts hi7 hown hN hW.1 hk.1 rfl (by decide) 0 (by decide) hfX7_1 (v := .int (nI 1)) gU_self dX7_at_42 ?_
      refine lv_if_le (tgt := 52) hx hb dX7_at_45 (by decide) (fun e1 => ?_) (fun e1 => ?_)
      · have e1 : 1 = 0 := (nI_le0 (by omega)).mp e1
        exact absurd e1 (by decide)
      · have e1 : 0 < 1 := Nat.pos_of_ne_zero (fun z => e1 ((nI_le0 (by omega)).mpr z))
        refine lv_iconst (v := nI 0) hx hb dX7_at_48 (by decide) ?_
        refine lv_goto (tgt := 62) hx hb dX7_at_49 (by decide) ?_
        exact hret (some (.int (nI 0))) _ _ _ _ _ _ hW (⟨1, nI 0, rfl, rfl, gU_self, Or.inl ⟨rfl, fun z => c2 z.2⟩, hR.thr hk, fun z => absurd z (by decide)⟩) (rt_i dX7_at_62)

set_option maxHeartbeats 4000000 in
set_option maxRecDepth 100000 in
theorem m_listed (l : Launch) (Γ : gG) (K : gK) (F : gF) (sz : Nat) (m9 : Nat) (B : Nat → Nat) (hk : MKk K m9 B) (d : Nat) (P : Nat → Option (Nat → Int32)) (t : TT gLb) (S : List (Nat × Int64)) (lk bc bg bp : Nat) (hR : RS F m9 B d P t S lk bc bg bp) (hS : S.length ≤ 100) (i9 : Int32) : gMM l yX7_listed wsX7_listed 1 0 0 Γ K F sz [.ref m9, .int i9] (fun v K' F' => ∃ th r, v = some (.int r) ∧ K' = K ∧ F' m9 0 = .int (nI th) ∧ thR th (¬ i9 < 0 ∧ i9 < nI S.length) True ∧ RS F' m9 B d P t S lk bc bg bp ∧ (th = 0 → ∀ i y, S[i]? = some y → i9 = nI i → r = nI y.1)) := by
  refine g_mM (cc := cX7_listed) (maxL := 2) (ret := (some .int)) (by decide) rfl (Nat.le_of_ble_eq_true rfl) ?_
  intro p e s m args below meth c ls Z hsz hx hb hts hown hml hnm hN hW hret hl
  have hl : lv_has ls 2 [(0, .ref m9), (1, .int i9)] := hl
  have hown : s.vm.findClass RX7 = some m.cls := hown
  have hi7 : ∀ w ∈ wsX70, w ∈ wsX7_listed := by decide +kernel
  have hfX7_1 : Cond.fieldLink RX7 1 (TX7 0).1 (TX7 0).2.1 (TX7 0).2.2.1 ∈ wsX7_listed := by decide +kernel
  have hfX7_72 : Cond.fieldLink RX7 72 (TX7 25).1 (TX7 25).2.1 (TX7 25).2.2.1 ∈ wsX7_listed := by decide +kernel
  have hfX7_150 : Cond.fieldLink RX7 150 (TX7 27).1 (TX7 27).2.1 (TX7 27).2.2.1 ∈ wsX7_listed := by decide +kernel
  have hf := hR.1
  refine lv_aload_n hx hb dX7_listed_0 rfl (lv_at hl 0 rfl) ?_
  refine lv_iload_n hx hb dX7_listed_1 rfl (lv_at hl 1 rfl) ?_
  refine lv_i2l (v := i9.toInt64) hx hb dX7_listed_2 rfl ?_
  refine lv_lconst (v := 0) hx hb dX7_listed_3 (by decide) ?_
  refine lv_aload_n hx hb dX7_listed_4 rfl (lv_at hl 0 rfl) ?_
  refine g_get (C := RX7) (T := TX7) (N := 31) hx hb hts hi7 hown hN hW.1 hk.1 rfl (by decide) 27 (by decide) hfX7_150 (v := .int (nI S.length)) hR.2.2.2.2.2.1.1 dX7_listed_5 ?_
  refine lv_iconst (v := nI 1) hx hb dX7_listed_8 (by decide) ?_
  refine lv_isub hx hb dX7_listed_9 ?_
  refine lv_i2l (v := ((nI S.length) - (nI 1)).toInt64) hx hb dX7_listed_10 rfl ?_
  refine g_cS (v := (some (.int (bI (decide ((0 : Int64) ≤ i9.toInt64 ∧ i9.toInt64 ≤ (nI S.length - nI 1).toInt64)))))) (As := [.long i9.toInt64, .long 0, .long (((nI S.length) - (nI 1)).toInt64)]) (rest := [.ref m9]) hx hb hml hown hts hN hW.1 (m_in l Γ K F i9.toInt64 0 (nI S.length - nI 1).toInt64) gX7_listed_X7_in rfl (na := 3) rfl (by decide +kernel) ⟨by decide, by decide⟩ ⟨Nat.zero_le _, Nat.zero_le _⟩ rfl hl.1 (Nat.le_of_ble_eq_true rfl) dX7_listed_11 ?_
  show W _ _ _ _ _ _ _ _ _ _ _ _ _ _ _ (F0 m 14 ls [.int (bI (decide ((0 : Int64) ≤ i9.toInt64 ∧ i9.toInt64 ≤ (nI S.length - nI 1).toInt64))), .ref m9])
  refine g_asi (show _ = bI (decide (¬ i9 < 0 ∧ i9 < nI S.length)) from by rw [in0 i9 S.length (by omega)]) ?_
  refine lv_if_eq (tgt := 21) hx hb dX7_listed_14 (by decide) (fun c1 => ?_) (fun c1 => ?_)
  · have c1 : (decide (¬ i9 < 0 ∧ i9 < nI S.length)) = false := bI_0.mp c1
    have c1 := of_decide_eq_false c1
    refine lv_iconst (v := nI 1) hx hb dX7_listed_21 (by decide) ?_
    refine g_put (C := RX7) (T := TX7) (N := 31) hx hb hts hi7 tyX7 tyX7_ok nmX7 hown hN hW hk.1 rfl (by decide) 0 (by decide) hfX7_1 rfl rfl rfl dX7_listed_22 (fun H locs hW => ?_)
    refine lv_aload_n hx hb dX7_listed_25 rfl (lv_at hl 0 rfl) ?_
    refine g_get (C := RX7) (T := TX7) (N := 31) hx hb hts hi7 hown hN hW.1 hk.1 rfl (by decide) 0 (by decide) hfX7_1 (v := .int (nI 1)) gU_self dX7_listed_26 ?_
    refine lv_if_le (tgt := 36) hx hb dX7_listed_29 (by decide) (fun e1 => ?_) (fun e1 => ?_)
    · have e1 : 1 = 0 := (nI_le0 (by omega)).mp e1
      exact absurd e1 (by decide)
    · have e1 : 0 < 1 := Nat.pos_of_ne_zero (fun z => e1 ((nI_le0 (by omega)).mpr z))
      refine lv_iconst (v := nI 0) hx hb dX7_listed_32 (by decide) ?_
      refine lv_goto (tgt := 42) hx hb dX7_listed_33 (by decide) ?_
      exact hret (some (.int (nI 0))) _ _ _ _ _ _ hW (⟨1, nI 0, rfl, rfl, gU_self, Or.inl ⟨rfl, c1⟩, hR.thr hk, fun z => absurd z (by decide)⟩) (rt_i dX7_listed_42)
  · have c1 : (decide (¬ i9 < 0 ∧ i9 < nI S.length)) = true := bI_n0.mp c1
    have c1 := of_decide_eq_true c1
    obtain ⟨i, hi, rfl⟩ := i32_nI (n := S.length) (by omega) c1.1 c1.2
    obtain ⟨y, hy⟩ : ∃ y, S[i]? = some y := ⟨S[i], List.getElem?_eq_getElem hi⟩
    refine lv_iconst (v := nI 0) hx hb dX7_listed_17 (by decide) ?_
    refine lv_goto (tgt := 22) hx hb dX7_listed_18 (by decide) ?_
    refine g_put (C := RX7) (T := TX7) (N := 31) hx hb hts hi7 tyX7 tyX7_ok nmX7 hown hN hW hk.1 rfl (by decide) 0 (by decide) hfX7_1 rfl rfl rfl dX7_listed_22 (fun H locs hW => ?_)
    refine lv_aload_n hx hb dX7_listed_25 rfl (lv_at hl 0 rfl) ?_
    refine g_get (C := RX7) (T := TX7) (N := 31) hx hb hts hi7 hown hN hW.1 hk.1 rfl (by decide) 0 (by decide) hfX7_1 (v := .int (nI 0)) gU_self dX7_listed_26 ?_
    refine lv_if_le (tgt := 36) hx hb dX7_listed_29 (by decide) (fun e1 => ?_) (fun e1 => ?_)
    · have e1 : 0 = 0 := (nI_le0 (by omega)).mp e1
      refine lv_aload_n hx hb dX7_listed_36 rfl (lv_at hl 0 rfl) ?_
      refine g_get (C := RX7) (T := TX7) (N := 31) hx hb hts hi7 hown hN hW.1 hk.1 rfl (by decide) 25 (by decide) hfX7_72 (v := .ref (B 25)) ((gU_k (by decide)).trans (hf 25 rfl)) dX7_listed_37 ?_
      refine lv_iload_n hx hb dX7_listed_40 rfl (lv_at hl 1 rfl) ?_
      refine g_iald (j := i) hx hb hN hW.1 (hk.2.1 25 (8, 100) rfl) (by decide) (show _ = nI i from rfl) (by omega) (v := .int (nI y.1)) ((gU_a (hk.nm (i := 25) rfl)).trans (by have q := hR.2.2.2.2.2.1.2.1 i (vId y) (by rw [List.getElem?_map, hy]; rfl); rw [Nat.zero_add] at q; exact q)) dX7_listed_41 ?_
      exact hret (some (.int (nI y.1))) _ _ _ _ _ _ hW (⟨0, nI y.1, rfl, rfl, gU_self, Or.inr (Or.inr ⟨rfl, c1, trivial⟩), hR.thr hk, fun _ j z hj e => by rw [← nI_inj (by omega) (by have := List.getElem?_eq_some_iff.mp hj; obtain ⟨q, _⟩ := this; omega) e, hy] at hj; cases hj; rfl⟩) (rt_i dX7_listed_42)
    · have e1 : 0 < 0 := Nat.pos_of_ne_zero (fun z => e1 ((nI_le0 (by omega)).mpr z))
      exact absurd e1 (by decide)

set_option maxHeartbeats 4000000 in
set_option maxRecDepth 100000 in
theorem m_distance (l : Launch) (Γ : gG) (K : gK) (F : gF) (sz : Nat) (m9 : Nat) (B : Nat → Nat) (hk : MKk K m9 B) (d : Nat) (P : Nat → Option (Nat → Int32)) (t : TT gLb) (S : List (Nat × Int64)) (lk bc bg bp : Nat) (hR : RS F m9 B d P t S lk bc bg bp) (hS : S.length ≤ 100) (i9 : Int32) : gMM l yX7_distance wsX7_distance 1 0 0 Γ K F sz [.ref m9, .int i9] (fun v K' F' => ∃ th r, v = some (.long r) ∧ K' = K ∧ F' m9 0 = .int (nI th) ∧ thR th (¬ i9 < 0 ∧ i9 < nI S.length) True ∧ RS F' m9 B d P t S lk bc bg bp ∧ (th = 0 → ∀ i y, S[i]? = some y → i9 = nI i → r = y.2)) := by
  refine g_mM (cc := cX7_distance) (maxL := 2) (ret := (some .long)) (by decide) rfl (Nat.le_of_ble_eq_true rfl) ?_
  intro p e s m args below meth c ls Z hsz hx hb hts hown hml hnm hN hW hret hl
  have hl : lv_has ls 2 [(0, .ref m9), (1, .int i9)] := hl
  have hown : s.vm.findClass RX7 = some m.cls := hown
  have hi7 : ∀ w ∈ wsX70, w ∈ wsX7_distance := by decide +kernel
  have hfX7_1 : Cond.fieldLink RX7 1 (TX7 0).1 (TX7 0).2.1 (TX7 0).2.2.1 ∈ wsX7_distance := by decide +kernel
  have hfX7_75 : Cond.fieldLink RX7 75 (TX7 26).1 (TX7 26).2.1 (TX7 26).2.2.1 ∈ wsX7_distance := by decide +kernel
  have hfX7_150 : Cond.fieldLink RX7 150 (TX7 27).1 (TX7 27).2.1 (TX7 27).2.2.1 ∈ wsX7_distance := by decide +kernel
  have hf := hR.1
  refine lv_aload_n hx hb dX7_distance_0 rfl (lv_at hl 0 rfl) ?_
  refine lv_iload_n hx hb dX7_distance_1 rfl (lv_at hl 1 rfl) ?_
  refine lv_i2l (v := i9.toInt64) hx hb dX7_distance_2 rfl ?_
  refine lv_lconst (v := 0) hx hb dX7_distance_3 (by decide) ?_
  refine lv_aload_n hx hb dX7_distance_4 rfl (lv_at hl 0 rfl) ?_
  refine g_get (C := RX7) (T := TX7) (N := 31) hx hb hts hi7 hown hN hW.1 hk.1 rfl (by decide) 27 (by decide) hfX7_150 (v := .int (nI S.length)) hR.2.2.2.2.2.1.1 dX7_distance_5 ?_
  refine lv_iconst (v := nI 1) hx hb dX7_distance_8 (by decide) ?_
  refine lv_isub hx hb dX7_distance_9 ?_
  refine lv_i2l (v := ((nI S.length) - (nI 1)).toInt64) hx hb dX7_distance_10 rfl ?_
  refine g_cS (v := (some (.int (bI (decide ((0 : Int64) ≤ i9.toInt64 ∧ i9.toInt64 ≤ (nI S.length - nI 1).toInt64)))))) (As := [.long i9.toInt64, .long 0, .long (((nI S.length) - (nI 1)).toInt64)]) (rest := [.ref m9]) hx hb hml hown hts hN hW.1 (m_in l Γ K F i9.toInt64 0 (nI S.length - nI 1).toInt64) gX7_distance_X7_in rfl (na := 3) rfl (by decide +kernel) ⟨by decide, by decide⟩ ⟨Nat.zero_le _, Nat.zero_le _⟩ rfl hl.1 (Nat.le_of_ble_eq_true rfl) dX7_distance_11 ?_
  show W _ _ _ _ _ _ _ _ _ _ _ _ _ _ _ (F0 m 14 ls [.int (bI (decide ((0 : Int64) ≤ i9.toInt64 ∧ i9.toInt64 ≤ (nI S.length - nI 1).toInt64))), .ref m9])
  refine g_asi (show _ = bI (decide (¬ i9 < 0 ∧ i9 < nI S.length)) from by rw [in0 i9 S.length (by omega)]) ?_
  refine lv_if_eq (tgt := 21) hx hb dX7_distance_14 (by decide) (fun c1 => ?_) (fun c1 => ?_)
  · have c1 : (decide (¬ i9 < 0 ∧ i9 < nI S.length)) = false := bI_0.mp c1
    have c1 := of_decide_eq_false c1
    refine lv_iconst (v := nI 1) hx hb dX7_distance_21 (by decide) ?_
    refine g_put (C := RX7) (T := TX7) (N := 31) hx hb hts hi7 tyX7 tyX7_ok nmX7 hown hN hW hk.1 rfl (by decide) 0 (by decide) hfX7_1 rfl rfl rfl dX7_distance_22 (fun H locs hW => ?_)
    refine lv_aload_n hx hb dX7_distance_25 rfl (lv_at hl 0 rfl) ?_
    refine g_get (C := RX7) (T := TX7) (N := 31) hx hb hts hi7 hown hN hW.1 hk.1 rfl (by decide) 0 (by decide) hfX7_1 (v := .int (nI 1)) gU_self dX7_distance_26 ?_
    refine lv_if_le (tgt := 36) hx hb dX7_distance_29 (by decide) (fun e1 => ?_) (fun e1 => ?_)
    · have e1 : 1 = 0 := (nI_le0 (by omega)).mp e1
      exact absurd e1 (by decide)
    · have e1 : 0 < 1 := Nat.pos_of_ne_zero (fun z => e1 ((nI_le0 (by omega)).mpr z))
      refine lv_lconst (v := 0) hx hb dX7_distance_32 (by decide) ?_
      refine lv_goto (tgt := 42) hx hb dX7_distance_33 (by decide) ?_
      exact hret (some (.long 0)) _ _ _ _ _ _ hW (⟨1, 0, rfl, rfl, gU_self, Or.inl ⟨rfl, c1⟩, hR.thr hk, fun z => absurd z (by decide)⟩) (rt_l dX7_distance_42)
  · have c1 : (decide (¬ i9 < 0 ∧ i9 < nI S.length)) = true := bI_n0.mp c1
    have c1 := of_decide_eq_true c1
    obtain ⟨i, hi, rfl⟩ := i32_nI (n := S.length) (by omega) c1.1 c1.2
    obtain ⟨y, hy⟩ : ∃ y, S[i]? = some y := ⟨S[i], List.getElem?_eq_getElem hi⟩
    refine lv_iconst (v := nI 0) hx hb dX7_distance_17 (by decide) ?_
    refine lv_goto (tgt := 22) hx hb dX7_distance_18 (by decide) ?_
    refine g_put (C := RX7) (T := TX7) (N := 31) hx hb hts hi7 tyX7 tyX7_ok nmX7 hown hN hW hk.1 rfl (by decide) 0 (by decide) hfX7_1 rfl rfl rfl dX7_distance_22 (fun H locs hW => ?_)
    refine lv_aload_n hx hb dX7_distance_25 rfl (lv_at hl 0 rfl) ?_
    refine g_get (C := RX7) (T := TX7) (N := 31) hx hb hts hi7 hown hN hW.1 hk.1 rfl (by decide) 0 (by decide) hfX7_1 (v := .int (nI 0)) gU_self dX7_distance_26 ?_
    refine lv_if_le (tgt := 36) hx hb dX7_distance_29 (by decide) (fun e1 => ?_) (fun e1 => ?_)
    · have e1 : 0 = 0 := (nI_le0 (by omega)).mp e1
      refine lv_aload_n hx hb dX7_distance_36 rfl (lv_at hl 0 rfl) ?_
      refine g_get (C := RX7) (T := TX7) (N := 31) hx hb hts hi7 hown hN hW.1 hk.1 rfl (by decide) 26 (by decide) hfX7_75 (v := .ref (B 26)) ((gU_k (by decide)).trans (hf 26 rfl)) dX7_distance_37 ?_
      refine lv_iload_n hx hb dX7_distance_40 rfl (lv_at hl 1 rfl) ?_
      refine g_lald (j := i) hx hb hN hW.1 (hk.2.1 26 (9, 100) rfl) (by decide) (show _ = nI i from rfl) (by omega) (v := .long y.2) ((gU_a (hk.nm (i := 26) rfl)).trans (by have q := hR.2.2.2.2.2.1.2.2 i (vDi y) (by rw [List.getElem?_map, hy]; rfl); rw [Nat.zero_add] at q; exact q)) dX7_distance_41 ?_
      exact hret (some (.long y.2)) _ _ _ _ _ _ hW (⟨0, y.2, rfl, rfl, gU_self, Or.inr (Or.inr ⟨rfl, c1, trivial⟩), hR.thr hk, fun _ j z hj e => by rw [← nI_inj (by omega) (by have := List.getElem?_eq_some_iff.mp hj; obtain ⟨q, _⟩ := this; omega) e, hy] at hj; cases hj; rfl⟩) (rt_l dX7_distance_42)
    · have e1 : 0 < 0 := Nat.pos_of_ne_zero (fun z => e1 ((nI_le0 (by omega)).mpr z))
      exact absurd e1 (by decide)

set_option maxHeartbeats 4000000 in
set_option maxRecDepth 100000 in
theorem m_looked (l : Launch) (Γ : gG) (K : gK) (F : gF) (sz : Nat) (m9 : Nat) (B : Nat → Nat) (hk : MKk K m9 B) (d : Nat) (P : Nat → Option (Nat → Int32)) (t : TT gLb) (S : List (Nat × Int64)) (lk bc bg bp : Nat) (hR : RS F m9 B d P t S lk bc bg bp) : gMM l yX7_looked wsX7_looked 0 0 0 Γ K F sz [.ref m9] (fun v K' F' => v = some (.int (nI lk)) ∧ K' = K ∧ RS F' m9 B d P t S lk bc bg bp) := by
  refine g_mM (cc := cX7_looked) (maxL := 1) (ret := (some .int)) (by decide) rfl (Nat.le_of_ble_eq_true rfl) ?_
  intro p e s m args below meth c ls Z hsz hx hb hts hown hml hnm hN hW hret hl
  have hl : lv_has ls 1 [(0, .ref m9)] := hl
  have hown : s.vm.findClass RX7 = some m.cls := hown
  have hi7 : ∀ w ∈ wsX70, w ∈ wsX7_looked := by decide +kernel
  have hfX7_1 : Cond.fieldLink RX7 1 (TX7 0).1 (TX7 0).2.1 (TX7 0).2.2.1 ∈ wsX7_looked := by decide +kernel
  have hfX7_159 : Cond.fieldLink RX7 159 (TX7 28).1 (TX7 28).2.1 (TX7 28).2.2.1 ∈ wsX7_looked := by decide +kernel
  have hf := hR.1
  refine lv_aload_n hx hb dX7_looked_0 rfl (lv_at hl 0 rfl) ?_
  refine lv_iconst (v := nI 0) hx hb dX7_looked_1 (by decide) ?_
  refine g_put (C := RX7) (T := TX7) (N := 31) hx hb hts hi7 tyX7 tyX7_ok nmX7 hown hN hW hk.1 rfl (by decide) 0 (by decide) hfX7_1 rfl rfl rfl dX7_looked_2 (fun H locs hW => ?_)
  refine lv_aload_n hx hb dX7_looked_5 rfl (lv_at hl 0 rfl) ?_
  refine g_get (C := RX7) (T := TX7) (N := 31) hx hb hts hi7 hown hN hW.1 hk.1 rfl (by decide) 28 (by decide) hfX7_159 (v := .int (nI lk)) ((gU_k (by decide)).trans hR.2.2.2.2.2.2.1) dX7_looked_6 ?_
  exact hret (some (.int (nI lk))) _ _ _ _ _ _ hW (⟨rfl, rfl, hR.thr hk⟩) (rt_i dX7_looked_9)

set_option maxHeartbeats 4000000 in
set_option maxRecDepth 100000 in
theorem m_inBox (l : Launch) (Γ : gG) (K : gK) (F : gF) (sz : Nat) (m9 : Nat) (B : Nat → Nat) (hk : MKk K m9 B) (d : Nat) (P : Nat → Option (Nat → Int32)) (t : TT gLb) (S : List (Nat × Int64)) (lk bc bg bp : Nat) (hR : RS F m9 B d P t S lk bc bg bp) (hd4 : d ≤ 4) (a9 lo hi9 b9 lo2 ze2 : Int32) : gMM l yX7_inBox wsX7_inBox 1 0 0 Γ K F sz [.ref m9, .int a9, .int lo, .int hi9, .int b9, .int lo2, .int ze2] (fun v K' F' => ∃ th r, v = some (.int r) ∧ K' = K ∧ F' m9 0 = .int (nI th) ∧ thR th ((¬ a9 < 0 ∧ a9 < nI d) ∧ (¬ b9 < 0 ∧ b9 < nI d)) True ∧ RS F' m9 B d P t S lk bc bg bp ∧ (th = 0 → ∀ a b, a < d → b < d → a9 = nI a → b9 = nI b → r = nI (bxN P a lo hi9 b lo2 ze2 100))) := by
  refine g_mM (cc := cX7_inBox) (maxL := 9) (ret := (some .int)) (by decide) rfl (Nat.le_of_ble_eq_true rfl) ?_
  intro p e s m args below meth c ls Z hsz hx hb hts hown hml hnm hN hW hret hl
  have hl : lv_has ls 9 [(0, .ref m9), (1, .int a9), (2, .int lo), (3, .int hi9), (4, .int b9), (5, .int lo2), (6, .int ze2)] := hl
  have hown : s.vm.findClass RX7 = some m.cls := hown
  have hi7 : ∀ w ∈ wsX70, w ∈ wsX7_inBox := by decide +kernel
  have hfX7_1 : Cond.fieldLink RX7 1 (TX7 0).1 (TX7 0).2.1 (TX7 0).2.2.1 ∈ wsX7_inBox := by decide +kernel
  have hfX7_13 : Cond.fieldLink RX7 13 (TX7 2).1 (TX7 2).2.1 (TX7 2).2.2.1 ∈ wsX7_inBox := by decide +kernel
  have hfX7_17 : Cond.fieldLink RX7 17 (TX7 3).1 (TX7 3).2.1 (TX7 3).2.2.1 ∈ wsX7_inBox := by decide +kernel
  have hfX7_85 : Cond.fieldLink RX7 85 (TX7 1).1 (TX7 1).2.1 (TX7 1).2.2.1 ∈ wsX7_inBox := by decide +kernel
  have hf := hR.1
  refine lv_aload_n hx hb dX7_inBox_0 rfl (lv_at hl 0 rfl) ?_
  refine lv_iload_n hx hb dX7_inBox_1 rfl (lv_at hl 1 rfl) ?_
  refine lv_i2l (v := a9.toInt64) hx hb dX7_inBox_2 rfl ?_
  refine lv_lconst (v := 0) hx hb dX7_inBox_3 (by decide) ?_
  refine lv_aload_n hx hb dX7_inBox_4 rfl (lv_at hl 0 rfl) ?_
  refine g_get (C := RX7) (T := TX7) (N := 31) hx hb hts hi7 hown hN hW.1 hk.1 rfl (by decide) 1 (by decide) hfX7_85 (v := .int (nI d)) hR.2.1 dX7_inBox_5 ?_
  refine lv_iconst (v := nI 1) hx hb dX7_inBox_8 (by decide) ?_
  refine lv_isub hx hb dX7_inBox_9 ?_
  refine lv_i2l (v := ((nI d) - (nI 1)).toInt64) hx hb dX7_inBox_10 rfl ?_
  refine g_cS (v := (some (.int (bI (decide ((0 : Int64) ≤ a9.toInt64 ∧ a9.toInt64 ≤ (nI d - nI 1).toInt64)))))) (As := [.long a9.toInt64, .long 0, .long (((nI d) - (nI 1)).toInt64)]) (rest := [.ref m9]) hx hb hml hown hts hN hW.1 (m_in l Γ K F a9.toInt64 0 (nI d - nI 1).toInt64) gX7_inBox_X7_in rfl (na := 3) rfl (by decide +kernel) ⟨by decide, by decide⟩ ⟨Nat.zero_le _, Nat.zero_le _⟩ rfl hl.1 (Nat.le_of_ble_eq_true rfl) dX7_inBox_11 ?_
  show W _ _ _ _ _ _ _ _ _ _ _ _ _ _ _ (F0 m 14 ls [.int (bI (decide ((0 : Int64) ≤ a9.toInt64 ∧ a9.toInt64 ≤ (nI d - nI 1).toInt64))), .ref m9])
  refine g_asi (show _ = bI (decide (¬ a9 < 0 ∧ a9 < nI d)) from by rw [in0 a9 d (by omega)]) ?_
  refine lv_if_eq (tgt := 38) hx hb dX7_inBox_14 (by decide) (fun c1 => ?_) (fun c1 => ?_)
  · have c1 : (decide (¬ a9 < 0 ∧ a9 < nI d)) = false := bI_0.mp c1
    have c1 := of_decide_eq_false c1
    refine lv_iconst (v := nI 1) hx hb dX7_inBox_38 (by decide) ?_
    refine g_put (C := RX7) (T := TX7) (N := 31) hx hb hts hi7 tyX7 tyX7_ok nmX7 hown hN hW hk.1 rfl (by decide) 0 (by decide) hfX7_1 rfl rfl rfl dX7_inBox_39 (fun H locs hW => ?_)
    refine lv_aload_n hx hb dX7_inBox_42 rfl (lv_at hl 0 rfl) ?_
    refine g_get (C := RX7) (T := TX7) (N := 31) hx hb hts hi7 hown hN hW.1 hk.1 rfl (by decide) 0 (by decide) hfX7_1 (v := .int (nI 1)) gU_self dX7_inBox_43 ?_
    refine lv_if_le (tgt := 51) hx hb dX7_inBox_46 (by decide) (fun e1 => ?_) (fun e1 => ?_)
    · have e1 : 1 = 0 := (nI_le0 (by omega)).mp e1
      exact absurd e1 (by decide)
    · have e1 : 0 < 1 := Nat.pos_of_ne_zero (fun z => e1 ((nI_le0 (by omega)).mpr z))
      refine lv_iconst (v := nI 0) hx hb dX7_inBox_49 (by decide) ?_
      exact hret (some (.int (nI 0))) _ _ _ _ _ _ hW (⟨1, nI 0, rfl, rfl, gU_self, Or.inl ⟨rfl, fun z => c1 z.1⟩, hR.thr hk, fun z => absurd z (by decide)⟩) (rt_i dX7_inBox_50)
  · have c1 : (decide (¬ a9 < 0 ∧ a9 < nI d)) = true := bI_n0.mp c1
    refine lv_iload hx hb dX7_inBox_17 (lv_at hl 4 rfl) ?_
    refine lv_i2l (v := b9.toInt64) hx hb dX7_inBox_19 rfl ?_
    refine lv_lconst (v := 0) hx hb dX7_inBox_20 (by decide) ?_
    refine lv_aload_n hx hb dX7_inBox_21 rfl (lv_at hl 0 rfl) ?_
    refine g_get (C := RX7) (T := TX7) (N := 31) hx hb hts hi7 hown hN hW.1 hk.1 rfl (by decide) 1 (by decide) hfX7_85 (v := .int (nI d)) hR.2.1 dX7_inBox_22 ?_
    refine lv_iconst (v := nI 1) hx hb dX7_inBox_25 (by decide) ?_
    refine lv_isub hx hb dX7_inBox_26 ?_
    refine lv_i2l (v := ((nI d) - (nI 1)).toInt64) hx hb dX7_inBox_27 rfl ?_
    refine g_cS (v := (some (.int (bI (decide ((0 : Int64) ≤ b9.toInt64 ∧ b9.toInt64 ≤ (nI d - nI 1).toInt64)))))) (As := [.long b9.toInt64, .long 0, .long (((nI d) - (nI 1)).toInt64)]) (rest := [.ref m9]) hx hb hml hown hts hN hW.1 (m_in l Γ K F b9.toInt64 0 (nI d - nI 1).toInt64) gX7_inBox_X7_in rfl (na := 3) rfl (by decide +kernel) ⟨by decide, by decide⟩ ⟨Nat.zero_le _, Nat.zero_le _⟩ rfl hl.1 (Nat.le_of_ble_eq_true rfl) dX7_inBox_28 ?_
    show W _ _ _ _ _ _ _ _ _ _ _ _ _ _ _ (F0 m 31 ls [.int (bI (decide ((0 : Int64) ≤ b9.toInt64 ∧ b9.toInt64 ≤ (nI d - nI 1).toInt64))), .ref m9])
    refine g_asi (show _ = bI (decide (¬ b9 < 0 ∧ b9 < nI d)) from by rw [in0 b9 d (by omega)]) ?_
    refine lv_if_eq (tgt := 38) hx hb dX7_inBox_31 (by decide) (fun c2 => ?_) (fun c2 => ?_)
    · have c2 : (decide (¬ b9 < 0 ∧ b9 < nI d)) = false := bI_0.mp c2
      have c2 := of_decide_eq_false c2
      refine lv_iconst (v := nI 1) hx hb dX7_inBox_38 (by decide) ?_
      refine g_put (C := RX7) (T := TX7) (N := 31) hx hb hts hi7 tyX7 tyX7_ok nmX7 hown hN hW hk.1 rfl (by decide) 0 (by decide) hfX7_1 rfl rfl rfl dX7_inBox_39 (fun H locs hW => ?_)
      refine lv_aload_n hx hb dX7_inBox_42 rfl (lv_at hl 0 rfl) ?_
      refine g_get (C := RX7) (T := TX7) (N := 31) hx hb hts hi7 hown hN hW.1 hk.1 rfl (by decide) 0 (by decide) hfX7_1 (v := .int (nI 1)) gU_self dX7_inBox_43 ?_
      refine lv_if_le (tgt := 51) hx hb dX7_inBox_46 (by decide) (fun e1 => ?_) (fun e1 => ?_)
      · have e1 : 1 = 0 := (nI_le0 (by omega)).mp e1
        exact absurd e1 (by decide)
      · have e1 : 0 < 1 := Nat.pos_of_ne_zero (fun z => e1 ((nI_le0 (by omega)).mpr z))
        refine lv_iconst (v := nI 0) hx hb dX7_inBox_49 (by decide) ?_
        exact hret (some (.int (nI 0))) _ _ _ _ _ _ hW (⟨1, nI 0, rfl, rfl, gU_self, Or.inl ⟨rfl, fun z => c2 z.2⟩, hR.thr hk, fun z => absurd z (by decide)⟩) (rt_i dX7_inBox_50)
    · have c2 : (decide (¬ b9 < 0 ∧ b9 < nI d)) = true := bI_n0.mp c2
      have c1 := of_decide_eq_true c1
      have c2 := of_decide_eq_true c2
      obtain ⟨a, ha, rfl⟩ := i32_nI (n := d) (by omega) c1.1 c1.2
      obtain ⟨b, hb2, rfl⟩ := i32_nI (n := d) (by omega) c2.1 c2.2
      refine lv_iconst (v := nI 0) hx hb dX7_inBox_34 (by decide) ?_
      refine lv_goto (tgt := 39) hx hb dX7_inBox_35 (by decide) ?_
      refine g_put (C := RX7) (T := TX7) (N := 31) hx hb hts hi7 tyX7 tyX7_ok nmX7 hown hN hW hk.1 rfl (by decide) 0 (by decide) hfX7_1 rfl rfl rfl dX7_inBox_39 (fun H locs hW => ?_)
      refine lv_aload_n hx hb dX7_inBox_42 rfl (lv_at hl 0 rfl) ?_
      refine g_get (C := RX7) (T := TX7) (N := 31) hx hb hts hi7 hown hN hW.1 hk.1 rfl (by decide) 0 (by decide) hfX7_1 (v := .int (nI 0)) gU_self dX7_inBox_43 ?_
      refine lv_if_le (tgt := 51) hx hb dX7_inBox_46 (by decide) (fun e1 => ?_) (fun e1 => ?_)
      · have e1 : 0 = 0 := (nI_le0 (by omega)).mp e1
        refine lv_iconst (v := nI 0) hx hb dX7_inBox_51 (by decide) ?_
        refine lv_istore (lv' := [(7, .int (nI 0)), (0, .ref m9), (1, .int (nI a)), (2, .int lo), (3, .int hi9), (4, .int (nI b)), (5, .int lo2), (6, .int ze2)]) hx hb dX7_inBox_52 hl (by decide) rfl (fun ls hl => ?_)
        refine lv_iconst (v := nI 0) hx hb dX7_inBox_54 (by decide) ?_
        refine lv_istore (lv' := [(8, .int (nI 0)), (7, .int (nI 0)), (0, .ref m9), (1, .int (nI a)), (2, .int lo), (3, .int hi9), (4, .int (nI b)), (5, .int lo2), (6, .int ze2)]) hx hb dX7_inBox_55 hl (by decide) rfl (fun ls hl => ?_)
        obtain ⟨G, hG⟩ : ∃ f, f = gU F m9 0 (.int (nI 0)) := ⟨_, rfl⟩
        rw [← hG] at hW
        have hG0 : G m9 0 = .int (nI 0) := by rw [hG, gU_self]
        have hRG : RS G m9 B d P t S lk bc bg bp := by rw [hG]; exact hR.thr hk
        have hfG := hRG.1
        have loop : ∀ (n k9 : Nat) (ls : Array Slot), n + k9 = 100 → lv_has ls 9 [(8, .int (nI k9)), (7, .int (nI (bxN P a lo hi9 b lo2 ze2 k9))), (0, .ref m9), (1, .int (nI a)), (2, .int lo), (3, .int hi9), (4, .int (nI b)), (5, .int lo2), (6, .int ze2)] → W p l e (gRm 1 0 0) s m args below meth c H locs 0 0 Z (F0 m 57 ls []) := by
          intro n
          induction n with
          | zero =>
            intro k9 ls hk9 hl
            have hk9 : k9 = 100 := by omega
            subst hk9
            refine lv_iload hx hb dX7_inBox_57 (lv_at hl 0 rfl) ?_
            refine lv_bipush (v := nI 100) hx hb dX7_inBox_59 (by decide) ?_
            refine lv_icmp_ge (tgt := 137) hx hb dX7_inBox_61 (by decide) (fun c3 => ?_) (fun c3 => ?_)
            · have c3 : 100 ≤ 100 := (nI_leI (by omega) (by omega)).mp c3
              refine lv_iload hx hb dX7_inBox_137 (lv_at hl 1 rfl) ?_
              exact hret (some (.int (nI (bxN P a lo hi9 b lo2 ze2 100)))) _ _ _ _ _ _ hW (⟨0, nI (bxN P a lo hi9 b lo2 ze2 100), rfl, rfl, hG0, Or.inr (Or.inr ⟨rfl, ⟨c1, c2⟩, trivial⟩), hRG, fun _ a2 b2 h1 h2 e1 e2 => by rw [nI_inj (by omega) (by omega) e1, nI_inj (by omega) (by omega) e2]⟩) (rt_i dX7_inBox_139)
            · have c3 : 100 < 100 := Nat.not_le.mp (fun z => c3 ((nI_leI (by omega) (by omega)).mpr z))
              exact absurd c3 (by decide)
          | succ n ih =>
            intro k9 ls hk9 hl
            have hb9 := bxN_le P a lo hi9 b lo2 ze2 k9
            refine lv_iload hx hb dX7_inBox_57 (lv_at hl 0 rfl) ?_
            refine lv_bipush (v := nI 100) hx hb dX7_inBox_59 (by decide) ?_
            refine lv_icmp_ge (tgt := 137) hx hb dX7_inBox_61 (by decide) (fun c3 => ?_) (fun c3 => ?_)
            · have c3 : 100 ≤ k9 := (nI_leI (by omega) (by omega)).mp c3
              exact absurd c3 (by omega)
            · have c3 : k9 < 100 := Nat.not_le.mp (fun z => c3 ((nI_leI (by omega) (by omega)).mpr z))
              refine lv_iload hx hb dX7_inBox_64 (lv_at hl 1 rfl) ?_
              refine lv_aload_n hx hb dX7_inBox_66 rfl (lv_at hl 2 rfl) ?_
              refine g_get (C := RX7) (T := TX7) (N := 31) hx hb hts hi7 hown hN hW.1 hk.1 rfl (by decide) 2 (by decide) hfX7_13 (v := .ref (B 2)) (hfG 2 rfl) dX7_inBox_67 ?_
              refine lv_iload hx hb dX7_inBox_70 (lv_at hl 0 rfl) ?_
              refine g_zald (j := k9) hx hb hN hW.1 (hk.2.1 2 (10, 100) rfl) (by decide) (show _ = nI k9 from rfl) (by omega) (v := .int (bI (P k9).isSome)) (hRG.2.2.1.1 k9 (by omega)) dX7_inBox_72 ?_
              refine lv_if_eq (tgt := 127) hx hb dX7_inBox_73 (by decide) (fun c4 => ?_) (fun c4 => ?_)
              · have c4 : (P k9).isSome = false := bI_0.mp c4
                have hn : P k9 = none := Option.not_isSome_iff_eq_none.mp (by rw [c4]; decide)
                have hbx := bxN_none (a := a) (lo := lo) (hi := hi9) (b := b) (lo2 := lo2) (hi2 := ze2) hn
                refine lv_iconst (v := nI 0) hx hb dX7_inBox_127 (by decide) ?_
                refine lv_iadd hx hb dX7_inBox_128 ?_
                refine g_asi (show _ = nI ((bxN P a lo hi9 b lo2 ze2 k9) + 0) from (nI_add _ _).trans (by rfl)) ?_
                refine lv_istore (lv' := [(7, .int (nI ((bxN P a lo hi9 b lo2 ze2 k9) + 0))), (8, .int (nI k9)), (0, .ref m9), (1, .int (nI a)), (2, .int lo), (3, .int hi9), (4, .int (nI b)), (5, .int lo2), (6, .int ze2)]) hx hb dX7_inBox_129 hl (by decide) rfl (fun ls hl => ?_)
                refine lv_iinc (v := nI (k9 + 1)) (lv' := [(8, .int (nI (k9 + 1))), (7, .int (nI ((bxN P a lo hi9 b lo2 ze2 k9) + 0))), (0, .ref m9), (1, .int (nI a)), (2, .int lo), (3, .int hi9), (4, .int (nI b)), (5, .int lo2), (6, .int ze2)]) hx hb dX7_inBox_131 hl (k := 1) rfl (inc1 _) (by decide) rfl (fun ls hl => ?_)
                refine lv_goto (tgt := 57) hx hb dX7_inBox_134 (by decide) ?_
                exact ih (k9 + 1) ls (by omega) (by rw [hbx]; exact lv_sub hl [0, 1, 2, 3, 4, 5, 6, 7, 8] rfl)
              · have c4 : (P k9).isSome = true := bI_n0.mp c4
                obtain ⟨p9, hp9⟩ := Option.isSome_iff_exists.mp c4
                have hbx := bxN_some (a := a) (lo := lo) (hi := hi9) (b := b) (lo2 := lo2) (hi2 := ze2) hp9
                refine lv_aload_n hx hb dX7_inBox_76 rfl (lv_at hl 2 rfl) ?_
                refine g_get (C := RX7) (T := TX7) (N := 31) hx hb hts hi7 hown hN hW.1 hk.1 rfl (by decide) 3 (by decide) hfX7_17 (v := .ref (B 3)) (hfG 3 rfl) dX7_inBox_77 ?_
                refine lv_iconst (v := nI 4) hx hb dX7_inBox_80 (by decide) ?_
                refine lv_iload hx hb dX7_inBox_81 (lv_at hl 0 rfl) ?_
                refine lv_imul hx hb dX7_inBox_83 ?_
                refine g_asi (show _ = nI (4 * k9) from (pk_mul _ _).trans (by rfl)) ?_
                refine lv_iload_n hx hb dX7_inBox_84 rfl (lv_at hl 3 rfl) ?_
                refine lv_iadd hx hb dX7_inBox_85 ?_
                refine g_asi (show _ = nI ((4 * k9) + a) from (nI_add _ _).trans (by rfl)) ?_
                refine g_iald (j := 4 * k9 + a) hx hb hN hW.1 (hk.2.1 3 (8, 400) rfl) (by decide) (show _ = nI (4 * k9 + a) from rfl) (by omega) (v := .int (p9 a)) (hRG.2.2.1.2 k9 p9 (by omega) hp9 a (by omega)) dX7_inBox_86 ?_
                refine lv_i2l (v := (p9 a).toInt64) hx hb dX7_inBox_87 rfl ?_
                refine lv_iload_n hx hb dX7_inBox_88 rfl (lv_at hl 4 rfl) ?_
                refine lv_i2l (v := lo.toInt64) hx hb dX7_inBox_89 rfl ?_
                refine lv_iload_n hx hb dX7_inBox_90 rfl (lv_at hl 5 rfl) ?_
                refine lv_i2l (v := hi9.toInt64) hx hb dX7_inBox_91 rfl ?_
                refine g_cS (v := (some (.int (bI (decide (lo.toInt64 ≤ (p9 a).toInt64 ∧ (p9 a).toInt64 ≤ hi9.toInt64)))))) (As := [.long ((p9 a).toInt64), .long lo.toInt64, .long hi9.toInt64]) (rest := [.int (nI (bxN P a lo hi9 b lo2 ze2 k9))]) hx hb hml hown hts hN hW.1 (m_in l Γ K G (p9 a).toInt64 lo.toInt64 hi9.toInt64) gX7_inBox_X7_in rfl (na := 3) rfl (by decide +kernel) ⟨by decide, by decide⟩ ⟨Nat.zero_le _, Nat.zero_le _⟩ rfl hl.1 (Nat.le_of_ble_eq_true rfl) dX7_inBox_92 ?_
                show W _ _ _ _ _ _ _ _ _ _ _ _ _ _ _ (F0 m 95 ls [.int (bI (decide (lo.toInt64 ≤ (p9 a).toInt64 ∧ (p9 a).toInt64 ≤ hi9.toInt64))), .int (nI (bxN P a lo hi9 b lo2 ze2 k9))])
                refine g_asi (show _ = bI (decide (lo ≤ p9 a ∧ p9 a ≤ hi9)) from by rw [inI]) ?_
                refine lv_if_eq (tgt := 127) hx hb dX7_inBox_95 (by decide) (fun c5 => ?_) (fun c5 => ?_)
                · have c5 : (decide (lo ≤ p9 a ∧ p9 a ≤ hi9)) = false := bI_0.mp c5
                  refine lv_iconst (v := nI 0) hx hb dX7_inBox_127 (by decide) ?_
                  refine lv_iadd hx hb dX7_inBox_128 ?_
                  refine g_asi (show _ = nI ((bxN P a lo hi9 b lo2 ze2 k9) + 0) from (nI_add _ _).trans (by rfl)) ?_
                  refine lv_istore (lv' := [(7, .int (nI ((bxN P a lo hi9 b lo2 ze2 k9) + 0))), (8, .int (nI k9)), (0, .ref m9), (1, .int (nI a)), (2, .int lo), (3, .int hi9), (4, .int (nI b)), (5, .int lo2), (6, .int ze2)]) hx hb dX7_inBox_129 hl (by decide) rfl (fun ls hl => ?_)
                  refine lv_iinc (v := nI (k9 + 1)) (lv' := [(8, .int (nI (k9 + 1))), (7, .int (nI ((bxN P a lo hi9 b lo2 ze2 k9) + 0))), (0, .ref m9), (1, .int (nI a)), (2, .int lo), (3, .int hi9), (4, .int (nI b)), (5, .int lo2), (6, .int ze2)]) hx hb dX7_inBox_131 hl (k := 1) rfl (inc1 _) (by decide) rfl (fun ls hl => ?_)
                  refine lv_goto (tgt := 57) hx hb dX7_inBox_134 (by decide) ?_
                  rw [if_neg (by unfold inBx; rw [c5]; simp)] at hbx
                  exact ih (k9 + 1) ls (by omega) (by rw [hbx]; exact lv_sub hl [0, 1, 2, 3, 4, 5, 6, 7, 8] rfl)
                · have c5 : (decide (lo ≤ p9 a ∧ p9 a ≤ hi9)) = true := bI_n0.mp c5
                  refine lv_aload_n hx hb dX7_inBox_98 rfl (lv_at hl 2 rfl) ?_
                  refine g_get (C := RX7) (T := TX7) (N := 31) hx hb hts hi7 hown hN hW.1 hk.1 rfl (by decide) 3 (by decide) hfX7_17 (v := .ref (B 3)) (hfG 3 rfl) dX7_inBox_99 ?_
                  refine lv_iconst (v := nI 4) hx hb dX7_inBox_102 (by decide) ?_
                  refine lv_iload hx hb dX7_inBox_103 (lv_at hl 0 rfl) ?_
                  refine lv_imul hx hb dX7_inBox_105 ?_
                  refine g_asi (show _ = nI (4 * k9) from (pk_mul _ _).trans (by rfl)) ?_
                  refine lv_iload hx hb dX7_inBox_106 (lv_at hl 6 rfl) ?_
                  refine lv_iadd hx hb dX7_inBox_108 ?_
                  refine g_asi (show _ = nI ((4 * k9) + b) from (nI_add _ _).trans (by rfl)) ?_
                  refine g_iald (j := 4 * k9 + b) hx hb hN hW.1 (hk.2.1 3 (8, 400) rfl) (by decide) (show _ = nI (4 * k9 + b) from rfl) (by omega) (v := .int (p9 b)) (hRG.2.2.1.2 k9 p9 (by omega) hp9 b (by omega)) dX7_inBox_109 ?_
                  refine lv_i2l (v := (p9 b).toInt64) hx hb dX7_inBox_110 rfl ?_
                  refine lv_iload hx hb dX7_inBox_111 (lv_at hl 7 rfl) ?_
                  refine lv_i2l (v := lo2.toInt64) hx hb dX7_inBox_113 rfl ?_
                  refine lv_iload hx hb dX7_inBox_114 (lv_at hl 8 rfl) ?_
                  refine lv_i2l (v := ze2.toInt64) hx hb dX7_inBox_116 rfl ?_
                  refine g_cS (v := (some (.int (bI (decide (lo2.toInt64 ≤ (p9 b).toInt64 ∧ (p9 b).toInt64 ≤ ze2.toInt64)))))) (As := [.long ((p9 b).toInt64), .long lo2.toInt64, .long ze2.toInt64]) (rest := [.int (nI (bxN P a lo hi9 b lo2 ze2 k9))]) hx hb hml hown hts hN hW.1 (m_in l Γ K G (p9 b).toInt64 lo2.toInt64 ze2.toInt64) gX7_inBox_X7_in rfl (na := 3) rfl (by decide +kernel) ⟨by decide, by decide⟩ ⟨Nat.zero_le _, Nat.zero_le _⟩ rfl hl.1 (Nat.le_of_ble_eq_true rfl) dX7_inBox_117 ?_
                  show W _ _ _ _ _ _ _ _ _ _ _ _ _ _ _ (F0 m 120 ls [.int (bI (decide (lo2.toInt64 ≤ (p9 b).toInt64 ∧ (p9 b).toInt64 ≤ ze2.toInt64))), .int (nI (bxN P a lo hi9 b lo2 ze2 k9))])
                  refine g_asi (show _ = bI (decide (lo2 ≤ p9 b ∧ p9 b ≤ ze2)) from by rw [inI]) ?_
                  refine lv_if_eq (tgt := 127) hx hb dX7_inBox_120 (by decide) (fun c6 => ?_) (fun c6 => ?_)
                  · have c6 : (decide (lo2 ≤ p9 b ∧ p9 b ≤ ze2)) = false := bI_0.mp c6
                    refine lv_iconst (v := nI 0) hx hb dX7_inBox_127 (by decide) ?_
                    refine lv_iadd hx hb dX7_inBox_128 ?_
                    refine g_asi (show _ = nI ((bxN P a lo hi9 b lo2 ze2 k9) + 0) from (nI_add _ _).trans (by rfl)) ?_
                    refine lv_istore (lv' := [(7, .int (nI ((bxN P a lo hi9 b lo2 ze2 k9) + 0))), (8, .int (nI k9)), (0, .ref m9), (1, .int (nI a)), (2, .int lo), (3, .int hi9), (4, .int (nI b)), (5, .int lo2), (6, .int ze2)]) hx hb dX7_inBox_129 hl (by decide) rfl (fun ls hl => ?_)
                    refine lv_iinc (v := nI (k9 + 1)) (lv' := [(8, .int (nI (k9 + 1))), (7, .int (nI ((bxN P a lo hi9 b lo2 ze2 k9) + 0))), (0, .ref m9), (1, .int (nI a)), (2, .int lo), (3, .int hi9), (4, .int (nI b)), (5, .int lo2), (6, .int ze2)]) hx hb dX7_inBox_131 hl (k := 1) rfl (inc1 _) (by decide) rfl (fun ls hl => ?_)
                    refine lv_goto (tgt := 57) hx hb dX7_inBox_134 (by decide) ?_
                    rw [if_neg (by unfold inBx; rw [c5, c6]; simp)] at hbx
                    exact ih (k9 + 1) ls (by omega) (by rw [hbx]; exact lv_sub hl [0, 1, 2, 3, 4, 5, 6, 7, 8] rfl)
                  · have c6 : (decide (lo2 ≤ p9 b ∧ p9 b ≤ ze2)) = true := bI_n0.mp c6
                    refine lv_iconst (v := nI 1) hx hb dX7_inBox_123 (by decide) ?_
                    refine lv_goto (tgt := 128) hx hb dX7_inBox_124 (by decide) ?_
                    refine lv_iadd hx hb dX7_inBox_128 ?_
                    refine g_asi (show _ = nI ((bxN P a lo hi9 b lo2 ze2 k9) + 1) from (nI_add _ _).trans (by rfl)) ?_
                    refine lv_istore (lv' := [(7, .int (nI ((bxN P a lo hi9 b lo2 ze2 k9) + 1))), (8, .int (nI k9)), (0, .ref m9), (1, .int (nI a)), (2, .int lo), (3, .int hi9), (4, .int (nI b)), (5, .int lo2), (6, .int ze2)]) hx hb dX7_inBox_129 hl (by decide) rfl (fun ls hl => ?_)
                    refine lv_iinc (v := nI (k9 + 1)) (lv' := [(8, .int (nI (k9 + 1))), (7, .int (nI ((bxN P a lo hi9 b lo2 ze2 k9) + 1))), (0, .ref m9), (1, .int (nI a)), (2, .int lo), (3, .int hi9), (4, .int (nI b)), (5, .int lo2), (6, .int ze2)]) hx hb dX7_inBox_131 hl (k := 1) rfl (inc1 _) (by decide) rfl (fun ls hl => ?_)
                    refine lv_goto (tgt := 57) hx hb dX7_inBox_134 (by decide) ?_
                    rw [if_pos (by unfold inBx; rw [c5, c6]; rfl)] at hbx
                    exact ih (k9 + 1) ls (by omega) (by rw [hbx]; exact lv_sub hl [0, 1, 2, 3, 4, 5, 6, 7, 8] rfl)
        exact loop 100 0 ls rfl (lv_sub hl [0, 1, 2, 3, 4, 5, 6, 7, 8] rfl)
      · have e1 : 0 < 0 := Nat.pos_of_ne_zero (fun z => e1 ((nI_le0 (by omega)).mpr z))
        exact absurd e1 (by decide)
