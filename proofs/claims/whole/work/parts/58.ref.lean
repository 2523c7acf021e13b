def JK2 : List Nat := [2, 3, 4, 6, 7, 8, 9, 10, 11, 12]
theorem JK2_some {j : Nat} (h : j ∈ JK2) : (mKd j).isSome = true ∧ j ≠ 17 ∧ j ≠ 18 ∧ j ≠ 19 ∧ j ≠ 24 ∧ j ≠ 25 ∧ j ≠ 26 ∧ j ≠ 29 ∧ j ≠ 30 := by
  revert j
  decide
theorem RS_list {F F' : gF} {m9 : Nat} {B : Nat → Nat} {d : Nat} {P : Nat → Option (Nat → Int32)} {t : TT gLb} {S S' : List (Nat × Int64)} {lk lk' bc bg bp : Nat} (h : RS F m9 B d P t S lk bc bg bp) (hm : ∀ j, j ≠ 0 → j ≠ 27 → j ≠ 28 → F' m9 j = F m9 j) (hB : ∀ j i, j ∈ JK2 → F' (B j) i = F (B j) i) (hl : RSl F' m9 B S') (h28' : F' m9 28 = .int (nI lk')) : RS F' m9 B d P t S' lk' bc bg bp := by
  obtain ⟨h1, h2, ⟨h3, h3'⟩, h5, ⟨tr, ht⟩, _, _, h14, h15, h16⟩ := h
  exact ⟨h1.up (fun j hj => hm j (fun e => by rw [e] at hj; exact absurd hj (by decide)) (fun e => by rw [e] at hj; exact absurd hj (by decide)) (fun e => by rw [e] at hj; exact absurd hj (by decide))), (hm 1 (by decide) (by decide) (by decide)).trans h2, ⟨fun i hi => (hB 2 i (by decide)).trans (h3 i hi), fun i p hi hp a ha => (hB 3 _ (by decide)).trans (h3' i p hi hp a ha)⟩, (hm 5 (by decide) (by decide) (by decide)).trans h5, ⟨tr, RSt_congr ht (hm 13 (by decide) (by decide) (by decide)) (fun j i hj => hB j i (List.mem_cons_of_mem _ (List.mem_cons_of_mem _ hj)))⟩, hl, h28', (hm 14 (by decide) (by decide) (by decide)).trans h14, (hm 15 (by decide) (by decide) (by decide)).trans h15, (hm 16 (by decide) (by decide) (by decide)).trans h16⟩
def lcK (P : Nat → Option (Nat → Int32)) (k : Nat) : Nat := ((List.range k).filter (fun i => (P i).isSome)).length
theorem lcK_succ (P : Nat → Option (Nat → Int32)) (k : Nat) : lcK P (k + 1) = lcK P k + if (P k).isSome then 1 else 0 := by
  unfold lcK
  rw [List.range_succ, List.filter_append, List.length_append]
  congr 1
  cases h : (P k).isSome with
  | false => simp [List.filter, h]
  | true => simp [List.filter, h]
theorem wthS_some {P : Nat → Option (Nat → Int32)} {q p : Nat → Int32} {most : Int64} {lim i : Nat} {S : List (Nat × Int64)} (h : P i = some p) : wthS P q most lim i S = if pDist p q ≤ most then offL lim (i, pDist p q) S else S := by unfold wthS; rw [h]
theorem wthS_none {P : Nat → Option (Nat → Int32)} {q : Nat → Int32} {most : Int64} {lim i : Nat} {S : List (Nat × Int64)} (h : P i = none) : wthS P q most lim i S = S := by unfold wthS; rw [h]
theorem wthL_ids {P : Nat → Option (Nat → Int32)} {q : Nat → Int32} {most : Int64} {lim : Nat} : ∀ k, (wthL P q most lim k).length ≤ lim ∧ ∀ y ∈ wthL P q most lim k, y.1 < k
  | 0 => ⟨Nat.zero_le _, fun y hy => by cases hy⟩
  | k + 1 => by
    obtain ⟨h1, h2⟩ := wthL_ids (P := P) (q := q) (most := most) (lim := lim) k
    rw [wthL_succ]
    cases hp : P k with
    | none => rw [wthS_none hp]; exact ⟨h1, fun y hy => Nat.lt_succ_of_lt (h2 y hy)⟩
    | some p =>
      rw [wthS_some hp]
      split
      · exact ⟨offL_len, fun y hy => by
          rcases offL_mem hy with e | e
          · rw [e]; exact Nat.lt_succ_self k
          · exact Nat.lt_succ_of_lt (h2 y e)⟩
      · exact ⟨h1, fun y hy => Nat.lt_succ_of_lt (h2 y hy)⟩
theorem wthL_lim {P : Nat → Option (Nat → Int32)} {q : Nat → Int32} {most : Int64} {a b : Nat} : ∀ k, lcK P k ≤ a → lcK P k ≤ b → wthL P q most a k = wthL P q most b k ∧ (wthL P q most b k).length ≤ lcK P k
  | 0, _, _ => ⟨rfl, Nat.zero_le _⟩
  | k + 1, ha, hb => by
    rw [lcK_succ] at ha hb ⊢
    obtain ⟨h1, h2⟩ := wthL_lim (P := P) (q := q) (most := most) (a := a) (b := b) k (by omega) (by omega)
    rw [wthL_succ, wthL_succ, h1]
    cases hp : P k with
    | none => rw [wthS_none hp, wthS_none hp]; exact ⟨rfl, Nat.le_trans h2 (Nat.le_add_right _ _)⟩
    | some p =>
      rw [hp] at ha hb
      have ha : lcK P k + 1 ≤ a := ha
      have hb : lcK P k + 1 ≤ b := hb
      rw [wthS_some hp, wthS_some hp]
      show _ ∧ _ ≤ lcK P k + 1
      split
      · rw [← offL_room (by omega), ← offL_room (by omega), insR_len]
        exact ⟨rfl, by omega⟩
      · exact ⟨rfl, by omega⟩
theorem okNum_sub {a b : Int32} (ha : okNum a = true) (hb : okNum b = true) : (a - b).toInt = a.toInt - b.toInt ∧ -10000 ≤ a.toInt ∧ a.toInt ≤ 10000 ∧ -10000 ≤ b.toInt ∧ b.toInt ≤ 10000 := by
  have ha := of_decide_eq_true ha
  have hb := of_decide_eq_true hb
  rw [Int32.le_iff_toInt_le, Int32.le_iff_toInt_le, show (-10000 : Int32).toInt = -10000 from by decide, show (10000 : Int32).toInt = 10000 from by decide] at ha hb
  refine ⟨?_, ha.1, ha.2, hb.1, hb.2⟩
  rw [Int32.toInt_sub]
  exact Int.bmod_eq_of_le (by omega) (by omega)
theorem sqI_swap {a b : Int32} (ha : okNum a = true) (hb : okNum b = true) : sqI (a - b) = sqI (b - a) := by
  have h := okNum_sub ha hb
  have h2 := okNum_sub hb ha
  rw [← sqI_neg (a - b) (fun e => by rw [e] at h; have := h.1; rw [show (-2147483648 : Int32).toInt = -2147483648 from by decide] at this; omega), Int32.neg_sub]
theorem pDist_swap {p q : Nat → Int32} (hp : ∀ a, a < 4 → okNum (p a) = true) (hq : ∀ a, a < 4 → okNum (q a) = true) : pDist p q = pDist q p := by
  unfold pDist
  rw [sqI_swap (hp 0 (by decide)) (hq 0 (by decide)), sqI_swap (hp 1 (by decide)) (hq 1 (by decide)), sqI_swap (hp 2 (by decide)) (hq 2 (by decide)), sqI_swap (hp 3 (by decide)) (hq 3 (by decide))]
theorem sqI_int {a b : Int32} (ha : okNum a = true) (hb : okNum b = true) : (sqI (a - b)).toInt = (a.toInt - b.toInt) * (a.toInt - b.toInt) ∧ 0 ≤ (sqI (a - b)).toInt ∧ (sqI (a - b)).toInt ≤ 400000000 := by
  obtain ⟨h, h1, h2, h3, h4⟩ := okNum_sub ha hb
  have hx : ∀ x : Int, -20000 ≤ x → x ≤ 20000 → 0 ≤ x * x ∧ x * x ≤ 400000000 := fun x e1 e2 => by
    have q1 : x.natAbs ≤ 20000 := by omega
    have q2 := Nat.mul_le_mul q1 q1
    have q3 : x * x = ((x.natAbs * x.natAbs : Nat) : Int) := Int.natAbs_mul_self.symm
    omega
  have hb2 := hx (a.toInt - b.toInt) (by omega) (by omega)
  have e : (sqI (a - b)).toInt = (a.toInt - b.toInt) * (a.toInt - b.toInt) := by
    unfold sqI
    rw [Int64.toInt_mul, Int32.toInt_toInt64, h]
    exact Int.bmod_eq_of_le (by omega) (by omega)
  rw [e]
  exact ⟨rfl, hb2⟩
theorem pDist_int {p q : Nat → Int32} (hp : ∀ a, a < 4 → okNum (p a) = true) (hq : ∀ a, a < 4 → okNum (q a) = true) : 0 ≤ (pDist p q).toInt ∧ (pDist p q).toInt ≤ 1600000000 := by
  have h0 := (sqI_int (hp 0 (by decide)) (hq 0 (by decide))).2
  have h1 := (sqI_int (hp 1 (by decide)) (hq 1 (by decide))).2
  have h2 := (sqI_int (hp 2 (by decide)) (hq 2 (by decide))).2
  have h3 := (sqI_int (hp 3 (by decide)) (hq 3 (by decide))).2
  have e1 : (sqI (p 0 - q 0) + sqI (p 1 - q 1)).toInt = (sqI (p 0 - q 0)).toInt + (sqI (p 1 - q 1)).toInt := by rw [Int64.toInt_add]; exact Int.bmod_eq_of_le (by omega) (by omega)
  have e2 : (sqI (p 0 - q 0) + sqI (p 1 - q 1) + sqI (p 2 - q 2)).toInt = (sqI (p 0 - q 0)).toInt + (sqI (p 1 - q 1)).toInt + (sqI (p 2 - q 2)).toInt := by rw [Int64.toInt_add, e1]; exact Int.bmod_eq_of_le (by omega) (by omega)
  have e3 : (pDist p q).toInt = (sqI (p 0 - q 0)).toInt + (sqI (p 1 - q 1)).toInt + (sqI (p 2 - q 2)).toInt + (sqI (p 3 - q 3)).toInt := by unfold pDist; rw [Int64.toInt_add, e2]; exact Int.bmod_eq_of_le (by omega) (by omega)
  omega
/-- the points' numbers -/
def okP (P : Nat → Option (Nat → Int32)) : Prop := ∀ i p, i < 100 → P i = some p → ∀ a, a < 4 → okNum (p a) = true

set_option maxHeartbeats 4000000 in
set_option maxRecDepth 100000 in
theorem m_within (l : Launch) (Γ : gG) (K : gK) (F : gF) (sz : Nat) (m9 : Nat) (B : Nat → Nat) (hk : MKk K m9 B) (d : Nat) (P : Nat → Option (Nat → Int32)) (t : TT gLb) (S : List (Nat × Int64)) (lk bc bg bp : Nat) (hR : RS F m9 B d P t S lk bc bg bp) (hd4 : d ≤ 4) (hoP : okP P) (hlc : lcP P ≤ 60) (most : Int64) (xx yy zz ww : Int32) : gMM l yX7_within wsX7_within 2 0 0 Γ K F sz [.ref m9, .long most, .int xx, .int yy, .int zz, .int ww] (fun v K' F' => ∃ th r, v = some (.int r) ∧ K' = K ∧ F' m9 0 = .int (nI th) ∧ thR th (¬ most < 0 ∧ okPl d xx yy zz ww = true) True ∧ (th ≠ 0 → RS F' m9 B d P t S lk bc bg bp) ∧ (th = 0 → r = nI (wthL P (mkC d xx yy zz ww) most 60 100).length ∧ RS F' m9 B d P t (wthL P (mkC d xx yy zz ww) most 60 100) lk bc bg bp)) := by
  refine g_mM (cc := cX7_within) (maxL := 8) (ret := (some .int)) (by decide) rfl (Nat.le_of_ble_eq_true rfl) ?_
  intro p e s m args below meth c ls Z hsz hx hb hts hown hml hnm hN hW hret hl
  have hl : lv_has ls 8 [(0, .ref m9), (1, .long most), (3, .int xx), (4, .int yy), (5, .int zz), (6, .int ww)] := hl
  have hown : s.vm.findClass RX7 = some m.cls := hown
  have hi7 : ∀ w ∈ wsX70, w ∈ wsX7_within := by decide +kernel
  have hfX7_1 : Cond.fieldLink RX7 1 (TX7 0).1 (TX7 0).2.1 (TX7 0).2.2.1 ∈ wsX7_within := by decide +kernel
  have hfX7_13 : Cond.fieldLink RX7 13 (TX7 2).1 (TX7 2).2.1 (TX7 2).2.2.1 ∈ wsX7_within := by decide +kernel
  have hfX7_150 : Cond.fieldLink RX7 150 (TX7 27).1 (TX7 27).2.1 (TX7 27).2.2.1 ∈ wsX7_within := by decide +kernel
  have hf := hR.1
  refine lv_aload_n hx hb dX7_within_0 rfl (lv_at hl 0 rfl) ?_
  refine lv_lload_n hx hb dX7_within_1 rfl (lv_at hl 1 rfl) ?_
  refine lv_lconst (v := 0) hx hb dX7_within_2 (by decide) ?_
  refine W.lcmp hx hb dX7_within_3 ?_
  refine lv_if_lt (tgt := 21) hx hb dX7_within_4 (by decide) (fun c1 => ?_) (fun c1 => ?_)
  · have c1 : _ := (lg_cmp_lt _ _).mp c1
    refine lv_iconst (v := nI 1) hx hb dX7_within_21 (by decide) ?_
    refine lv_goto (tgt := 26) hx hb dX7_within_22 (by decide) ?_
    refine g_put (C := RX7) (T := TX7) (N := 31) hx hb hts hi7 tyX7 tyX7_ok nmX7 hown hN hW hk.1 rfl (by decide) 0 (by decide) hfX7_1 rfl rfl rfl dX7_within_26 (fun H locs hW => ?_)
    refine lv_aload_n hx hb dX7_within_29 rfl (lv_at hl 0 rfl) ?_
    refine g_get (C := RX7) (T := TX7) (N := 31) hx hb hts hi7 hown hN hW.1 hk.1 rfl (by decide) 0 (by decide) hfX7_1 (v := .int (nI 1)) gU_self dX7_within_30 ?_
    refine lv_if_le (tgt := 38) hx hb dX7_within_33 (by decide) (fun e1 => ?_) (fun e1 => ?_)
    · have e1 : 1 = 0 := (nI_le0 (by omega)).mp e1
      exact absurd e1 (by decide)
    · have e1 : 0 < 1 := Nat.pos_of_ne_zero (fun z => e1 ((nI_le0 (by omega)).mpr z))
      refine lv_iconst (v := nI 0) hx hb dX7_within_36 (by decide) ?_
      exact hret (some (.int (nI 0))) _ _ _ _ _ _ hW (⟨1, nI 0, rfl, rfl, gU_self, Or.inl ⟨rfl, fun z => z.1 c1⟩, (fun _ => hR.thr hk), fun z => absurd z (by decide)⟩) (rt_i dX7_within_37)
  · have c1 : ¬ _ := fun z => c1 ((lg_cmp_lt _ _).mpr z)
    refine lv_aload_n hx hb dX7_within_7 rfl (lv_at hl 0 rfl) ?_
    refine lv_iload_n hx hb dX7_within_8 rfl (lv_at hl 2 rfl) ?_
    refine lv_iload hx hb dX7_within_9 (lv_at hl 3 rfl) ?_
    refine lv_iload hx hb dX7_within_11 (lv_at hl 4 rfl) ?_
    refine lv_iload hx hb dX7_within_13 (lv_at hl 5 rfl) ?_
    refine g_cV (v := (some (.int (bI (okPl d xx yy zz ww))))) (As := [.int xx, .int yy, .int zz, .int ww]) (b := m9) (rest := [.ref m9]) hx hb hml hown hts hN hW.1 (m_areNumbers l Γ K F m9 d xx yy zz ww hk.1 hR.2.1 hd4) gX7_within_X7_areNumbers rfl hk.1 (by decide) rfl (na := 4) rfl (by decide +kernel) ⟨by decide, by decide⟩ ⟨Nat.zero_le _, Nat.zero_le _⟩ rfl hl.1 (Nat.le_of_ble_eq_true rfl) dX7_within_15 ?_
    show W _ _ _ _ _ _ _ _ _ _ _ _ _ _ _ (F0 m 18 ls [.int (bI (okPl d xx yy zz ww)), .ref m9])
    refine lv_if_ne (tgt := 25) hx hb dX7_within_18 (by decide) (fun c2 => ?_) (fun c2 => ?_)
    · have c2 : (okPl d xx yy zz ww) = true := bI_n0.mp c2
      refine lv_iconst (v := nI 0) hx hb dX7_within_25 (by decide) ?_
      refine g_put (C := RX7) (T := TX7) (N := 31) hx hb hts hi7 tyX7 tyX7_ok nmX7 hown hN hW hk.1 rfl (by decide) 0 (by decide) hfX7_1 rfl rfl rfl dX7_within_26 (fun H locs hW => ?_)
      refine lv_aload_n hx hb dX7_within_29 rfl (lv_at hl 0 rfl) ?_
      refine g_get (C := RX7) (T := TX7) (N := 31) hx hb hts hi7 hown hN hW.1 hk.1 rfl (by decide) 0 (by decide) hfX7_1 (v := .int (nI 0)) gU_self dX7_within_30 ?_
      refine lv_if_le (tgt := 38) hx hb dX7_within_33 (by decide) (fun e1 => ?_) (fun e1 => ?_)
      · have e1 : 0 = 0 := (nI_le0 (by omega)).mp e1
        have hRG : RS (gU F m9 0 (.int (nI 0))) m9 B d P t S lk bc bg bp := hR.thr hk
        have hG0 : gU F m9 0 (.int (nI 0)) m9 0 = .int (nI 0) := gU_self
        generalize gU F m9 0 (.int (nI 0)) = G at hW hRG hG0
        refine lv_aload_n hx hb dX7_within_38 rfl (lv_at hl 0 rfl) ?_
        refine lv_iload_n hx hb dX7_within_39 rfl (lv_at hl 2 rfl) ?_
        refine lv_iload hx hb dX7_within_40 (lv_at hl 3 rfl) ?_
        refine lv_iload hx hb dX7_within_42 (lv_at hl 4 rfl) ?_
        refine lv_iload hx hb dX7_within_44 (lv_at hl 5 rfl) ?_
        refine g_mV (As := [.int xx, .int yy, .int zz, .int ww]) (b := m9) (rest := []) hx hb hml hown hts hN hW (m_aimAt l Γ K G H.size m9 B hk hRG.1 d hRG.2.1 hd4 xx yy zz ww) gX7_within_X7_aimAt rfl hk.1 (by decide) rfl (na := 4) rfl (by decide +kernel) ⟨by decide, by decide⟩ ⟨Nat.le_of_ble_eq_true rfl, Nat.le_of_ble_eq_true rfl⟩ rfl hl.1 (Nat.le_of_ble_eq_true rfl) dX7_within_46 (fun v K' F2 H locs hp hW hsz' => ?_)
        obtain ⟨rfl, hK9, haim, hfr2⟩ := hp
        subst K'
        show W _ _ _ _ _ _ _ _ _ _ _ _ _ _ _ (F0 m 49 ls [])
        refine lv_aload_n hx hb dX7_within_49 rfl (lv_at hl 0 rfl) ?_
        refine lv_iconst (v := nI 0) hx hb dX7_within_50 (by decide) ?_
        refine g_put (C := RX7) (T := TX7) (N := 31) hx hb hts hi7 tyX7 tyX7_ok nmX7 hown hN hW hk.1 rfl (by decide) 27 (by decide) hfX7_150 rfl rfl rfl dX7_within_51 (fun H locs hW => ?_)
        obtain ⟨F3, hF3⟩ : ∃ f, f = gU F2 m9 27 (.int (nI 0)) := ⟨_, rfl⟩
        rw [← hF3] at hW
        have e3 : ∀ b i, b ≠ B 24 → ¬ (b = m9 ∧ i = 27) → F3 b i = G b i := fun b i h1 h2 => by rw [hF3, gU_ne h2]; exact hfr2 b i h1
        have hm3 : ∀ i, i ≠ 27 → F3 m9 i = G m9 i := fun i hi => e3 _ i (fun z => hk.nm (i := 24) rfl z.symm) (fun z => hi z.2)
        have ha3 : ∀ a, a < 4 → F3 (B 24) a = .int (mkC d xx yy zz ww a) := fun a ha => by rw [hF3, gU_a (hk.nm (i := 24) rfl)]; exact haim a ha
        have hl3 : RSl F3 m9 B [] := ⟨by rw [hF3, gU_self]; rfl, rowL.nil, rowL.nil⟩
        have hoq : ∀ a, a < 4 → okNum ((mkC d xx yy zz ww) a) = true := okPl_mkC c2
        refine lv_iconst (v := nI 0) hx hb dX7_within_54 (by decide) ?_
        refine lv_istore (lv' := [(7, .int (nI 0)), (0, .ref m9), (1, .long most), (3, .int xx), (4, .int yy), (5, .int zz), (6, .int ww)]) hx hb dX7_within_55 hl (by decide) rfl (fun ls hl => ?_)
        have loop : ∀ (n k9 : Nat) (F4 : gF) (H : Heap) (locs : List Loc) (ls : Array Slot), n + k9 = 100 → RSl F4 m9 B (wthL P (mkC d xx yy zz ww) most 100 k9) → (∀ b i, b ≠ B 25 → b ≠ B 26 → ¬ (b = m9 ∧ i = 27) → F4 b i = F3 b i) → gW Γ (gA K sz) s.heap K F4 H locs → lv_has ls 8 [(7, .int (nI k9)), (0, .ref m9), (1, .long most)] → W p l e (gRm 2 0 0) s m args below meth c H locs 0 0 Z (F0 m 57 ls []) := by
          intro n
          induction n with
          | zero =>
            intro k9 F4 H locs ls hk9 hl4 hfr4 hW hl
            have hm4 : ∀ i, i ≠ 27 → F4 m9 i = G m9 i := fun i hi => (hfr4 _ i (fun z => hk.nm (i := 25) rfl z.symm) (fun z => hk.nm (i := 26) rfl z.symm) (fun z => hi z.2)).trans (hm3 i hi)
            have e4 : ∀ j i, (mKd j).isSome = true → j ≠ 24 → j ≠ 25 → j ≠ 26 → F4 (B j) i = G (B j) i := fun j i h1 h2 h3 h4 => (hfr4 _ i (hk.ne h1 rfl h3) (hk.ne h1 rfl h4) (fun z => hk.nm h1 z.1)).trans (e3 _ i (hk.ne h1 rfl h2) (fun z => hk.nm h1 z.1))
            have hf4 : MKf F4 m9 B := hRG.1.up (fun j hj => hm4 j (fun e => by rw [e] at hj; exact absurd hj (by decide)))
            obtain rfl : k9 = 100 := by omega
            refine lv_iload hx hb dX7_within_57 (lv_at hl 0 rfl) ?_
            refine lv_bipush (v := nI 100) hx hb dX7_within_59 (by decide) ?_
            refine lv_icmp_ge (tgt := 99) hx hb dX7_within_61 (by decide) (fun c3 => ?_) (fun c3 => ?_)
            · have c3 : 100 ≤ 100 := (nI_leI (by omega) (by omega)).mp c3
              refine lv_aload_n hx hb dX7_within_99 rfl (lv_at hl 1 rfl) ?_
              refine g_get (C := RX7) (T := TX7) (N := 31) hx hb hts hi7 hown hN hW.1 hk.1 rfl (by decide) 27 (by decide) hfX7_150 (v := .int (nI (wthL P (mkC d xx yy zz ww) most 100 100).length)) hl4.1 dX7_within_100 ?_
              have h60 : wthL P (mkC d xx yy zz ww) most 100 100 = wthL P (mkC d xx yy zz ww) most 60 100 := (wthL_lim 100 (Nat.le_trans hlc (by decide)) hlc).1
              rw [h60] at hl4
              exact hret (some (.int (nI (wthL P (mkC d xx yy zz ww) most 100 100).length))) _ _ _ _ _ _ hW (⟨0, nI (wthL P (mkC d xx yy zz ww) most 100 100).length, rfl, rfl, (hm4 0 (by decide)).trans hG0, Or.inr (Or.inr ⟨rfl, ⟨c1, c2⟩, trivial⟩), fun z => absurd rfl z, fun _ => ⟨by rw [h60], RS_list hRG (fun j h1 h2 h3 => hm4 j h2) (fun j i hj => e4 j i (JK2_some hj).1 (JK2_some hj).2.2.2.2.1 (JK2_some hj).2.2.2.2.2.1 (JK2_some hj).2.2.2.2.2.2.1) hl4 ((hm4 28 (by decide)).trans hRG.2.2.2.2.2.2.1)⟩⟩) (rt_i dX7_within_103)
            · have c3 : 100 < 100 := Nat.not_le.mp (fun z => c3 ((nI_leI (by omega) (by omega)).mpr z))
              exact absurd c3 (by decide)
          | succ n ih =>
            intro k9 F4 H locs ls hk9 hl4 hfr4 hW hl
            have hm4 : ∀ i, i ≠ 27 → F4 m9 i = G m9 i := fun i hi => (hfr4 _ i (fun z => hk.nm (i := 25) rfl z.symm) (fun z => hk.nm (i := 26) rfl z.symm) (fun z => hi z.2)).trans (hm3 i hi)
            have e4 : ∀ j i, (mKd j).isSome = true → j ≠ 24 → j ≠ 25 → j ≠ 26 → F4 (B j) i = G (B j) i := fun j i h1 h2 h3 h4 => (hfr4 _ i (hk.ne h1 rfl h3) (hk.ne h1 rfl h4) (fun z => hk.nm h1 z.1)).trans (e3 _ i (hk.ne h1 rfl h2) (fun z => hk.nm h1 z.1))
            have hf4 : MKf F4 m9 B := hRG.1.up (fun j hj => hm4 j (fun e => by rw [e] at hj; exact absurd hj (by decide)))
            refine lv_iload hx hb dX7_within_57 (lv_at hl 0 rfl) ?_
            refine lv_bipush (v := nI 100) hx hb dX7_within_59 (by decide) ?_
            refine lv_icmp_ge (tgt := 99) hx hb dX7_within_61 (by decide) (fun c3 => ?_) (fun c3 => ?_)
            · have c3 : 100 ≤ k9 := (nI_leI (by omega) (by omega)).mp c3
              exact absurd c3 (by omega)
            · have c3 : k9 < 100 := Nat.not_le.mp (fun z => c3 ((nI_leI (by omega) (by omega)).mpr z))
              refine lv_aload_n hx hb dX7_within_64 rfl (lv_at hl 1 rfl) ?_
              refine g_get (C := RX7) (T := TX7) (N := 31) hx hb hts hi7 hown hN hW.1 hk.1 rfl (by decide) 2 (by decide) hfX7_13 (v := .ref (B 2)) (hf4 2 rfl) dX7_within_65 ?_
              refine lv_iload hx hb dX7_within_68 (lv_at hl 0 rfl) ?_
              refine g_zald (j := k9) hx hb hN hW.1 (hk.2.1 2 (10, 100) rfl) (by decide) (show _ = nI k9 from rfl) (by omega) (v := .int (bI (P k9).isSome)) ((e4 2 k9 rfl (by decide) (by decide) (by decide)).trans (hRG.2.2.1.1 k9 (by omega))) dX7_within_70 ?_
              refine lv_if_eq (tgt := 93) hx hb dX7_within_71 (by decide) (fun c4 => ?_) (fun c4 => ?_)
              · have c4 : (P k9).isSome = false := bI_0.mp c4
                have hn : P k9 = none := Option.not_isSome_iff_eq_none.mp (by rw [c4]; decide)
                refine lv_iinc (v := nI (k9 + 1)) (lv' := [(7, .int (nI (k9 + 1))), (0, .ref m9), (1, .long most)]) hx hb dX7_within_93 hl (k := 0) rfl (inc1 _) (by decide) rfl (fun ls hl => ?_)
                refine lv_goto (tgt := 57) hx hb dX7_within_96 (by decide) ?_
                exact ih (k9 + 1) F4 H locs ls (by omega) (by rw [wthL_succ, wthS_none hn]; exact hl4) hfr4 hW (lv_sub hl [0, 1, 2] rfl)
              · have c4 : (P k9).isSome = true := bI_n0.mp c4
                obtain ⟨p9, hp9⟩ := Option.isSome_iff_exists.mp c4
                have hrow : ∀ a, a < 4 → F4 (B 3) (4 * k9 + a) = .int (p9 a) := fun a ha => (e4 3 _ rfl (by decide) (by decide) (by decide)).trans (hRG.2.2.1.2 k9 p9 (by omega) hp9 a ha)
                have ham : ∀ a, a < 4 → F4 (B 24) a = .int (mkC d xx yy zz ww a) := fun a ha => (hfr4 _ a (hk.ne (i := 24) (j := 25) rfl rfl (by decide)) (hk.ne (i := 24) (j := 26) rfl rfl (by decide)) (fun z => (hk.nm (i := 24) rfl) z.1)).trans (ha3 a ha)
                have hsw : pDist (mkC d xx yy zz ww) p9 = pDist p9 (mkC d xx yy zz ww) := pDist_swap hoq (hoP k9 p9 (by omega) hp9)
                have hwi := wthL_ids (P := P) (q := (mkC d xx yy zz ww)) (most := most) (lim := 100) k9
                refine lv_aload_n hx hb dX7_within_74 rfl (lv_at hl 1 rfl) ?_
                refine lv_iload hx hb dX7_within_75 (lv_at hl 0 rfl) ?_
                refine g_cV (v := (some (.long (pDist (mkC d xx yy zz ww) p9)))) (As := [.int (nI k9)]) (b := m9) (rest := []) hx hb hml hown hts hN hW.1 (m_away l Γ K F4 m9 B hk hf4 k9 (by omega) (mkC d xx yy zz ww) p9 ham hrow) gX7_within_X7_away rfl hk.1 (by decide) rfl (na := 1) rfl (by decide +kernel) ⟨by decide, by decide⟩ ⟨Nat.zero_le _, Nat.zero_le _⟩ rfl hl.1 (Nat.le_of_ble_eq_true rfl) dX7_within_77 ?_
                show W _ _ _ _ _ _ _ _ _ _ _ _ _ _ _ (F0 m 80 ls [.long (pDist (mkC d xx yy zz ww) p9)])
                refine lv_lload_n hx hb dX7_within_80 rfl (lv_at hl 2 rfl) ?_
                refine W.lcmp hx hb dX7_within_81 ?_
                refine lv_if_gt (tgt := 93) hx hb dX7_within_82 (by decide) (fun c5 => ?_) (fun c5 => ?_)
                · have c5 : _ := (lg_cmp_gt _ _).mp c5
                  refine lv_iinc (v := nI (k9 + 1)) (lv' := [(7, .int (nI (k9 + 1))), (0, .ref m9), (1, .long most)]) hx hb dX7_within_93 hl (k := 0) rfl (inc1 _) (by decide) rfl (fun ls hl => ?_)
                  refine lv_goto (tgt := 57) hx hb dX7_within_96 (by decide) ?_
                  exact ih (k9 + 1) F4 H locs ls (by omega) (by rw [wthL_succ, wthS_some hp9, if_neg (by rw [← hsw]; exact Int64.not_le.mpr c5)]; exact hl4) hfr4 hW (lv_sub hl [0, 1, 2] rfl)
                · have c5 : ¬ _ := fun z => c5 ((lg_cmp_gt _ _).mpr z)
                  refine lv_aload_n hx hb dX7_within_85 rfl (lv_at hl 1 rfl) ?_
                  refine lv_iload hx hb dX7_within_86 (lv_at hl 0 rfl) ?_
                  refine lv_bipush (v := nI 100) hx hb dX7_within_88 (by decide) ?_
                  refine g_mV (As := [.int (nI k9), .int (nI 100)]) (b := m9) (rest := []) hx hb hml hown hts hN hW (m_come l Γ K F4 H.size m9 B hk hf4 k9 100 (by omega) (mkC d xx yy zz ww) p9 ham hrow (wthL P (mkC d xx yy zz ww) most 100 k9) hl4 hwi.1 (by decide) (fun y hy => Nat.lt_trans (hwi.2 y hy) (by omega))) gX7_within_X7_come rfl hk.1 (by decide) rfl (na := 2) rfl (by decide +kernel) ⟨by decide, by decide⟩ ⟨Nat.le_of_ble_eq_true rfl, Nat.le_of_ble_eq_true rfl⟩ rfl hl.1 (Nat.le_of_ble_eq_true rfl) dX7_within_90 (fun v K' F5 H locs hp hW hsz' => ?_)
                  obtain ⟨rfl, hK9, hl5, hfr5⟩ := hp
                  subst K'
                  show W _ _ _ _ _ _ _ _ _ _ _ _ _ _ _ (F0 m 93 ls [])
                  refine lv_iinc (v := nI (k9 + 1)) (lv' := [(7, .int (nI (k9 + 1))), (0, .ref m9), (1, .long most)]) hx hb dX7_within_93 hl (k := 0) rfl (inc1 _) (by decide) rfl (fun ls hl => ?_)
                  refine lv_goto (tgt := 57) hx hb dX7_within_96 (by decide) ?_
                  exact ih (k9 + 1) F5 H locs ls (by omega) (by rw [wthL_succ, wthS_some hp9, if_pos (by rw [← hsw]; exact Int64.not_lt.mp c5), ← hsw]; exact hl5) (fun b i h1 h2 h3 => (hfr5 b i h1 h2 h3).trans (hfr4 b i h1 h2 h3)) hW (lv_sub hl [0, 1, 2] rfl)
        exact loop 100 0 F3 H locs ls rfl hl3 (fun _ _ _ _ _ => rfl) hW (lv_sub hl [0, 1, 2] rfl)
      · have e1 : 0 < 0 := Nat.pos_of_ne_zero (fun z => e1 ((nI_le0 (by omega)).mpr z))
        exact absurd e1 (by decide)
    · have c2 : (okPl d xx yy zz ww) = false := bI_0.mp c2
      refine lv_iconst (v := nI 1) hx hb dX7_within_21 (by decide) ?_
      refine lv_goto (tgt := 26) hx hb dX7_within_22 (by decide) ?_
      refine g_put (C := RX7) (T := TX7) (N := 31) hx hb hts hi7 tyX7 tyX7_ok nmX7 hown hN hW hk.1 rfl (by decide) 0 (by decide) hfX7_1 rfl rfl rfl dX7_within_26 (fun H locs hW => ?_)
      refine lv_aload_n hx hb dX7_within_29 rfl (lv_at hl 0 rfl) ?_
      refine g_get (C := RX7) (T := TX7) (N := 31) hx hb hts hi7 hown hN hW.1 hk.1 rfl (by decide) 0 (by decide) hfX7_1 (v := .int (nI 1)) gU_self dX7_within_30 ?_
      refine lv_if_le (tgt := 38) hx hb dX7_within_33 (by decide) (fun e1 => ?_) (fun e1 => ?_)
      · have e1 : 1 = 0 := (nI_le0 (by omega)).mp e1
        exact absurd e1 (by decide)
      · have e1 : 0 < 1 := Nat.pos_of_ne_zero (fun z => e1 ((nI_le0 (by omega)).mpr z))
        refine lv_iconst (v := nI 0) hx hb dX7_within_36 (by decide) ?_
        exact hret (some (.int (nI 0))) _ _ _ _ _ _ hW (⟨1, nI 0, rfl, rfl, gU_self, Or.inl ⟨rfl, fun z => by rw [c2] at z; exact absurd z.2 (by decide)⟩, (fun _ => hR.thr hk), fun z => absurd z (by decide)⟩) (rt_i dX7_within_37)
