theorem nodeA_map {α β : Type} (f : α → β) (g : β → gPt × Bool) (q : cxT α × TT α × TT α) (w : Nat) : nodeA g (cMap f q.1, tMap f q.2.1, tMap f q.2.2) w = nodeA (fun a => g (f a)) q w := by
  obtain ⟨c, l, r⟩ := q
  unfold nodeA
  simp only [cMap_len, tSz_map]
  cases c with
  | nil => rfl
  | cons z c => rfl
theorem locG_RX {F : gF} {B : Nat → Nat} {m : Nat} {P : mLb → Bool} : ∀ {t : TT mLb} {c0 c : cxT mLb} {l r : TT mLb}, RX F B t (cTI c0) → CX F B m c0 (rtI t) → locG P t c0 = some (c, l, r) → ∃ a, P a = true ∧ a ∈ tPre t ∧ RX F B (tN l a r) (cTI c) ∧ CX F B m c (some a.1) ∧ (tPre t ++ cAd c0).Perm (a :: (tPre l ++ tPre r) ++ cAd c) := by
  intro t
  induction t with
  | leaf => intro c0 c l r _ _ h; cases h
  | inner s a v L R ihl ihr =>
    intro c0 c l r hX hC h
    rw [locG] at h
    split at h
    · rename_i hp
      cases h
      exact ⟨a, hp, List.mem_cons_self, hX, hC, List.Perm.refl _⟩
    · cases h1 : locG P L ((true, a, R) :: c0) with
      | some q =>
        rw [h1] at h
        cases h
        obtain ⟨z, z1, z2, z3, z4, z5⟩ := ihl (c0 := (true, a, R) :: c0) hX.2.1 ⟨hX.1, hX.2.2, hC⟩ h1
        refine ⟨z, z1, List.mem_cons_of_mem _ (List.mem_append_left _ z2), z3, z4, List.Perm.trans ?_ z5⟩
        show (a :: (tPre L ++ tPre R) ++ cAd c0).Perm (tPre L ++ a :: (tPre R ++ cAd c0))
        rw [List.cons_append, List.append_assoc]
        exact List.perm_middle.symm
      | none =>
        rw [h1] at h
        have h : locG P R ((false, a, L) :: c0) = some (c, l, r) := h
        obtain ⟨z, z1, z2, z3, z4, z5⟩ := ihr (c0 := (false, a, L) :: c0) hX.2.2 ⟨hX.1, hX.2.1, hC⟩ h
        refine ⟨z, z1, List.mem_cons_of_mem _ (List.mem_append_right _ z2), z3, z4, List.Perm.trans ?_ z5⟩
        show (a :: (tPre L ++ tPre R) ++ cAd c0).Perm (tPre R ++ a :: (tPre L ++ cAd c0))
        refine List.Perm.trans ?_ List.perm_middle.symm
        rw [List.cons_append]
        refine List.Perm.cons a ?_
        rw [← List.append_assoc]
        exact List.Perm.append_right _ List.perm_append_comm
theorem up_of {F : gF} {B : Nat → Nat} {m : Nat} {a : mLb} {l r : Option Nat} {c : cxT mLb} (hX : RXn F B a.1 a.2 (cTI c) l r) (hC : CX F B m c (some a.1)) : upC F B (a.1 :: (cPath c).map (fun z : mLb => z.1)) := ⟨hX.1, by
  have q1 := hX.2.2.2.2.2.2.2
  rcases c with _ | ⟨⟨b, z, o9⟩, c9⟩
  · exact q1
  · exact q1, CX_up hC⟩
theorem dep_at {F : gF} {B : Nat → Nat} {m : Nat} : ∀ {t : TT mLb} {c0 : cxT mLb} {k : Nat} {y : mLb}, RX F B t (cTI c0) → CX F B m c0 (rtI t) → (tPre t)[k]? = some y → ∃ cs, upC F B (y.1 :: cs) ∧ (tDp t c0.length)[k]? = some cs.length := by
  intro t
  induction t with
  | leaf => intro c0 k y _ _ h; cases h
  | inner s a v L R ihl ihr =>
    intro c0 k y hX hC h
    cases k with
    | zero =>
      have h : some a = some y := h
      cases h
      exact ⟨_, up_of hX.1 hC, by show some c0.length = _; rw [List.length_map, cPath_len]⟩
    | succ k =>
      have h : (tPre L ++ tPre R)[k]? = some y := h
      show ∃ cs, _ ∧ (tDp L (c0.length + 1) ++ tDp R (c0.length + 1))[k]? = _
      by_cases hk : k < (tPre L).length
      · rw [List.getElem?_append_left hk] at h
        rw [List.getElem?_append_left (by rw [tDp_len, ← tPre_len]; exact hk)]
        exact ihl (c0 := (true, a, R) :: c0) hX.2.1 ⟨hX.1, hX.2.2, hC⟩ h
      · have hk : (tPre L).length ≤ k := Nat.not_lt.mp hk
        rw [List.getElem?_append_right hk] at h
        rw [List.getElem?_append_right (by rw [tDp_len, ← tPre_len]; exact hk), tDp_len, ← tPre_len]
        exact ihr (c0 := (false, a, L) :: c0) hX.2.2 ⟨hX.1, hX.2.1, hC⟩ h
def cntL {α : Type} (d lc : Nat) (t : TT α) (bc bg bp : Nat) (k : Nat) : Int32 := if k = 0 then nI d else if k = 1 then nI lc else if k = 2 then nI (tSz t) else if k = 3 then nI (tSz t) - nI lc else if k = 4 then nI (lvls (tDp t 0)) else if k = 5 then nI bc else if k = 6 then nI bg else nI bp
theorem lvls_snoc (D : List Nat) (x : Nat) : lvls (D ++ [x]) = max (lvls D) (x + 1) := by unfold lvls; rw [List.foldl_append]; rfl
theorem lvls_bd {b : Nat} : ∀ (D : List Nat) (m : Nat), (∀ x ∈ D, x + 1 ≤ b) → m ≤ b → D.foldl (fun m x => max m (x + 1)) m ≤ b
  | [], _, _, hm => hm
  | x :: D, m, h, hm => lvls_bd D _ (fun z hz => h z (List.mem_cons_of_mem _ hz)) (Nat.max_le.mpr ⟨hm, h x List.mem_cons_self⟩)

set_option maxHeartbeats 4000000 in
set_option maxRecDepth 100000 in
theorem m_node (l : Launch) (Γ : gG) (K : gK) (F : gF) (sz : Nat) (m9 : Nat) (B : Nat → Nat) (hk : MKk K m9 B) (d : Nat) (P : Nat → Option (Nat → Int32)) (t : TT gLb) (S : List (Nat × Int64)) (lk bc bg bp : Nat) (hR : RS F m9 B d P t S lk bc bg bp) (hAS : AS P t) (d9 w9 : Int32) : gMM l yX7_node wsX7_node 2 0 0 Γ K F sz [.ref m9, .int d9, .int w9] (fun v K' F' => ∃ th r, v = some (.int r) ∧ K' = K ∧ F' m9 0 = .int (nI th) ∧ thR th (okId d9 = true ∧ ¬ w9 < 0 ∧ w9 < nI 5) (∃ i p, i < 100 ∧ d9 = nI i ∧ P i = some p) ∧ RS F' m9 B d P t S lk bc bg bp ∧ (th = 0 → ∀ i w q, i < 100 → w < 5 → d9 = nI i → w9 = nI w → locG (fun z : gLb => (!z.2 && decide (z.1.1 = i))) t [] = some q → r = nodeA (fun z => z) q w)) := by
  refine g_mM (cc := cX7_node) (maxL := 5) (ret := (some .int)) (by decide) rfl (Nat.le_of_ble_eq_true rfl) ?_
  intro p e s m args below meth c ls Z hsz hx hb hts hown hml hnm hN hW hret hl
  have hl : lv_has ls 5 [(0, .ref m9), (1, .int d9), (2, .int w9)] := hl
  have hown : s.vm.findClass RX7 = some m.cls := hown
  have hi7 : ∀ w ∈ wsX70, w ∈ wsX7_node := by decide +kernel
  have hfX7_1 : Cond.fieldLink RX7 1 (TX7 0).1 (TX7 0).2.1 (TX7 0).2.2.1 ∈ wsX7_node := by decide +kernel
  have hfX7_13 : Cond.fieldLink RX7 13 (TX7 2).1 (TX7 2).2.1 (TX7 2).2.2.1 ∈ wsX7_node := by decide +kernel
  have hfX7_21 : Cond.fieldLink RX7 21 (TX7 4).1 (TX7 4).2.1 (TX7 4).2.2.1 ∈ wsX7_node := by decide +kernel
  have hfX7_27 : Cond.fieldLink RX7 27 (TX7 7).1 (TX7 7).2.1 (TX7 7).2.2.1 ∈ wsX7_node := by decide +kernel
  have hfX7_33 : Cond.fieldLink RX7 33 (TX7 9).1 (TX7 9).2.1 (TX7 9).2.2.1 ∈ wsX7_node := by decide +kernel
  have hfX7_36 : Cond.fieldLink RX7 36 (TX7 10).1 (TX7 10).2.1 (TX7 10).2.2.1 ∈ wsX7_node := by decide +kernel
  have hfX7_42 : Cond.fieldLink RX7 42 (TX7 12).1 (TX7 12).2.1 (TX7 12).2.2.1 ∈ wsX7_node := by decide +kernel
  have hf := hR.1
  refine lv_aload_n hx hb dX7_node_0 rfl (lv_at hl 0 rfl) ?_
  refine lv_iload_n hx hb dX7_node_1 rfl (lv_at hl 1 rfl) ?_
  refine g_cS (v := (some (.int (bI (okId d9))))) (As := [.int d9]) (rest := [.ref m9]) hx hb hml hown hts hN hW.1 (m_isId l Γ K F d9) gX7_node_X7_isId rfl (na := 1) rfl (by decide +kernel) ⟨by decide, by decide⟩ ⟨Nat.zero_le _, Nat.zero_le _⟩ rfl hl.1 (Nat.le_of_ble_eq_true rfl) dX7_node_2 ?_
  show W _ _ _ _ _ _ _ _ _ _ _ _ _ _ _ (F0 m 5 ls [.int (bI (okId d9)), .ref m9])
  refine lv_if_eq (tgt := 20) hx hb dX7_node_5 (by decide) (fun c1 => ?_) (fun c1 => ?_)
  · have c1 : (okId d9) = false := bI_0.mp c1
    refine lv_iconst (v := nI 1) hx hb dX7_node_20 (by decide) ?_
    refine lv_goto (tgt := 38) hx hb dX7_node_21 (by decide) ?_
    refine g_put (C := RX7) (T := TX7) (N := 31) hx hb hts hi7 tyX7 tyX7_ok nmX7 hown hN hW hk.1 rfl (by decide) 0 (by decide) hfX7_1 rfl rfl rfl dX7_node_38 (fun H locs hW => ?_)
    refine lv_aload_n hx hb dX7_node_41 rfl (lv_at hl 0 rfl) ?_
    refine g_get (C := RX7) (T := TX7) (N := 31) hx hb hts hi7 hown hN hW.1 hk.1 rfl (by decide) 0 (by decide) hfX7_1 (v := .int (nI 1)) gU_self dX7_node_42 ?_
    refine lv_if_le (tgt := 50) hx hb dX7_node_45 (by decide) (fun e1 => ?_) (fun e1 => ?_)
    · have e1 : 1 = 0 := (nI_le0 (by omega)).mp e1
      exact absurd e1 (by decide)
    · have e1 : 0 < 1 := Nat.pos_of_ne_zero (fun z => e1 ((nI_le0 (by omega)).mpr z))
      refine lv_iconst (v := nI 0) hx hb dX7_node_48 (by decide) ?_
      exact hret (some (.int (nI 0))) _ _ _ _ _ _ hW (⟨1, nI 0, rfl, rfl, gU_self, Or.inl ⟨rfl, fun z => by rw [c1] at z; exact absurd z.1 (by decide)⟩, hR.thr hk, fun z => absurd z (by decide)⟩) (rt_i dX7_node_49)
  · have c1 : (okId d9) = true := bI_n0.mp c1
    refine lv_iload_n hx hb dX7_node_8 rfl (lv_at hl 2 rfl) ?_
    refine lv_i2l (v := w9.toInt64) hx hb dX7_node_9 rfl ?_
    refine lv_lconst (v := 0) hx hb dX7_node_10 (by decide) ?_
    refine lv_ldc2 (v := 4) hx hb hown (hts _ (show Cond.constantLong RX7 172 (4) ∈ _ by decide +kernel)) dX7_node_11 ?_
    refine g_cS (v := (some (.int (bI (decide ((0 : Int64) ≤ w9.toInt64 ∧ w9.toInt64 ≤ 4)))))) (As := [.long w9.toInt64, .long 0, .long 4]) (rest := [.ref m9]) hx hb hml hown hts hN hW.1 (m_in l Γ K F w9.toInt64 0 4) gX7_node_X7_in rfl (na := 3) rfl (by decide +kernel) ⟨by decide, by decide⟩ ⟨Nat.zero_le _, Nat.zero_le _⟩ rfl hl.1 (Nat.le_of_ble_eq_true rfl) dX7_node_14 ?_
    show W _ _ _ _ _ _ _ _ _ _ _ _ _ _ _ (F0 m 17 ls [.int (bI (decide ((0 : Int64) ≤ w9.toInt64 ∧ w9.toInt64 ≤ 4))), .ref m9])
    refine g_asi (show _ = bI (decide (¬ w9 < 0 ∧ w9 < nI 5)) from by rw [inL w9 5 (by decide) 4 (by decide)]) ?_
    refine lv_if_ne (tgt := 24) hx hb dX7_node_17 (by decide) (fun c2 => ?_) (fun c2 => ?_)
    · have c2 : (decide (¬ w9 < 0 ∧ w9 < nI 5)) = true := bI_n0.mp c2
      have c2 := of_decide_eq_true c2
      obtain ⟨i, hi, rfl⟩ := okId_nI c1
      obtain ⟨wv, hwv, rfl⟩ := i32_nI (n := 5) (by decide) c2.1 c2.2
      refine lv_aload_n hx hb dX7_node_24 rfl (lv_at hl 0 rfl) ?_
      refine g_get (C := RX7) (T := TX7) (N := 31) hx hb hts hi7 hown hN hW.1 hk.1 rfl (by decide) 2 (by decide) hfX7_13 (v := .ref (B 2)) (hf 2 rfl) dX7_node_25 ?_
      refine lv_iload_n hx hb dX7_node_28 rfl (lv_at hl 1 rfl) ?_
      refine g_zald (j := i) hx hb hN hW.1 (hk.2.1 2 (10, 100) rfl) (by decide) (show _ = nI i from rfl) hi (v := .int (bI (P i).isSome)) (hR.2.2.1.1 i hi) dX7_node_29 ?_
      refine lv_if_ne (tgt := 37) hx hb dX7_node_30 (by decide) (fun c3 => ?_) (fun c3 => ?_)
      · have c3 : (P i).isSome = true := bI_n0.mp c3
        obtain ⟨p9, hp9⟩ := Option.isSome_iff_exists.mp c3
        refine lv_iconst (v := nI 0) hx hb dX7_node_37 (by decide) ?_
        refine g_put (C := RX7) (T := TX7) (N := 31) hx hb hts hi7 tyX7 tyX7_ok nmX7 hown hN hW hk.1 rfl (by decide) 0 (by decide) hfX7_1 rfl rfl rfl dX7_node_38 (fun H locs hW => ?_)
        refine lv_aload_n hx hb dX7_node_41 rfl (lv_at hl 0 rfl) ?_
        refine g_get (C := RX7) (T := TX7) (N := 31) hx hb hts hi7 hown hN hW.1 hk.1 rfl (by decide) 0 (by decide) hfX7_1 (v := .int (nI 0)) gU_self dX7_node_42 ?_
        refine lv_if_le (tgt := 50) hx hb dX7_node_45 (by decide) (fun e1 => ?_) (fun e1 => ?_)
        · have e1 : 0 = 0 := (nI_le0 (by omega)).mp e1
          have hRG : RS (gU F m9 0 (.int (nI 0))) m9 B d P t S lk bc bg bp := hR.thr hk
          have hG0 : gU F m9 0 (.int (nI 0)) m9 0 = .int (nI 0) := gU_self
          generalize gU F m9 0 (.int (nI 0)) = G at hW hRG hG0
          have hRG0 := hRG
          obtain ⟨hfG, hd1, hP1, h51, ⟨tr, htr⟩, hlG, h28G, h14G, h15G, h16G⟩ := hRG
          obtain ⟨PM, hPM⟩ : ∃ PM : mLb → Bool, PM = fun z => (!z.2.2 && decide (z.2.1.1 = i)) := ⟨_, rfl⟩
          obtain ⟨y0, hy0, hy2⟩ : ∃ y ∈ tPre tr, y.2 = ((i, p9), false) := by
            have q1 := hAS.2.1 i p9 hi hp9
            rw [← htr.1, tPre_map] at q1
            obtain ⟨y, hy, e⟩ := List.mem_map.mp q1
            exact ⟨y, hy, e⟩
          obtain ⟨⟨c9, l9, r9⟩, hloc⟩ := locG_some (P := PM) (t := tr) (c := []) ⟨y0, hy0, by rw [hPM]; simp [hy2]⟩
          obtain ⟨y, hPy, hyt, hXy, hCy, hpy⟩ := locG_RX (F := G) (B := B) (m := m9) (c0 := []) htr.2.1 htr.2.2.1 hloc
          have hPy2 : y.2.2 = false ∧ y.2.1.1 = i := by rw [hPM] at hPy; simpa using hPy
          have hno := htr.2.2.2.2.2 y hyt hPy2.1
          rw [hPy2.2] at hno
          have hXn := hXy.1
          have hy140 := hXn.1
          have hup := up_of hXn hCy
          have hlp : ∀ q, locG (fun z : gLb => (!z.2 && decide (z.1.1 = i))) t [] = some q → ∀ u, nodeA (fun z : gLb => z) q u = nodeA (fun z : mLb => z.2) (c9, l9, r9) u := fun q hq u => by
            have q1 := locG_map (fun z : mLb => z.2) (fun z : gLb => (!z.2 && decide (z.1.1 = i))) tr []
            rw [show tMap (fun y : mLb => y.2) tr = t from htr.1] at q1
            have q1 : locG (fun z : gLb => (!z.2 && decide (z.1.1 = i))) t [] = _ := q1
            rw [show (fun a : mLb => (!a.2.2 && decide (a.2.1.1 = i))) = PM from hPM.symm, hloc] at q1
            rw [q1] at hq
            cases hq
            exact nodeA_map _ _ (c9, l9, r9) u
          have hnds : (ixT (tN l9 y r9) ++ ixC c9).Nodup := by
            have q1 := (hpy.map (fun z : mLb => z.1)).nodup_iff.mp (by rw [show cAd ([] : cxT mLb) = [] from rfl, List.append_nil]; exact htr.2.2.2.2.1)
            rw [List.map_append] at q1
            exact q1
          have hszt : tSz (tN l9 y r9) ≤ 140 := by
            have q1 := hpy.length_eq
            rw [show cAd ([] : cxT mLb) = [] from rfl, List.append_nil, tPre_len, List.length_append, List.length_cons, List.length_append, tPre_len, tPre_len] at q1
            have q2 := hAS.2.2.2.2.1
            have q3 := hAS.2.2.2.2.2.1
            rw [← htr.1, tSz_map] at q2
            show tSz l9 + tSz r9 + 1 ≤ 140
            omega
          refine lv_aload_n hx hb dX7_node_50 rfl (lv_at hl 0 rfl) ?_
          refine g_get (C := RX7) (T := TX7) (N := 31) hx hb hts hi7 hown hN hW.1 hk.1 rfl (by decide) 4 (by decide) hfX7_21 (v := .ref (B 4)) (hfG 4 rfl) dX7_node_51 ?_
          refine lv_iload_n hx hb dX7_node_54 rfl (lv_at hl 1 rfl) ?_
          refine g_iald (j := i) hx hb hN hW.1 (hk.2.1 4 (8, 100) rfl) (by decide) (show _ = nI i from rfl) hi (v := .int (nI y.1)) hno dX7_node_55 ?_
          refine lv_istore_n (lv' := [(3, .int (nI y.1)), (0, .ref m9), (1, .int (nI i)), (2, .int (nI wv))]) hx hb dX7_node_56 rfl hl (by decide) rfl (fun ls hl => ?_)
          refine lv_aload_n hx hb dX7_node_57 rfl (lv_at hl 1 rfl) ?_
          refine g_get (C := RX7) (T := TX7) (N := 31) hx hb hts hi7 hown hN hW.1 hk.1 rfl (by decide) 12 (by decide) hfX7_42 (v := .ref (B 12)) (hfG 12 rfl) dX7_node_58 ?_
          refine lv_iload_n hx hb dX7_node_61 rfl (lv_at hl 0 rfl) ?_
          refine g_iald (j := y.1) hx hb hN hW.1 (hk.2.1 12 (8, 140) rfl) (by decide) (show _ = nI y.1 from rfl) (by omega) (v := .int (oI (cTI c9))) hXn.2.2.2.2.2.2.2 dX7_node_62 ?_
          refine lv_istore (lv' := [(4, .int (oI (cTI c9))), (3, .int (nI y.1)), (0, .ref m9), (1, .int (nI i)), (2, .int (nI wv))]) hx hb dX7_node_63 hl (by decide) rfl (fun ls hl => ?_)
          refine lv_iload_n hx hb dX7_node_65 rfl (lv_at hl 4 rfl) ?_
          refine lv_if_ne (tgt := 75) hx hb dX7_node_66 (by decide) (fun x1 => ?_) (fun x1 => ?_)
          · have x1 : ¬ wv = 0 := fun z => x1 ((nI_eq0 (by omega)).mpr z)
            refine lv_iload_n hx hb dX7_node_75 rfl (lv_at hl 4 rfl) ?_
            refine lv_iconst (v := nI 1) hx hb dX7_node_76 (by decide) ?_
            refine lv_icmp_ne (tgt := 86) hx hb dX7_node_77 (by decide) (fun x2 => ?_) (fun x2 => ?_)
            · have x2 : ¬ wv = 1 := fun z => x2 ((nI_eq (by omega) (by omega)).mpr z)
              refine lv_iload hx hb dX7_node_86 (lv_at hl 0 rfl) ?_
              refine lv_iconst (v := (-1)) hx hb dX7_node_88 (by decide) ?_
              refine lv_icmp_ne (tgt := 105) hx hb dX7_node_89 (by decide) (fun x3 => ?_) (fun x3 => ?_)
              · obtain ⟨b, z, o9, c8, hc9⟩ : ∃ b z o9 c8, c9 = (b, z, o9) :: c8 := by
                  rcases c9 with _ | ⟨⟨b, z, o9⟩, c8⟩
                  · exact absurd rfl x3
                  · exact ⟨b, z, o9, c8, rfl⟩
                subst hc9
                have hXz := hCy.1
                have hz140 := hXz.1
                have hA : ∀ u, ¬ u = 0 → ¬ u = 1 → nodeA (fun z : mLb => z.2) ((b, z, o9) :: c8, l9, r9) u = if u = 2 then nI z.2.1.1 else if u = 3 then bI z.2.2 else bI b := fun u h1 h2 => by unfold nodeA; rw [if_neg h1, if_neg h2]
                rw [show oI (cTI ((b, z, o9) :: c8)) = nI z.1 from rfl] at hl
                refine lv_iload_n hx hb dX7_node_105 rfl (lv_at hl 4 rfl) ?_
                refine lv_iconst (v := nI 2) hx hb dX7_node_106 (by decide) ?_
                refine lv_icmp_ne (tgt := 120) hx hb dX7_node_107 (by decide) (fun x4 => ?_) (fun x4 => ?_)
                · have x4 : ¬ wv = 2 := fun z => x4 ((nI_eq (by omega) (by omega)).mpr z)
                  refine lv_iload_n hx hb dX7_node_120 rfl (lv_at hl 4 rfl) ?_
                  refine lv_iconst (v := nI 3) hx hb dX7_node_121 (by decide) ?_
                  refine lv_icmp_ne (tgt := 143) hx hb dX7_node_122 (by decide) (fun x5 => ?_) (fun x5 => ?_)
                  · have x5 : ¬ wv = 3 := fun z => x5 ((nI_eq (by omega) (by omega)).mpr z)
                    refine lv_aload_n hx hb dX7_node_143 rfl (lv_at hl 2 rfl) ?_
                    refine g_get (C := RX7) (T := TX7) (N := 31) hx hb hts hi7 hown hN hW.1 hk.1 rfl (by decide) 10 (by decide) hfX7_36 (v := .ref (B 10)) (hfG 10 rfl) dX7_node_144 ?_
                    refine lv_iload hx hb dX7_node_147 (lv_at hl 0 rfl) ?_
                    refine g_iald (j := z.1) hx hb hN hW.1 (hk.2.1 10 (8, 140) rfl) (by decide) (show _ = nI z.1 from rfl) (by omega) (v := .int (oI (if b then some y.1 else rtI o9))) hXz.2.2.2.2.2.1 dX7_node_149 ?_
                    have hbq : (oI (if b then some y.1 else rtI o9) = nI y.1 ↔ b = true) := by
                      cases b with
                      | true => exact ⟨fun _ => rfl, fun _ => rfl⟩
                      | false =>
                        refine ⟨fun e => ?_, fun e => by cases e⟩
                        have e : oI (rtI o9) = nI y.1 := e
                        exfalso
                        cases ho : rtI o9 with
                        | none => rw [ho] at e; exact oI_n (Nat.lt_trans hy140 (by decide)) e.symm
                        | some n2 =>
                          rw [ho] at e
                          have hn2 := RX_rt hCy.2.1 ho
                          have e : n2 = y.1 := (nI_eq (Nat.lt_trans (RX_root hCy.2.1 ho) (by decide)) (Nat.lt_trans hy140 (by decide))).mp e
                          refine (List.nodup_append.mp hnds).2.2 y.1 List.mem_cons_self y.1 ?_ rfl
                          rw [ixC_cons]
                          exact List.mem_cons_of_mem _ (List.mem_append_left _ (e ▸ hn2.2))
                    refine lv_iload_n hx hb dX7_node_150 rfl (lv_at hl 1 rfl) ?_
                    refine lv_icmp_ne (tgt := 158) hx hb dX7_node_151 (by decide) (fun x6 => ?_) (fun x6 => ?_)
                    · refine lv_iconst (v := nI 0) hx hb dX7_node_158 (by decide) ?_
                      exact hret (some (.int (nI 0))) _ _ _ _ _ _ hW (⟨0, nI 0, rfl, rfl, hG0, Or.inr (Or.inr ⟨rfl, ⟨c1, c2⟩, i, p9, hi, rfl, hp9⟩), hRG0, fun _ i2 w2 q hi2 hw2 e1 e2 hq => by have e1 := nI_inj (by omega) (by omega) e1; have e2 := nI_inj (by omega) (by omega) e2; subst e1; subst e2; rw [hlp q hq]; rw [hA _ x1 x2, if_neg x4, if_neg x5, Bool.eq_false_iff.mpr (fun q => x6 (hbq.mpr q))]; rfl⟩) (rt_i dX7_node_159)
                    · refine lv_iconst (v := nI 1) hx hb dX7_node_154 (by decide) ?_
                      refine lv_goto (tgt := 159) hx hb dX7_node_155 (by decide) ?_
                      exact hret (some (.int (nI 1))) _ _ _ _ _ _ hW (⟨0, nI 1, rfl, rfl, hG0, Or.inr (Or.inr ⟨rfl, ⟨c1, c2⟩, i, p9, hi, rfl, hp9⟩), hRG0, fun _ i2 w2 q hi2 hw2 e1 e2 hq => by have e1 := nI_inj (by omega) (by omega) e1; have e2 := nI_inj (by omega) (by omega) e2; subst e1; subst e2; rw [hlp q hq]; rw [hA _ x1 x2, if_neg x4, if_neg x5, hbq.mp x6]; rfl⟩) (rt_i dX7_node_159)
                  · have x5 : wv = 3 := (nI_eq (by omega) (by omega)).mp x5
                    refine lv_aload_n hx hb dX7_node_125 rfl (lv_at hl 2 rfl) ?_
                    refine g_get (C := RX7) (T := TX7) (N := 31) hx hb hts hi7 hown hN hW.1 hk.1 rfl (by decide) 9 (by decide) hfX7_33 (v := .ref (B 9)) (hfG 9 rfl) dX7_node_126 ?_
                    refine lv_iload hx hb dX7_node_129 (lv_at hl 0 rfl) ?_
                    refine g_zald (j := z.1) hx hb hN hW.1 (hk.2.1 9 (10, 140) rfl) (by decide) (show _ = nI z.1 from rfl) (by omega) (v := .int (bI (!z.2.2))) hXz.2.2.2.2.1 dX7_node_131 ?_
                    refine lv_if_eq (tgt := 139) hx hb dX7_node_132 (by decide) (fun x6 => ?_) (fun x6 => ?_)
                    · have x6 : (!z.2.2) = false := bI_0.mp x6
                      refine lv_iconst (v := nI 1) hx hb dX7_node_139 (by decide) ?_
                      refine lv_goto (tgt := 159) hx hb dX7_node_140 (by decide) ?_
                      exact hret (some (.int (nI 1))) _ _ _ _ _ _ hW (⟨0, nI 1, rfl, rfl, hG0, Or.inr (Or.inr ⟨rfl, ⟨c1, c2⟩, i, p9, hi, rfl, hp9⟩), hRG0, fun _ i2 w2 q hi2 hw2 e1 e2 hq => by have e1 := nI_inj (by omega) (by omega) e1; have e2 := nI_inj (by omega) (by omega) e2; subst e1; subst e2; rw [hlp q hq]; rw [hA _ x1 x2, if_neg x4, if_pos x5, show z.2.2 = true by simpa using x6]; rfl⟩) (rt_i dX7_node_159)
                    · have x6 : (!z.2.2) = true := bI_n0.mp x6
                      refine lv_iconst (v := nI 0) hx hb dX7_node_135 (by decide) ?_
                      refine lv_goto (tgt := 159) hx hb dX7_node_136 (by decide) ?_
                      exact hret (some (.int (nI 0))) _ _ _ _ _ _ hW (⟨0, nI 0, rfl, rfl, hG0, Or.inr (Or.inr ⟨rfl, ⟨c1, c2⟩, i, p9, hi, rfl, hp9⟩), hRG0, fun _ i2 w2 q hi2 hw2 e1 e2 hq => by have e1 := nI_inj (by omega) (by omega) e1; have e2 := nI_inj (by omega) (by omega) e2; subst e1; subst e2; rw [hlp q hq]; rw [hA _ x1 x2, if_neg x4, if_pos x5, show z.2.2 = false by simpa using x6]; rfl⟩) (rt_i dX7_node_159)
                · have x4 : wv = 2 := (nI_eq (by omega) (by omega)).mp x4
                  refine lv_aload_n hx hb dX7_node_110 rfl (lv_at hl 2 rfl) ?_
                  refine g_get (C := RX7) (T := TX7) (N := 31) hx hb hts hi7 hown hN hW.1 hk.1 rfl (by decide) 7 (by decide) hfX7_27 (v := .ref (B 7)) (hfG 7 rfl) dX7_node_111 ?_
                  refine lv_iload hx hb dX7_node_114 (lv_at hl 0 rfl) ?_
                  refine g_iald (j := z.1) hx hb hN hW.1 (hk.2.1 7 (8, 140) rfl) (by decide) (show _ = nI z.1 from rfl) (by omega) (v := .int (nI z.2.1.1)) hXz.2.2.1 dX7_node_116 ?_
                  refine lv_goto (tgt := 159) hx hb dX7_node_117 (by decide) ?_
                  exact hret (some (.int (nI z.2.1.1))) _ _ _ _ _ _ hW (⟨0, nI z.2.1.1, rfl, rfl, hG0, Or.inr (Or.inr ⟨rfl, ⟨c1, c2⟩, i, p9, hi, rfl, hp9⟩), hRG0, fun _ i2 w2 q hi2 hw2 e1 e2 hq => by have e1 := nI_inj (by omega) (by omega) e1; have e2 := nI_inj (by omega) (by omega) e2; subst e1; subst e2; rw [hlp q hq]; rw [hA _ x1 x2, if_pos x4]⟩) (rt_i dX7_node_159)
              · have hc9 : c9 = [] := by
                  rcases c9 with _ | ⟨⟨b, z, o9⟩, c8⟩
                  · rfl
                  · exact absurd x3 (oI_n (Nat.lt_trans hCy.1.1 (by decide)))
                refine lv_iload_n hx hb dX7_node_92 rfl (lv_at hl 4 rfl) ?_
                refine lv_iconst (v := nI 2) hx hb dX7_node_93 (by decide) ?_
                refine lv_icmp_ne (tgt := 101) hx hb dX7_node_94 (by decide) (fun x4 => ?_) (fun x4 => ?_)
                · have x4 : ¬ wv = 2 := fun z => x4 ((nI_eq (by omega) (by omega)).mpr z)
                  refine lv_iconst (v := nI 0) hx hb dX7_node_101 (by decide) ?_
                  refine lv_goto (tgt := 159) hx hb dX7_node_102 (by decide) ?_
                  exact hret (some (.int (nI 0))) _ _ _ _ _ _ hW (⟨0, nI 0, rfl, rfl, hG0, Or.inr (Or.inr ⟨rfl, ⟨c1, c2⟩, i, p9, hi, rfl, hp9⟩), hRG0, fun _ i2 w2 q hi2 hw2 e1 e2 hq => by have e1 := nI_inj (by omega) (by omega) e1; have e2 := nI_inj (by omega) (by omega) e2; subst e1; subst e2; rw [hlp q hq]; rw [hc9]; unfold nodeA; rw [if_neg x1, if_neg x2]; show _ = (if _ then _ else _); rw [if_neg x4]; rfl⟩) (rt_i dX7_node_159)
                · have x4 : wv = 2 := (nI_eq (by omega) (by omega)).mp x4
                  refine lv_iconst (v := (-1)) hx hb dX7_node_97 (by decide) ?_
                  refine lv_goto (tgt := 159) hx hb dX7_node_98 (by decide) ?_
                  exact hret (some (.int (-1))) _ _ _ _ _ _ hW (⟨0, (-1), rfl, rfl, hG0, Or.inr (Or.inr ⟨rfl, ⟨c1, c2⟩, i, p9, hi, rfl, hp9⟩), hRG0, fun _ i2 w2 q hi2 hw2 e1 e2 hq => by have e1 := nI_inj (by omega) (by omega) e1; have e2 := nI_inj (by omega) (by omega) e2; subst e1; subst e2; rw [hlp q hq]; rw [hc9]; unfold nodeA; rw [if_neg x1, if_neg x2]; show _ = (if _ then _ else _); rw [if_pos x4]⟩) (rt_i dX7_node_159)
            · have x2 : wv = 1 := (nI_eq (by omega) (by omega)).mp x2
              subst x2
              refine lv_aload_n hx hb dX7_node_80 rfl (lv_at hl 2 rfl) ?_
              refine lv_iload_n hx hb dX7_node_81 rfl (lv_at hl 1 rfl) ?_
              refine g_asi (show _ = oI (rtI (tN l9 y r9)) from rfl) ?_
              refine g_mV (As := [.int (oI (rtI (tN l9 y r9)))]) (b := m9) (rest := []) hx hb hml hown hts hN hW (m_walkFrom l Γ K G H.size m9 B hk hfG (tN l9 y r9) (cTI c9) hXy hszt) gX7_node_X7_walkFrom rfl hk.1 (by decide) rfl (na := 1) rfl (by decide +kernel) ⟨by decide, by decide⟩ ⟨Nat.le_of_ble_eq_true rfl, Nat.le_of_ble_eq_true rfl⟩ rfl hl.1 (Nat.le_of_ble_eq_true rfl) dX7_node_82 (fun v K' F5 H locs hp hW hsz' => ?_)
              obtain ⟨rfl, hK9, _, hfr⟩ := hp
              subst K'
              show W _ _ _ _ _ _ _ _ _ _ _ _ _ _ _ (F0 m 85 ls [.int (nI (tSz (tN l9 y r9)))])
              have hR5 : RS F5 m9 B d P t S lk bc bg bp := RS_congr hRG0 (fun j _ => hfr _ j (fun z => hk.nm (i := 17) rfl z.symm) (fun z => hk.nm (i := 18) rfl z.symm)) (fun j i hj => hfr _ i (hk.ne (JK_some hj) rfl (fun e => by rw [e] at hj; exact absurd hj (by decide))) (hk.ne (JK_some hj) rfl (fun e => by rw [e] at hj; exact absurd hj (by decide))))
              have h50 : F5 m9 0 = .int (nI 0) := (hfr _ 0 (fun z => hk.nm (i := 17) rfl z.symm) (fun z => hk.nm (i := 18) rfl z.symm)).trans hG0
              exact hret (some (.int (nI (tSz (tN l9 y r9))))) _ _ _ _ _ _ hW (⟨0, nI (tSz (tN l9 y r9)), rfl, rfl, h50, Or.inr (Or.inr ⟨rfl, ⟨c1, c2⟩, i, p9, hi, rfl, hp9⟩), hR5, fun _ i2 w2 q hi2 hw2 e1 e2 hq => by have e1 := nI_inj (by omega) (by omega) e1; have e2 := nI_inj (by omega) (by omega) e2; subst e1; subst e2; rw [hlp q hq]; rfl⟩) (rt_i dX7_node_85)
          · have x1 : wv = 0 := (nI_eq0 (by omega)).mp x1
            subst x1
            refine lv_aload_n hx hb dX7_node_69 rfl (lv_at hl 2 rfl) ?_
            refine lv_iload_n hx hb dX7_node_70 rfl (lv_at hl 1 rfl) ?_
            have hdp : gMR l yX7_depth wsX7_depth 0 Γ K G [.ref m9, .int (nI y.1)] (some (.int (nI c9.length))) := by
              have q1 := m_depth l Γ K G m9 B hk hfG y.1 _ hup
              rw [List.length_map, cPath_len] at q1
              exact q1
            refine g_cV (v := (some (.int (nI c9.length)))) (As := [.int (nI y.1)]) (b := m9) (rest := []) hx hb hml hown hts hN hW.1 (hdp) gX7_node_X7_depth rfl hk.1 (by decide) rfl (na := 1) rfl (by decide +kernel) ⟨by decide, by decide⟩ ⟨Nat.zero_le _, Nat.zero_le _⟩ rfl hl.1 (Nat.le_of_ble_eq_true rfl) dX7_node_71 ?_
            show W _ _ _ _ _ _ _ _ _ _ _ _ _ _ _ (F0 m 74 ls [.int (nI c9.length)])
            exact hret (some (.int (nI c9.length))) _ _ _ _ _ _ hW (⟨0, nI c9.length, rfl, rfl, hG0, Or.inr (Or.inr ⟨rfl, ⟨c1, c2⟩, i, p9, hi, rfl, hp9⟩), hRG0, fun _ i2 w2 q hi2 hw2 e1 e2 hq => by have e1 := nI_inj (by omega) (by omega) e1; have e2 := nI_inj (by omega) (by omega) e2; subst e1; subst e2; rw [hlp q hq]; rfl⟩) (rt_i dX7_node_74)
        · have e1 : 0 < 0 := Nat.pos_of_ne_zero (fun z => e1 ((nI_le0 (by omega)).mpr z))
          exact absurd e1 (by decide)
      · have c3 : (P i).isSome = false := bI_0.mp c3
        have hn : P i = none := Option.not_isSome_iff_eq_none.mp (by rw [c3]; decide)
        refine lv_iconst (v := nI 2) hx hb dX7_node_33 (by decide) ?_
        refine lv_goto (tgt := 38) hx hb dX7_node_34 (by decide) ?_
        refine g_put (C := RX7) (T := TX7) (N := 31) hx hb hts hi7 tyX7 tyX7_ok nmX7 hown hN hW hk.1 rfl (by decide) 0 (by decide) hfX7_1 rfl rfl rfl dX7_node_38 (fun H locs hW => ?_)
        refine lv_aload_n hx hb dX7_node_41 rfl (lv_at hl 0 rfl) ?_
        refine g_get (C := RX7) (T := TX7) (N := 31) hx hb hts hi7 hown hN hW.1 hk.1 rfl (by decide) 0 (by decide) hfX7_1 (v := .int (nI 2)) gU_self dX7_node_42 ?_
        refine lv_if_le (tgt := 50) hx hb dX7_node_45 (by decide) (fun e1 => ?_) (fun e1 => ?_)
        · have e1 : 2 = 0 := (nI_le0 (by omega)).mp e1
          exact absurd e1 (by decide)
        · have e1 : 0 < 2 := Nat.pos_of_ne_zero (fun z => e1 ((nI_le0 (by omega)).mpr z))
          refine lv_iconst (v := nI 0) hx hb dX7_node_48 (by decide) ?_
          exact hret (some (.int (nI 0))) _ _ _ _ _ _ hW (⟨2, nI 0, rfl, rfl, gU_self, Or.inr (Or.inl ⟨rfl, ⟨c1, c2⟩, fun ⟨j, p, hj, e, hp⟩ => by rw [nI_inj (by omega) (by omega) e, hp] at hn; cases hn⟩), hR.thr hk, fun z => absurd z (by decide)⟩) (rt_i dX7_node_49)
    · have c2 : (decide (¬ w9 < 0 ∧ w9 < nI 5)) = false := bI_0.mp c2
      have c2 := of_decide_eq_false c2
      refine lv_iconst (v := nI 1) hx hb dX7_node_20 (by decide) ?_
      refine lv_goto (tgt := 38) hx hb dX7_node_21 (by decide) ?_
      refine g_put (C := RX7) (T := TX7) (N := 31) hx hb hts hi7 tyX7 tyX7_ok nmX7 hown hN hW hk.1 rfl (by decide) 0 (by decide) hfX7_1 rfl rfl rfl dX7_node_38 (fun H locs hW => ?_)
      refine lv_aload_n hx hb dX7_node_41 rfl (lv_at hl 0 rfl) ?_
      refine g_get (C := RX7) (T := TX7) (N := 31) hx hb hts hi7 hown hN hW.1 hk.1 rfl (by decide) 0 (by decide) hfX7_1 (v := .int (nI 1)) gU_self dX7_node_42 ?_
      refine lv_if_le (tgt := 50) hx hb dX7_node_45 (by decide) (fun e1 => ?_) (fun e1 => ?_)
      · have e1 : 1 = 0 := (nI_le0 (by omega)).mp e1
        exact absurd e1 (by decide)
      · have e1 : 0 < 1 := Nat.pos_of_ne_zero (fun z => e1 ((nI_le0 (by omega)).mpr z))
        refine lv_iconst (v := nI 0) hx hb dX7_node_48 (by decide) ?_
        exact hret (some (.int (nI 0))) _ _ _ _ _ _ hW (⟨1, nI 0, rfl, rfl, gU_self, Or.inl ⟨rfl, fun z => c2 z.2⟩, hR.thr hk, fun z => absurd z (by decide)⟩) (rt_i dX7_node_49)

set_option maxHeartbeats 4000000 in
set_option maxRecDepth 100000 in
theorem m_walk (l : Launch) (Γ : gG) (K : gK) (F : gF) (sz : Nat) (m9 : Nat) (B : Nat → Nat) (hk : MKk K m9 B) (d : Nat) (P : Nat → Option (Nat → Int32)) (t : TT gLb) (S : List (Nat × Int64)) (lk bc bg bp : Nat) (hR : RS F m9 B d P t S lk bc bg bp) (hAS : AS P t) (k9 : Int32) : gMM l yX7_walk wsX7_walk 1 0 0 Γ K F sz [.ref m9, .int k9] (fun v K' F' => ∃ th r, v = some (.int r) ∧ K' = K ∧ F' m9 0 = .int (nI th) ∧ thR th (¬ k9 < 0 ∧ k9 < nI (tSz t)) True ∧ RS F' m9 B d P t S lk bc bg bp ∧ (th = 0 → ∀ k y, k9 = nI k → (tPre t)[k]? = some y → r = walkA y)) := by
  refine g_mM (cc := cX7_walk) (maxL := 3) (ret := (some .int)) (by decide) rfl (Nat.le_of_ble_eq_true rfl) ?_
  intro p e s m args below meth c ls Z hsz hx hb hts hown hml hnm hN hW hret hl
  have hl : lv_has ls 3 [(0, .ref m9), (1, .int k9)] := hl
  have hown : s.vm.findClass RX7 = some m.cls := hown
  have hi7 : ∀ w ∈ wsX70, w ∈ wsX7_walk := by decide +kernel
  have hfX7_1 : Cond.fieldLink RX7 1 (TX7 0).1 (TX7 0).2.1 (TX7 0).2.2.1 ∈ wsX7_walk := by decide +kernel
  have hfX7_27 : Cond.fieldLink RX7 27 (TX7 7).1 (TX7 7).2.1 (TX7 7).2.2.1 ∈ wsX7_walk := by decide +kernel
  have hfX7_33 : Cond.fieldLink RX7 33 (TX7 9).1 (TX7 9).2.1 (TX7 9).2.2.1 ∈ wsX7_walk := by decide +kernel
  have hfX7_45 : Cond.fieldLink RX7 45 (TX7 13).1 (TX7 13).2.1 (TX7 13).2.2.1 ∈ wsX7_walk := by decide +kernel
  have hfX7_48 : Cond.fieldLink RX7 48 (TX7 17).1 (TX7 17).2.1 (TX7 17).2.2.1 ∈ wsX7_walk := by decide +kernel
  have hf := hR.1
  obtain ⟨tr, htr⟩ := hR.2.2.2.2.1
  have htsz : tSz tr ≤ 120 := by
    have q1 := hAS.2.2.2.2.1
    have q2 := hAS.2.2.2.2.2.1
    rw [← htr.1, tSz_map] at q1
    omega
  have hts2 : tSz t = tSz tr := by rw [← htr.1, tSz_map]
  refine lv_aload_n hx hb dX7_walk_0 rfl (lv_at hl 0 rfl) ?_
  refine lv_aload_n hx hb dX7_walk_1 rfl (lv_at hl 0 rfl) ?_
  refine g_get (C := RX7) (T := TX7) (N := 31) hx hb hts hi7 hown hN hW.1 hk.1 rfl (by decide) 13 (by decide) hfX7_45 (v := .int (oI (rtI tr))) htr.2.2.1 dX7_walk_2 ?_
  refine g_mV (As := [.int (oI (rtI tr))]) (b := m9) (rest := []) hx hb hml hown hts hN hW (m_walkFrom l Γ K F s.heap.size m9 B hk hf tr none htr.2.1 (by omega)) gX7_walk_X7_walkFrom rfl hk.1 (by decide) rfl (na := 1) rfl (by decide +kernel) ⟨by decide, by decide⟩ ⟨Nat.le_of_ble_eq_true rfl, Nat.le_of_ble_eq_true rfl⟩ rfl hl.1 (Nat.le_of_ble_eq_true rfl) dX7_walk_5 (fun v K' G H locs hp hW hsz' => ?_)
  obtain ⟨rfl, hK9, hway, hfr⟩ := hp
  subst K'
  show W _ _ _ _ _ _ _ _ _ _ _ _ _ _ _ (F0 m 8 ls [.int (nI (tSz tr))])
  have hRG : RS G m9 B d P t S lk bc bg bp := RS_congr hR (fun j _ => hfr _ j (fun z => hk.nm (i := 17) rfl z.symm) (fun z => hk.nm (i := 18) rfl z.symm)) (fun j i hj => hfr _ i (hk.ne (JK_some hj) rfl (fun e => by rw [e] at hj; exact absurd hj (by decide))) (hk.ne (JK_some hj) rfl (fun e => by rw [e] at hj; exact absurd hj (by decide))))
  have hfG := hRG.1
  have htrG : RSt G m9 B t tr := RSt_congr htr (hfr _ 13 (fun z => hk.nm (i := 17) rfl z.symm) (fun z => hk.nm (i := 18) rfl z.symm)) (fun j i hj => by
    have q1 := JK2_some (List.mem_cons_of_mem 2 (List.mem_cons_of_mem 3 hj))
    exact hfr _ i (hk.ne q1.1 rfl q1.2.1) (hk.ne q1.1 rfl q1.2.2.1))
  refine lv_istore_n (lv' := [(2, .int (nI (tSz tr))), (0, .ref m9), (1, .int k9)]) hx hb dX7_walk_8 rfl hl (by decide) rfl (fun ls hl => ?_)
  refine lv_aload_n hx hb dX7_walk_9 rfl (lv_at hl 1 rfl) ?_
  refine lv_iload_n hx hb dX7_walk_10 rfl (lv_at hl 2 rfl) ?_
  refine lv_i2l (v := k9.toInt64) hx hb dX7_walk_11 rfl ?_
  refine lv_lconst (v := 0) hx hb dX7_walk_12 (by decide) ?_
  refine lv_iload_n hx hb dX7_walk_13 rfl (lv_at hl 0 rfl) ?_
  refine lv_iconst (v := nI 1) hx hb dX7_walk_14 (by decide) ?_
  refine lv_isub hx hb dX7_walk_15 ?_
  refine lv_i2l (v := ((nI (tSz tr)) - (nI 1)).toInt64) hx hb dX7_walk_16 rfl ?_
  refine g_cS (v := (some (.int (bI (decide ((0 : Int64) ≤ k9.toInt64 ∧ k9.toInt64 ≤ (nI (tSz tr) - nI 1).toInt64)))))) (As := [.long k9.toInt64, .long 0, .long (((nI (tSz tr)) - (nI 1)).toInt64)]) (rest := [.ref m9]) hx hb hml hown hts hN hW.1 (m_in l Γ K G k9.toInt64 0 (nI (tSz tr) - nI 1).toInt64) gX7_walk_X7_in rfl (na := 3) rfl (by decide +kernel) ⟨by decide, by decide⟩ ⟨Nat.zero_le _, Nat.zero_le _⟩ rfl hl.1 (Nat.le_of_ble_eq_true rfl) dX7_walk_17 ?_
  show W _ _ _ _ _ _ _ _ _ _ _ _ _ _ _ (F0 m 20 ls [.int (bI (decide ((0 : Int64) ≤ k9.toInt64 ∧ k9.toInt64 ≤ (nI (tSz tr) - nI 1).toInt64))), .ref m9])
  refine g_asi (show _ = bI (decide (¬ k9 < 0 ∧ k9 < nI (tSz tr))) from by rw [in0 k9 (tSz tr) (by omega)]) ?_
  refine lv_if_eq (tgt := 27) hx hb dX7_walk_20 (by decide) (fun c1 => ?_) (fun c1 => ?_)
  · have c1 : (decide (¬ k9 < 0 ∧ k9 < nI (tSz tr))) = false := bI_0.mp c1
    have c1 := of_decide_eq_false c1
    refine lv_iconst (v := nI 1) hx hb dX7_walk_27 (by decide) ?_
    refine g_put (C := RX7) (T := TX7) (N := 31) hx hb hts hi7 tyX7 tyX7_ok nmX7 hown hN hW hk.1 rfl (by decide) 0 (by decide) hfX7_1 rfl rfl rfl dX7_walk_28 (fun H locs hW => ?_)
    refine lv_aload_n hx hb dX7_walk_31 rfl (lv_at hl 1 rfl) ?_
    refine g_get (C := RX7) (T := TX7) (N := 31) hx hb hts hi7 hown hN hW.1 hk.1 rfl (by decide) 0 (by decide) hfX7_1 (v := .int (nI 1)) gU_self dX7_walk_32 ?_
    refine lv_if_le (tgt := 42) hx hb dX7_walk_35 (by decide) (fun e1 => ?_) (fun e1 => ?_)
    · have e1 : 1 = 0 := (nI_le0 (by omega)).mp e1
      exact absurd e1 (by decide)
    · have e1 : 0 < 1 := Nat.pos_of_ne_zero (fun z => e1 ((nI_le0 (by omega)).mpr z))
      refine lv_iconst (v := nI 0) hx hb dX7_walk_38 (by decide) ?_
      refine lv_goto (tgt := 84) hx hb dX7_walk_39 (by decide) ?_
      exact hret (some (.int (nI 0))) _ _ _ _ _ _ hW (⟨1, nI 0, rfl, rfl, gU_self, Or.inl ⟨rfl, by rw [hts2]; exact c1⟩, hRG.thr hk, fun z => absurd z (by decide)⟩) (rt_i dX7_walk_84)
  · have c1 : (decide (¬ k9 < 0 ∧ k9 < nI (tSz tr))) = true := bI_n0.mp c1
    have c1 := of_decide_eq_true c1
    obtain ⟨i, hi, rfl⟩ := i32_nI (n := tSz tr) (by omega) c1.1 c1.2
    obtain ⟨y, hy⟩ : ∃ y, (tPre tr)[i]? = some y := ⟨(tPre tr)[i]'(by rw [tPre_len]; exact hi), List.getElem?_eq_getElem _⟩
    have hyt : y ∈ tPre tr := List.mem_of_getElem? hy
    obtain ⟨_, _, _, hXy⟩ := RX_mem htrG.2.1 hyt
    have hy140 := hXy.1
    have hwi : G (B 17) i = .int (nI y.1) := by
      have q1 := hway i (vIx y) (by rw [List.getElem?_map, hy]; rfl)
      rw [Nat.zero_add] at q1
      exact q1
    have hty : (tPre t)[i]? = some y.2 := by rw [← htr.1, tPre_map, List.getElem?_map, hy]; rfl
    refine lv_iconst (v := nI 0) hx hb dX7_walk_23 (by decide) ?_
    refine lv_goto (tgt := 28) hx hb dX7_walk_24 (by decide) ?_
    refine g_put (C := RX7) (T := TX7) (N := 31) hx hb hts hi7 tyX7 tyX7_ok nmX7 hown hN hW hk.1 rfl (by decide) 0 (by decide) hfX7_1 rfl rfl rfl dX7_walk_28 (fun H locs hW => ?_)
    refine lv_aload_n hx hb dX7_walk_31 rfl (lv_at hl 1 rfl) ?_
    refine g_get (C := RX7) (T := TX7) (N := 31) hx hb hts hi7 hown hN hW.1 hk.1 rfl (by decide) 0 (by decide) hfX7_1 (v := .int (nI 0)) gU_self dX7_walk_32 ?_
    refine lv_if_le (tgt := 42) hx hb dX7_walk_35 (by decide) (fun e1 => ?_) (fun e1 => ?_)
    · have e1 : 0 = 0 := (nI_le0 (by omega)).mp e1
      refine lv_aload_n hx hb dX7_walk_42 rfl (lv_at hl 1 rfl) ?_
      refine g_get (C := RX7) (T := TX7) (N := 31) hx hb hts hi7 hown hN hW.1 hk.1 rfl (by decide) 9 (by decide) hfX7_33 (v := .ref (B 9)) ((gU_k (by decide)).trans (hfG 9 rfl)) dX7_walk_43 ?_
      refine lv_aload_n hx hb dX7_walk_46 rfl (lv_at hl 1 rfl) ?_
      refine g_get (C := RX7) (T := TX7) (N := 31) hx hb hts hi7 hown hN hW.1 hk.1 rfl (by decide) 17 (by decide) hfX7_48 (v := .ref (B 17)) ((gU_k (by decide)).trans (hfG 17 rfl)) dX7_walk_47 ?_
      refine lv_iload_n hx hb dX7_walk_50 rfl (lv_at hl 2 rfl) ?_
      refine g_iald (j := i) hx hb hN hW.1 (hk.2.1 17 (8, 140) rfl) (by decide) (show _ = nI i from rfl) (by omega) (v := .int (nI y.1)) ((gU_a (hk.nm (i := 17) rfl)).trans hwi) dX7_walk_51 ?_
      refine g_zald (j := y.1) hx hb hN hW.1 (hk.2.1 9 (10, 140) rfl) (by decide) (show _ = nI y.1 from rfl) (by omega) (v := .int (bI (!y.2.2))) ((gU_a (hk.nm (i := 9) rfl)).trans hXy.2.2.2.2.1) dX7_walk_52 ?_
      refine lv_if_eq (tgt := 70) hx hb dX7_walk_53 (by decide) (fun x1 => ?_) (fun x1 => ?_)
      · have x1 : (!y.2.2) = false := bI_0.mp x1
        refine lv_aload_n hx hb dX7_walk_70 rfl (lv_at hl 1 rfl) ?_
        refine g_get (C := RX7) (T := TX7) (N := 31) hx hb hts hi7 hown hN hW.1 hk.1 rfl (by decide) 7 (by decide) hfX7_27 (v := .ref (B 7)) ((gU_k (by decide)).trans (hfG 7 rfl)) dX7_walk_71 ?_
        refine lv_aload_n hx hb dX7_walk_74 rfl (lv_at hl 1 rfl) ?_
        refine g_get (C := RX7) (T := TX7) (N := 31) hx hb hts hi7 hown hN hW.1 hk.1 rfl (by decide) 17 (by decide) hfX7_48 (v := .ref (B 17)) ((gU_k (by decide)).trans (hfG 17 rfl)) dX7_walk_75 ?_
        refine lv_iload_n hx hb dX7_walk_78 rfl (lv_at hl 2 rfl) ?_
        refine g_iald (j := i) hx hb hN hW.1 (hk.2.1 17 (8, 140) rfl) (by decide) (show _ = nI i from rfl) (by omega) (v := .int (nI y.1)) ((gU_a (hk.nm (i := 17) rfl)).trans hwi) dX7_walk_79 ?_
        refine g_iald (j := y.1) hx hb hN hW.1 (hk.2.1 7 (8, 140) rfl) (by decide) (show _ = nI y.1 from rfl) (by omega) (v := .int (nI y.2.1.1)) ((gU_a (hk.nm (i := 7) rfl)).trans hXy.2.2.1) dX7_walk_80 ?_
        refine lv_bipush (v := nI 100) hx hb dX7_walk_81 (by decide) ?_
        refine lv_isub hx hb dX7_walk_83 ?_
        exact hret (some (.int ((nI y.2.1.1) - (nI 100)))) _ _ _ _ _ _ hW (⟨0, nI y.2.1.1 - nI 100, rfl, rfl, gU_self, Or.inr (Or.inr ⟨rfl, by rw [hts2]; exact c1, trivial⟩), hRG.thr hk, fun _ k2 z e hz => by have hk2 : k2 < (tPre t).length := (List.getElem?_eq_some_iff.mp hz).1; rw [tPre_len] at hk2; have e := nI_inj (by omega) (by omega) e; subst e; rw [hty] at hz; cases hz; unfold walkA; rw [show y.2.2 = true by simpa using x1]; rfl⟩) (rt_i dX7_walk_84)
      · have x1 : (!y.2.2) = true := bI_n0.mp x1
        refine lv_aload_n hx hb dX7_walk_56 rfl (lv_at hl 1 rfl) ?_
        refine g_get (C := RX7) (T := TX7) (N := 31) hx hb hts hi7 hown hN hW.1 hk.1 rfl (by decide) 7 (by decide) hfX7_27 (v := .ref (B 7)) ((gU_k (by decide)).trans (hfG 7 rfl)) dX7_walk_57 ?_
        refine lv_aload_n hx hb dX7_walk_60 rfl (lv_at hl 1 rfl) ?_
        refine g_get (C := RX7) (T := TX7) (N := 31) hx hb hts hi7 hown hN hW.1 hk.1 rfl (by decide) 17 (by decide) hfX7_48 (v := .ref (B 17)) ((gU_k (by decide)).trans (hfG 17 rfl)) dX7_walk_61 ?_
        refine lv_iload_n hx hb dX7_walk_64 rfl (lv_at hl 2 rfl) ?_
        refine g_iald (j := i) hx hb hN hW.1 (hk.2.1 17 (8, 140) rfl) (by decide) (show _ = nI i from rfl) (by omega) (v := .int (nI y.1)) ((gU_a (hk.nm (i := 17) rfl)).trans hwi) dX7_walk_65 ?_
        refine g_iald (j := y.1) hx hb hN hW.1 (hk.2.1 7 (8, 140) rfl) (by decide) (show _ = nI y.1 from rfl) (by omega) (v := .int (nI y.2.1.1)) ((gU_a (hk.nm (i := 7) rfl)).trans hXy.2.2.1) dX7_walk_66 ?_
        refine lv_goto (tgt := 84) hx hb dX7_walk_67 (by decide) ?_
        exact hret (some (.int (nI y.2.1.1))) _ _ _ _ _ _ hW (⟨0, nI y.2.1.1, rfl, rfl, gU_self, Or.inr (Or.inr ⟨rfl, by rw [hts2]; exact c1, trivial⟩), hRG.thr hk, fun _ k2 z e hz => by have hk2 : k2 < (tPre t).length := (List.getElem?_eq_some_iff.mp hz).1; rw [tPre_len] at hk2; have e := nI_inj (by omega) (by omega) e; subst e; rw [hty] at hz; cases hz; unfold walkA; rw [show y.2.2 = false by simpa using x1]; rfl⟩) (rt_i dX7_walk_84)
    · have e1 : 0 < 0 := Nat.pos_of_ne_zero (fun z => e1 ((nI_le0 (by omega)).mpr z))
      exact absurd e1 (by decide)

theorem tDp_lt {α : Type} (t : TT α) : ∀ dep x, x ∈ tDp t dep → x < dep + tSz t := by
  induction t with
  | leaf => intro dep x h; cases h
  | inner s a v l r ihl ihr =>
    intro dep x h
    show x < dep + (tSz l + tSz r + 1)
    rcases List.mem_cons.mp h with e | e
    · omega
    · rcases List.mem_append.mp e with e | e
      · have := ihl _ _ e; omega
      · have := ihr _ _ e; omega

set_option maxHeartbeats 4000000 in
set_option maxRecDepth 100000 in
theorem m_count (l : Launch) (Γ : gG) (K : gK) (F : gF) (sz : Nat) (m9 : Nat) (B : Nat → Nat) (hk : MKk K m9 B) (d : Nat) (P : Nat → Option (Nat → Int32)) (t : TT gLb) (S : List (Nat × Int64)) (lk bc bg bp : Nat) (hR : RS F m9 B d P t S lk bc bg bp) (hAS : AS P t) (w9 : Int32) : gMM l yX7_count wsX7_count 1 0 0 Γ K F sz [.ref m9, .int w9] (fun v K' F' => ∃ th r, v = some (.int r) ∧ K' = K ∧ F' m9 0 = .int (nI th) ∧ thR th (¬ w9 < 0 ∧ w9 < nI 8) True ∧ RS F' m9 B d P t S lk bc bg bp ∧ (th = 0 → ∀ k, k < 8 → w9 = nI k → r = cntL d (lcP P) t bc bg bp k)) := by
  refine g_mM (cc := cX7_count) (maxL := 5) (ret := (some .int)) (by decide) rfl (Nat.le_of_ble_eq_true rfl) ?_
  intro p e s m args below meth c ls Z hsz hx hb hts hown hml hnm hN hW hret hl
  have hl : lv_has ls 5 [(0, .ref m9), (1, .int w9)] := hl
  have hown : s.vm.findClass RX7 = some m.cls := hown
  have hi7 : ∀ w ∈ wsX70, w ∈ wsX7_count := by decide +kernel
  have hfX7_1 : Cond.fieldLink RX7 1 (TX7 0).1 (TX7 0).2.1 (TX7 0).2.2.1 ∈ wsX7_count := by decide +kernel
  have hfX7_45 : Cond.fieldLink RX7 45 (TX7 13).1 (TX7 13).2.1 (TX7 13).2.2.1 ∈ wsX7_count := by decide +kernel
  have hfX7_48 : Cond.fieldLink RX7 48 (TX7 17).1 (TX7 17).2.1 (TX7 17).2.2.1 ∈ wsX7_count := by decide +kernel
  have hfX7_85 : Cond.fieldLink RX7 85 (TX7 1).1 (TX7 1).2.1 (TX7 1).2.2.1 ∈ wsX7_count := by decide +kernel
  have hfX7_125 : Cond.fieldLink RX7 125 (TX7 5).1 (TX7 5).2.1 (TX7 5).2.2.1 ∈ wsX7_count := by decide +kernel
  have hfX7_132 : Cond.fieldLink RX7 132 (TX7 14).1 (TX7 14).2.1 (TX7 14).2.2.1 ∈ wsX7_count := by decide +kernel
  have hfX7_135 : Cond.fieldLink RX7 135 (TX7 16).1 (TX7 16).2.1 (TX7 16).2.2.1 ∈ wsX7_count := by decide +kernel
  have hfX7_141 : Cond.fieldLink RX7 141 (TX7 15).1 (TX7 15).2.1 (TX7 15).2.2.1 ∈ wsX7_count := by decide +kernel
  have hf := hR.1
  refine lv_aload_n hx hb dX7_count_0 rfl (lv_at hl 0 rfl) ?_
  refine lv_iload_n hx hb dX7_count_1 rfl (lv_at hl 1 rfl) ?_
  refine lv_i2l (v := w9.toInt64) hx hb dX7_count_2 rfl ?_
  refine lv_lconst (v := 0) hx hb dX7_count_3 (by decide) ?_
  refine lv_ldc2 (v := 7) hx hb hown (hts _ (show Cond.constantLong RX7 174 (7) ∈ _ by decide +kernel)) dX7_count_4 ?_
  refine g_cS (v := (some (.int (bI (decide ((0 : Int64) ≤ w9.toInt64 ∧ w9.toInt64 ≤ 7)))))) (As := [.long w9.toInt64, .long 0, .long 7]) (rest := [.ref m9]) hx hb hml hown hts hN hW.1 (m_in l Γ K F w9.toInt64 0 7) gX7_count_X7_in rfl (na := 3) rfl (by decide +kernel) ⟨by decide, by decide⟩ ⟨Nat.zero_le _, Nat.zero_le _⟩ rfl hl.1 (Nat.le_of_ble_eq_true rfl) dX7_count_7 ?_
  show W _ _ _ _ _ _ _ _ _ _ _ _ _ _ _ (F0 m 10 ls [.int (bI (decide ((0 : Int64) ≤ w9.toInt64 ∧ w9.toInt64 ≤ 7))), .ref m9])
  refine g_asi (show _ = bI (decide (¬ w9 < 0 ∧ w9 < nI 8)) from by rw [inL w9 8 (by decide) 7 (by decide)]) ?_
  refine lv_if_eq (tgt := 17) hx hb dX7_count_10 (by decide) (fun c1 => ?_) (fun c1 => ?_)
  · have c1 : (decide (¬ w9 < 0 ∧ w9 < nI 8)) = false := bI_0.mp c1
    have c1 := of_decide_eq_false c1
    refine lv_iconst (v := nI 1) hx hb dX7_count_17 (by decide) ?_
    refine g_put (C := RX7) (T := TX7) (N := 31) hx hb hts hi7 tyX7 tyX7_ok nmX7 hown hN hW hk.1 rfl (by decide) 0 (by decide) hfX7_1 rfl rfl rfl dX7_count_18 (fun H locs hW => ?_)
    refine lv_aload_n hx hb dX7_count_21 rfl (lv_at hl 0 rfl) ?_
    refine g_get (C := RX7) (T := TX7) (N := 31) hx hb hts hi7 hown hN hW.1 hk.1 rfl (by decide) 0 (by decide) hfX7_1 (v := .int (nI 1)) gU_self dX7_count_22 ?_
    refine lv_if_le (tgt := 30) hx hb dX7_count_25 (by decide) (fun e1 => ?_) (fun e1 => ?_)
    · have e1 : 1 = 0 := (nI_le0 (by omega)).mp e1
      exact absurd e1 (by decide)
    · have e1 : 0 < 1 := Nat.pos_of_ne_zero (fun z => e1 ((nI_le0 (by omega)).mpr z))
      refine lv_iconst (v := nI 0) hx hb dX7_count_28 (by decide) ?_
      exact hret (some (.int (nI 0))) _ _ _ _ _ _ hW (⟨1, nI 0, rfl, rfl, gU_self, Or.inl ⟨rfl, c1⟩, hR.thr hk, fun z => absurd z (by decide)⟩) (rt_i dX7_count_29)
  · have c1 : (decide (¬ w9 < 0 ∧ w9 < nI 8)) = true := bI_n0.mp c1
    have c1 := of_decide_eq_true c1
    obtain ⟨wv, hwv, rfl⟩ := i32_nI (n := 8) (by decide) c1.1 c1.2
    refine lv_iconst (v := nI 0) hx hb dX7_count_13 (by decide) ?_
    refine lv_goto (tgt := 18) hx hb dX7_count_14 (by decide) ?_
    refine g_put (C := RX7) (T := TX7) (N := 31) hx hb hts hi7 tyX7 tyX7_ok nmX7 hown hN hW hk.1 rfl (by decide) 0 (by decide) hfX7_1 rfl rfl rfl dX7_count_18 (fun H locs hW => ?_)
    refine lv_aload_n hx hb dX7_count_21 rfl (lv_at hl 0 rfl) ?_
    refine g_get (C := RX7) (T := TX7) (N := 31) hx hb hts hi7 hown hN hW.1 hk.1 rfl (by decide) 0 (by decide) hfX7_1 (v := .int (nI 0)) gU_self dX7_count_22 ?_
    refine lv_if_le (tgt := 30) hx hb dX7_count_25 (by decide) (fun e1 => ?_) (fun e1 => ?_)
    · have e1 : 0 = 0 := (nI_le0 (by omega)).mp e1
      have hR1 : RS (gU F m9 0 (.int (nI 0))) m9 B d P t S lk bc bg bp := hR.thr hk
      have hG0 : gU F m9 0 (.int (nI 0)) m9 0 = .int (nI 0) := gU_self
      generalize gU F m9 0 (.int (nI 0)) = F1 at hW hR1 hG0
      have hf1 := hR1.1
      obtain ⟨tr, htr⟩ := hR1.2.2.2.2.1
      have htsz : tSz tr ≤ 120 := by
        have q1 := hAS.2.2.2.2.1
        have q2 := hAS.2.2.2.2.2.1
        rw [← htr.1, tSz_map] at q1
        omega
      have hts2 : tSz t = tSz tr := by rw [← htr.1, tSz_map]
      have htd2 : tDp t 0 = tDp tr 0 := by rw [← htr.1, tDp_map]
      refine lv_aload_n hx hb dX7_count_30 rfl (lv_at hl 0 rfl) ?_
      refine lv_aload_n hx hb dX7_count_31 rfl (lv_at hl 0 rfl) ?_
      refine g_get (C := RX7) (T := TX7) (N := 31) hx hb hts hi7 hown hN hW.1 hk.1 rfl (by decide) 13 (by decide) hfX7_45 (v := .int (oI (rtI tr))) htr.2.2.1 dX7_count_32 ?_
      refine g_mV (As := [.int (oI (rtI tr))]) (b := m9) (rest := []) hx hb hml hown hts hN hW (m_walkFrom l Γ K F1 H.size m9 B hk hf1 tr none htr.2.1 (by omega)) gX7_count_X7_walkFrom rfl hk.1 (by decide) rfl (na := 1) rfl (by decide +kernel) ⟨by decide, by decide⟩ ⟨Nat.le_of_ble_eq_true rfl, Nat.le_of_ble_eq_true rfl⟩ rfl hl.1 (Nat.le_of_ble_eq_true rfl) dX7_count_35 (fun v K' G H locs hp hW hsz' => ?_)
      obtain ⟨rfl, hK9, hway, hfr⟩ := hp
      subst K'
      show W _ _ _ _ _ _ _ _ _ _ _ _ _ _ _ (F0 m 38 ls [.int (nI (tSz tr))])
      have hRG : RS G m9 B d P t S lk bc bg bp := RS_congr hR1 (fun j _ => hfr _ j (fun z => hk.nm (i := 17) rfl z.symm) (fun z => hk.nm (i := 18) rfl z.symm)) (fun j i hj => hfr _ i (hk.ne (JK_some hj) rfl (fun e => by rw [e] at hj; exact absurd hj (by decide))) (hk.ne (JK_some hj) rfl (fun e => by rw [e] at hj; exact absurd hj (by decide))))
      have hfG := hRG.1
      have htrG : RSt G m9 B t tr := RSt_congr htr (hfr _ 13 (fun z => hk.nm (i := 17) rfl z.symm) (fun z => hk.nm (i := 18) rfl z.symm)) (fun j i hj => by
        have q1 := JK2_some (List.mem_cons_of_mem 2 (List.mem_cons_of_mem 3 hj))
        exact hfr _ i (hk.ne q1.1 rfl q1.2.1) (hk.ne q1.1 rfl q1.2.2.1))
      have hg0 : G m9 0 = .int (nI 0) := (hfr _ 0 (fun z => hk.nm (i := 17) rfl z.symm) (fun z => hk.nm (i := 18) rfl z.symm)).trans hG0
      refine lv_istore_n (lv' := [(2, .int (nI (tSz tr))), (0, .ref m9), (1, .int (nI wv))]) hx hb dX7_count_38 rfl hl (by decide) rfl (fun ls hl => ?_)
      refine lv_iload_n hx hb dX7_count_39 rfl (lv_at hl 2 rfl) ?_
      refine lv_iconst (v := nI 4) hx hb dX7_count_40 (by decide) ?_
      refine lv_icmp_ne (tgt := 98) hx hb dX7_count_41 (by decide) (fun x4 => ?_) (fun x4 => ?_)
      · have x4 : ¬ wv = 4 := fun z => x4 ((nI_eq (by omega) (by omega)).mpr z)
        refine lv_iload_n hx hb dX7_count_98 rfl (lv_at hl 2 rfl) ?_
        refine lv_if_ne (tgt := 109) hx hb dX7_count_99 (by decide) (fun x0 => ?_) (fun x0 => ?_)
        · have x0 : ¬ wv = 0 := fun z => x0 ((nI_eq0 (by omega)).mpr z)
          refine lv_iload_n hx hb dX7_count_109 rfl (lv_at hl 2 rfl) ?_
          refine lv_iconst (v := nI 1) hx hb dX7_count_110 (by decide) ?_
          refine lv_icmp_ne (tgt := 121) hx hb dX7_count_111 (by decide) (fun x1 => ?_) (fun x1 => ?_)
          · have x1 : ¬ wv = 1 := fun z => x1 ((nI_eq (by omega) (by omega)).mpr z)
            refine lv_iload_n hx hb dX7_count_121 rfl (lv_at hl 2 rfl) ?_
            refine lv_iconst (v := nI 2) hx hb dX7_count_122 (by decide) ?_
            refine lv_icmp_ne (tgt := 130) hx hb dX7_count_123 (by decide) (fun x2 => ?_) (fun x2 => ?_)
            · have x2 : ¬ wv = 2 := fun z => x2 ((nI_eq (by omega) (by omega)).mpr z)
              refine lv_iload_n hx hb dX7_count_130 rfl (lv_at hl 2 rfl) ?_
              refine lv_iconst (v := nI 3) hx hb dX7_count_131 (by decide) ?_
              refine lv_icmp_ne (tgt := 144) hx hb dX7_count_132 (by decide) (fun x3 => ?_) (fun x3 => ?_)
              · have x3 : ¬ wv = 3 := fun z => x3 ((nI_eq (by omega) (by omega)).mpr z)
                refine lv_iload_n hx hb dX7_count_144 rfl (lv_at hl 2 rfl) ?_
                refine lv_iconst (v := nI 5) hx hb dX7_count_145 (by decide) ?_
                refine lv_icmp_ne (tgt := 156) hx hb dX7_count_146 (by decide) (fun x5 => ?_) (fun x5 => ?_)
                · have x5 : ¬ wv = 5 := fun z => x5 ((nI_eq (by omega) (by omega)).mpr z)
                  refine lv_iload_n hx hb dX7_count_156 rfl (lv_at hl 2 rfl) ?_
                  refine lv_bipush (v := nI 6) hx hb dX7_count_157 (by decide) ?_
                  refine lv_icmp_ne (tgt := 169) hx hb dX7_count_159 (by decide) (fun x6 => ?_) (fun x6 => ?_)
                  · have x6 : ¬ wv = 6 := fun z => x6 ((nI_eq (by omega) (by omega)).mpr z)
                    refine lv_aload_n hx hb dX7_count_169 rfl (lv_at hl 1 rfl) ?_
                    refine g_get (C := RX7) (T := TX7) (N := 31) hx hb hts hi7 hown hN hW.1 hk.1 rfl (by decide) 16 (by decide) hfX7_135 (v := .int (nI bp)) hRG.2.2.2.2.2.2.2.2.2 dX7_count_170 ?_
                    exact hret (some (.int (nI bp))) _ _ _ _ _ _ hW (⟨0, nI bp, rfl, rfl, hg0, Or.inr (Or.inr ⟨rfl, c1, trivial⟩), hRG, fun _ k2 hk2 e => by have e := nI_inj (by omega) (by omega) e; subst e; unfold cntL; rw [if_neg x0, if_neg x1, if_neg x2, if_neg x3, if_neg x4, if_neg x5, if_neg x6]⟩) (rt_i dX7_count_173)
                  · have x6 : wv = 6 := (nI_eq (by omega) (by omega)).mp x6
                    refine lv_aload_n hx hb dX7_count_162 rfl (lv_at hl 1 rfl) ?_
                    refine g_get (C := RX7) (T := TX7) (N := 31) hx hb hts hi7 hown hN hW.1 hk.1 rfl (by decide) 15 (by decide) hfX7_141 (v := .int (nI bg)) hRG.2.2.2.2.2.2.2.2.1 dX7_count_163 ?_
                    refine lv_goto (tgt := 173) hx hb dX7_count_166 (by decide) ?_
                    exact hret (some (.int (nI bg))) _ _ _ _ _ _ hW (⟨0, nI bg, rfl, rfl, hg0, Or.inr (Or.inr ⟨rfl, c1, trivial⟩), hRG, fun _ k2 hk2 e => by have e := nI_inj (by omega) (by omega) e; subst e; unfold cntL; rw [if_neg x0, if_neg x1, if_neg x2, if_neg x3, if_neg x4, if_neg x5, if_pos x6]⟩) (rt_i dX7_count_173)
                · have x5 : wv = 5 := (nI_eq (by omega) (by omega)).mp x5
                  refine lv_aload_n hx hb dX7_count_149 rfl (lv_at hl 1 rfl) ?_
                  refine g_get (C := RX7) (T := TX7) (N := 31) hx hb hts hi7 hown hN hW.1 hk.1 rfl (by decide) 14 (by decide) hfX7_132 (v := .int (nI bc)) hRG.2.2.2.2.2.2.2.1 dX7_count_150 ?_
                  refine lv_goto (tgt := 173) hx hb dX7_count_153 (by decide) ?_
                  exact hret (some (.int (nI bc))) _ _ _ _ _ _ hW (⟨0, nI bc, rfl, rfl, hg0, Or.inr (Or.inr ⟨rfl, c1, trivial⟩), hRG, fun _ k2 hk2 e => by have e := nI_inj (by omega) (by omega) e; subst e; unfold cntL; rw [if_neg x0, if_neg x1, if_neg x2, if_neg x3, if_neg x4, if_pos x5]⟩) (rt_i dX7_count_173)
              · have x3 : wv = 3 := (nI_eq (by omega) (by omega)).mp x3
                refine lv_iload_n hx hb dX7_count_135 rfl (lv_at hl 0 rfl) ?_
                refine lv_aload_n hx hb dX7_count_136 rfl (lv_at hl 1 rfl) ?_
                refine g_get (C := RX7) (T := TX7) (N := 31) hx hb hts hi7 hown hN hW.1 hk.1 rfl (by decide) 5 (by decide) hfX7_125 (v := .int (nI (lcP P))) hRG.2.2.2.1 dX7_count_137 ?_
                refine lv_isub hx hb dX7_count_140 ?_
                refine lv_goto (tgt := 173) hx hb dX7_count_141 (by decide) ?_
                exact hret (some (.int ((nI (tSz tr)) - (nI (lcP P))))) _ _ _ _ _ _ hW (⟨0, nI (tSz tr) - nI (lcP P), rfl, rfl, hg0, Or.inr (Or.inr ⟨rfl, c1, trivial⟩), hRG, fun _ k2 hk2 e => by have e := nI_inj (by omega) (by omega) e; subst e; unfold cntL; rw [if_neg x0, if_neg x1, if_neg x2, if_pos x3]; rw [hts2]⟩) (rt_i dX7_count_173)
            · have x2 : wv = 2 := (nI_eq (by omega) (by omega)).mp x2
              refine lv_iload_n hx hb dX7_count_126 rfl (lv_at hl 0 rfl) ?_
              refine lv_goto (tgt := 173) hx hb dX7_count_127 (by decide) ?_
              exact hret (some (.int (nI (tSz tr)))) _ _ _ _ _ _ hW (⟨0, nI (tSz tr), rfl, rfl, hg0, Or.inr (Or.inr ⟨rfl, c1, trivial⟩), hRG, fun _ k2 hk2 e => by have e := nI_inj (by omega) (by omega) e; subst e; unfold cntL; rw [if_neg x0, if_neg x1, if_pos x2]; rw [hts2]⟩) (rt_i dX7_count_173)
          · have x1 : wv = 1 := (nI_eq (by omega) (by omega)).mp x1
            refine lv_aload_n hx hb dX7_count_114 rfl (lv_at hl 1 rfl) ?_
            refine g_get (C := RX7) (T := TX7) (N := 31) hx hb hts hi7 hown hN hW.1 hk.1 rfl (by decide) 5 (by decide) hfX7_125 (v := .int (nI (lcP P))) hRG.2.2.2.1 dX7_count_115 ?_
            refine lv_goto (tgt := 173) hx hb dX7_count_118 (by decide) ?_
            exact hret (some (.int (nI (lcP P)))) _ _ _ _ _ _ hW (⟨0, nI (lcP P), rfl, rfl, hg0, Or.inr (Or.inr ⟨rfl, c1, trivial⟩), hRG, fun _ k2 hk2 e => by have e := nI_inj (by omega) (by omega) e; subst e; unfold cntL; rw [if_neg x0, if_pos x1]⟩) (rt_i dX7_count_173)
        · have x0 : wv = 0 := (nI_eq0 (by omega)).mp x0
          refine lv_aload_n hx hb dX7_count_102 rfl (lv_at hl 1 rfl) ?_
          refine g_get (C := RX7) (T := TX7) (N := 31) hx hb hts hi7 hown hN hW.1 hk.1 rfl (by decide) 1 (by decide) hfX7_85 (v := .int (nI d)) hRG.2.1 dX7_count_103 ?_
          refine lv_goto (tgt := 173) hx hb dX7_count_106 (by decide) ?_
          exact hret (some (.int (nI d))) _ _ _ _ _ _ hW (⟨0, nI d, rfl, rfl, hg0, Or.inr (Or.inr ⟨rfl, c1, trivial⟩), hRG, fun _ k2 hk2 e => by have e := nI_inj (by omega) (by omega) e; subst e; unfold cntL; rw [if_pos x0]⟩) (rt_i dX7_count_173)
      · have x4 : wv = 4 := (nI_eq (by omega) (by omega)).mp x4
        subst x4
        refine lv_iconst (v := nI 0) hx hb dX7_count_44 (by decide) ?_
        refine lv_istore_n (lv' := [(3, .int (nI 0)), (2, .int (nI (tSz tr))), (0, .ref m9), (1, .int (nI 4))]) hx hb dX7_count_45 rfl hl (by decide) rfl (fun ls hl => ?_)
        refine lv_iconst (v := nI 0) hx hb dX7_count_46 (by decide) ?_
        refine lv_istore (lv' := [(4, .int (nI 0)), (3, .int (nI 0)), (2, .int (nI (tSz tr))), (0, .ref m9), (1, .int (nI 4))]) hx hb dX7_count_47 hl (by decide) rfl (fun ls hl => ?_)
        have loop : ∀ (D2 D1 : List Nat) (n9 : Nat) (ls : Array Slot), tDp tr 0 = D1 ++ D2 → D1.length = n9 → lvls D1 ≤ 1000 → lv_has ls 5 [(4, .int (nI n9)), (3, .int (nI (lvls D1))), (2, .int (nI (tSz tr))), (0, .ref m9)] → W p l e (gRm 1 0 0) s m args below meth c H locs 0 0 Z (F0 m 49 ls []) := by
          intro D2
          induction D2 with
          | nil =>
            intro D1 n9 ls hD hn hbd hl
            rw [List.append_nil] at hD
            have hn2 : n9 = tSz tr := by rw [← hn, ← hD, tDp_len]
            refine lv_iload hx hb dX7_count_49 (lv_at hl 0 rfl) ?_
            refine lv_iload_n hx hb dX7_count_51 rfl (lv_at hl 2 rfl) ?_
            refine lv_icmp_ge (tgt := 96) hx hb dX7_count_52 (by decide) (fun y1 => ?_) (fun y1 => ?_)
            · have y1 : (tSz tr) ≤ n9 := (nI_leI (by omega) (by omega)).mp y1
              refine lv_iload_n hx hb dX7_count_96 rfl (lv_at hl 1 rfl) ?_
              exact hret (some (.int (nI (lvls D1)))) _ _ _ _ _ _ hW (⟨0, nI (lvls D1), rfl, rfl, hg0, Or.inr (Or.inr ⟨rfl, c1, trivial⟩), hRG, fun _ k2 hk2 e => by have e := nI_inj (by omega) (by omega) e; subst e; unfold cntL; rw [htd2, hD]; rfl⟩) (rt_i dX7_count_97)
            · have y1 : n9 < (tSz tr) := Nat.not_le.mp (fun z => y1 ((nI_leI (by omega) (by omega)).mpr z))
              exact absurd y1 (by omega)
          | cons x D2 ih =>
            intro D1 n9 ls hD hn hbd hl
            have hlen : D1.length + (D2.length + 1) = tSz tr := by rw [← tDp_len tr 0, hD, List.length_append, List.length_cons]
            obtain ⟨y, hy⟩ : ∃ y, (tPre tr)[n9]? = some y := ⟨(tPre tr)[n9]'(by rw [tPre_len]; omega), List.getElem?_eq_getElem _⟩
            obtain ⟨cs, hcs, hdc⟩ := dep_at (c0 := []) htrG.2.1 htrG.2.2.1 hy
            have hdc : (tDp tr 0)[n9]? = some cs.length := hdc
            have hxc : x = cs.length := by
              rw [hD, List.getElem?_append_right (by omega), hn, Nat.sub_self] at hdc
              exact Option.some.inj hdc
            have hy140 := hcs.1
            have hwi : G (B 17) n9 = .int (nI y.1) := by
              have q1 := hway n9 (vIx y) (by rw [List.getElem?_map, hy]; rfl)
              rw [Nat.zero_add] at q1
              exact q1
            have hxb : x < 2 ^ 30 := by
              have q1 := tDp_lt tr 0 x (by rw [hD]; simp)
              omega
            have hdp : gMR l yX7_depth wsX7_depth 0 Γ K G [.ref m9, .int (nI y.1)] (some (.int (nI x))) := by rw [hxc]; exact m_depth l Γ K G m9 B hk hfG y.1 cs hcs
            refine lv_iload hx hb dX7_count_49 (lv_at hl 0 rfl) ?_
            refine lv_iload_n hx hb dX7_count_51 rfl (lv_at hl 2 rfl) ?_
            refine lv_icmp_ge (tgt := 96) hx hb dX7_count_52 (by decide) (fun y1 => ?_) (fun y1 => ?_)
            · have y1 : (tSz tr) ≤ n9 := (nI_leI (by omega) (by omega)).mp y1
              exact absurd y1 (by omega)
            · have y1 : n9 < (tSz tr) := Nat.not_le.mp (fun z => y1 ((nI_leI (by omega) (by omega)).mpr z))
              refine lv_aload_n hx hb dX7_count_55 rfl (lv_at hl 3 rfl) ?_
              refine lv_aload_n hx hb dX7_count_56 rfl (lv_at hl 3 rfl) ?_
              refine g_get (C := RX7) (T := TX7) (N := 31) hx hb hts hi7 hown hN hW.1 hk.1 rfl (by decide) 17 (by decide) hfX7_48 (v := .ref (B 17)) (hfG 17 rfl) dX7_count_57 ?_
              refine lv_iload hx hb dX7_count_60 (lv_at hl 0 rfl) ?_
              refine g_iald (j := n9) hx hb hN hW.1 (hk.2.1 17 (8, 140) rfl) (by decide) (show _ = nI n9 from rfl) (by omega) (v := .int (nI y.1)) hwi dX7_count_62 ?_
              refine g_cV (v := (some (.int (nI x)))) (As := [.int (nI y.1)]) (b := m9) (rest := []) hx hb hml hown hts hN hW.1 (hdp) gX7_count_X7_depth rfl hk.1 (by decide) rfl (na := 1) rfl (by decide +kernel) ⟨by decide, by decide⟩ ⟨Nat.zero_le _, Nat.zero_le _⟩ rfl hl.1 (Nat.le_of_ble_eq_true rfl) dX7_count_63 ?_
              show W _ _ _ _ _ _ _ _ _ _ _ _ _ _ _ (F0 m 66 ls [.int (nI x)])
              refine lv_iconst (v := nI 1) hx hb dX7_count_66 (by decide) ?_
              refine lv_iadd hx hb dX7_count_67 ?_
              refine g_asi (show _ = nI (x + 1) from (nI_add _ _).trans (by rfl)) ?_
              refine lv_iload_n hx hb dX7_count_68 rfl (lv_at hl 1 rfl) ?_
              refine lv_icmp_le (tgt := 88) hx hb dX7_count_69 (by decide) (fun y2 => ?_) (fun y2 => ?_)
              · have y2 : (x + 1) ≤ (lvls D1) := (nI_leI (by omega) (by omega)).mp y2
                refine lv_iload_n hx hb dX7_count_88 rfl (lv_at hl 1 rfl) ?_
                refine g_asi (show _ = nI (lvls (D1 ++ [x])) from by rw [lvls_snoc, Nat.max_eq_left y2]) ?_
                refine lv_istore_n (lv' := [(3, .int (nI (lvls (D1 ++ [x])))), (4, .int (nI n9)), (2, .int (nI (tSz tr))), (0, .ref m9)]) hx hb dX7_count_89 rfl hl (by decide) rfl (fun ls hl => ?_)
                refine lv_iinc (v := nI (n9 + 1)) (lv' := [(4, .int (nI (n9 + 1))), (3, .int (nI (lvls (D1 ++ [x])))), (2, .int (nI (tSz tr))), (0, .ref m9)]) hx hb dX7_count_90 hl (k := 1) rfl (inc1 _) (by decide) rfl (fun ls hl => ?_)
                refine lv_goto (tgt := 49) hx hb dX7_count_93 (by decide) ?_
                exact ih (D1 ++ [x]) (n9 + 1) ls (by rw [hD]; simp) (by simp [hn]) (by rw [lvls_snoc]; have q1 := tDp_lt tr 0 x (by rw [hD]; simp); omega) (lv_sub hl [0, 1, 2, 3] rfl)
              · have y2 : (lvls D1) < (x + 1) := Nat.not_le.mp (fun z => y2 ((nI_leI (by omega) (by omega)).mpr z))
                refine lv_aload_n hx hb dX7_count_72 rfl (lv_at hl 3 rfl) ?_
                refine lv_aload_n hx hb dX7_count_73 rfl (lv_at hl 3 rfl) ?_
                refine g_get (C := RX7) (T := TX7) (N := 31) hx hb hts hi7 hown hN hW.1 hk.1 rfl (by decide) 17 (by decide) hfX7_48 (v := .ref (B 17)) (hfG 17 rfl) dX7_count_74 ?_
                refine lv_iload hx hb dX7_count_77 (lv_at hl 0 rfl) ?_
                refine g_iald (j := n9) hx hb hN hW.1 (hk.2.1 17 (8, 140) rfl) (by decide) (show _ = nI n9 from rfl) (by omega) (v := .int (nI y.1)) hwi dX7_count_79 ?_
                refine g_cV (v := (some (.int (nI x)))) (As := [.int (nI y.1)]) (b := m9) (rest := []) hx hb hml hown hts hN hW.1 (hdp) gX7_count_X7_depth rfl hk.1 (by decide) rfl (na := 1) rfl (by decide +kernel) ⟨by decide, by decide⟩ ⟨Nat.zero_le _, Nat.zero_le _⟩ rfl hl.1 (Nat.le_of_ble_eq_true rfl) dX7_count_80 ?_
                show W _ _ _ _ _ _ _ _ _ _ _ _ _ _ _ (F0 m 83 ls [.int (nI x)])
                refine lv_iconst (v := nI 1) hx hb dX7_count_83 (by decide) ?_
                refine lv_iadd hx hb dX7_count_84 ?_
                refine g_asi (show _ = nI (x + 1) from (nI_add _ _).trans (by rfl)) ?_
                refine lv_goto (tgt := 89) hx hb dX7_count_85 (by decide) ?_
                refine g_asi (show _ = nI (lvls (D1 ++ [x])) from by rw [lvls_snoc, Nat.max_eq_right (Nat.le_of_lt y2)]) ?_
                refine lv_istore_n (lv' := [(3, .int (nI (lvls (D1 ++ [x])))), (4, .int (nI n9)), (2, .int (nI (tSz tr))), (0, .ref m9)]) hx hb dX7_count_89 rfl hl (by decide) rfl (fun ls hl => ?_)
                refine lv_iinc (v := nI (n9 + 1)) (lv' := [(4, .int (nI (n9 + 1))), (3, .int (nI (lvls (D1 ++ [x])))), (2, .int (nI (tSz tr))), (0, .ref m9)]) hx hb dX7_count_90 hl (k := 1) rfl (inc1 _) (by decide) rfl (fun ls hl => ?_)
                refine lv_goto (tgt := 49) hx hb dX7_count_93 (by decide) ?_
                exact ih (D1 ++ [x]) (n9 + 1) ls (by rw [hD]; simp) (by simp [hn]) (by rw [lvls_snoc]; have q1 := tDp_lt tr 0 x (by rw [hD]; simp); omega) (lv_sub hl [0, 1, 2, 3] rfl)
        exact loop (tDp tr 0) [] 0 ls rfl rfl (Nat.zero_le _) (lv_sub hl [0, 1, 2, 3] rfl)
    · have e1 : 0 < 0 := Nat.pos_of_ne_zero (fun z => e1 ((nI_le0 (by omega)).mpr z))
      exact absurd e1 (by decide)
