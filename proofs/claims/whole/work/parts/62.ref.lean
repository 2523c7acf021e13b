/-- the label of a dropped point -/
def killL (i : Nat) (y : gLb) : gLb := (y.1, y.2 || decide (y.1.1 = i))
def killM (n : Nat) (z : mLb) : mLb := (z.1, (z.2.1, z.2.2 || decide (z.1 = n)))
theorem killM_rt {n : Nat} {t : TT mLb} : rtI (tMap (killM n) t) = rtI t := by cases t <;> rfl
theorem killM_ix {n : Nat} {t : TT mLb} : ixT (tMap (killM n) t) = ixT t := by unfold ixT; rw [tPre_map, List.map_map]; rfl
theorem killM_RX {K : gK} {F : gF} {B : Nat → Nat} {m9 n : Nat} (hk : MKk K m9 B) : ∀ {t : TT mLb} {up : Option Nat}, RX F B t up → RX (gU F (B 9) n (.int (nI 0))) B (tMap (killM n) t) up := by
  intro t
  induction t with
  | leaf => intro _ _; trivial
  | inner s y v l r ihl ihr =>
    intro up h
    refine ⟨?_, ihl h.2.1, ihr h.2.2⟩
    rw [killM_rt, killM_rt]
    obtain ⟨a1, a2, a3, a4, a5, a6, a7, a8⟩ := h.1
    refine ⟨a1, a2, (gU_a (hk.ne (i := 7) rfl rfl (by decide))).trans a3, fun a ha => (gU_a (hk.ne (i := 8) rfl rfl (by decide))).trans (a4 a ha), ?_, (gU_a (hk.ne (i := 10) rfl rfl (by decide))).trans a6, (gU_a (hk.ne (i := 11) rfl rfl (by decide))).trans a7, (gU_a (hk.ne (i := 12) rfl rfl (by decide))).trans a8⟩
    show gU F (B 9) n (.int (nI 0)) (B 9) y.1 = .int (bI (!(y.2.2 || decide (y.1 = n))))
    by_cases e : y.1 = n
    · rw [e, gU_self, decide_eq_true rfl, Bool.or_true]; rfl
    · rw [gU_k e, decide_eq_false e, Bool.or_false]; exact a5
theorem liv_kill (n : Nat) (L : List mLb) : liv (L.map (killM n)) = ((L.filter (fun z => !z.2.2)).filter (fun z => !decide (z.1 = n))).map (fun z => z.2.1.1) := by
  induction L with
  | nil => rfl
  | cons z L ih =>
    unfold liv at ih ⊢
    rw [List.map_cons, List.filter_cons, List.filter_cons]
    have e1 : (killM n z).2.2 = (z.2.2 || decide (z.1 = n)) := rfl
    rw [e1]
    cases h1 : z.2.2 <;> by_cases h2 : z.1 = n
    all_goals simp [h1, h2, ih, killM]
theorem nodup_map_inj {α : Type} (g : α → Nat) : ∀ {L : List α} {x y : α}, (L.map g).Nodup → x ∈ L → y ∈ L → g x = g y → x = y
  | [], _, _, _, hx, _, _ => by cases hx
  | a :: L, x, y, hn, hx, hy, e => by
    rw [List.map_cons, List.nodup_cons] at hn
    rcases List.mem_cons.mp hx with rfl | hx <;> rcases List.mem_cons.mp hy with rfl | hy
    · rfl
    · exact absurd (List.mem_map.mpr ⟨y, hy, e.symm⟩) hn.1
    · exact absurd (List.mem_map.mpr ⟨x, ‹x ∈ L›, e⟩) hn.1
    · exact nodup_map_inj g hn.2 hx hy e

set_option maxHeartbeats 4000000 in
set_option maxRecDepth 100000 in
theorem m_drop (l : Launch) (Γ : gG) (K : gK) (F : gF) (sz : Nat) (m9 : Nat) (B : Nat → Nat) (hk : MKk K m9 B) (d : Nat) (P : Nat → Option (Nat → Int32)) (t : TT gLb) (S : List (Nat × Int64)) (lk bc bg bp : Nat) (hR : RS F m9 B d P t S lk bc bg bp) (hd0 : 0 < d) (hd4 : d ≤ 4) (hAS : AS P t) (d9 : Int32) : gMM l yX7_drop wsX7_drop 2 0 0 Γ K F sz [.ref m9, .int d9] (fun v K' F' => ∃ th r, v = some (.int r) ∧ K' = K ∧ F' m9 0 = .int (nI th) ∧ thR th (okId d9 = true) (∃ i p, i < 100 ∧ d9 = nI i ∧ P i = some p) ∧ (th ≠ 0 → RS F' m9 B d P t S lk bc bg bp) ∧ (th = 0 → ∀ i, i < 100 → d9 = nI i → r = nI (lcP (va_up P i none)) ∧ RS F' m9 B d (va_up P i none) (dropG ltL (fun y => y.2) d (lcP (va_up P i none)) (tMap (killL i) t)).1 S lk bc (bg + (dropG ltL (fun y => y.2) d (lcP (va_up P i none)) (tMap (killL i) t)).2.1) (bp + (dropG ltL (fun y => y.2) d (lcP (va_up P i none)) (tMap (killL i) t)).2.2))) := by
  refine g_mM (cc := cX7_drop) (maxL := 3) (ret := (some .int)) (by decide) rfl (Nat.le_of_ble_eq_true rfl) ?_
  intro p e s m args below meth c ls Z hsz hx hb hts hown hml hnm hN hW hret hl
  have hl : lv_has ls 3 [(0, .ref m9), (1, .int d9)] := hl
  have hown : s.vm.findClass RX7 = some m.cls := hown
  have hi7 : ∀ w ∈ wsX70, w ∈ wsX7_drop := by decide +kernel
  have hfX7_1 : Cond.fieldLink RX7 1 (TX7 0).1 (TX7 0).2.1 (TX7 0).2.2.1 ∈ wsX7_drop := by decide +kernel
  have hfX7_13 : Cond.fieldLink RX7 13 (TX7 2).1 (TX7 2).2.1 (TX7 2).2.2.1 ∈ wsX7_drop := by decide +kernel
  have hfX7_21 : Cond.fieldLink RX7 21 (TX7 4).1 (TX7 4).2.1 (TX7 4).2.2.1 ∈ wsX7_drop := by decide +kernel
  have hfX7_33 : Cond.fieldLink RX7 33 (TX7 9).1 (TX7 9).2.1 (TX7 9).2.2.1 ∈ wsX7_drop := by decide +kernel
  have hfX7_45 : Cond.fieldLink RX7 45 (TX7 13).1 (TX7 13).2.1 (TX7 13).2.2.1 ∈ wsX7_drop := by decide +kernel
  have hfX7_125 : Cond.fieldLink RX7 125 (TX7 5).1 (TX7 5).2.1 (TX7 5).2.2.1 ∈ wsX7_drop := by decide +kernel
  have hfX7_135 : Cond.fieldLink RX7 135 (TX7 16).1 (TX7 16).2.1 (TX7 16).2.2.1 ∈ wsX7_drop := by decide +kernel
  have hfX7_141 : Cond.fieldLink RX7 141 (TX7 15).1 (TX7 15).2.1 (TX7 15).2.2.1 ∈ wsX7_drop := by decide +kernel
  have hf := hR.1
  have h60 := hAS.2.2.2.2.2.1
  refine lv_aload_n hx hb dX7_drop_0 rfl (lv_at hl 0 rfl) ?_
  refine lv_iload_n hx hb dX7_drop_1 rfl (lv_at hl 1 rfl) ?_
  refine g_cS (v := (some (.int (bI (okId d9))))) (As := [.int d9]) (rest := [.ref m9]) hx hb hml hown hts hN hW.1 (m_isId l Γ K F d9) gX7_drop_X7_isId rfl (na := 1) rfl (by decide +kernel) ⟨by decide, by decide⟩ ⟨Nat.zero_le _, Nat.zero_le _⟩ rfl hl.1 (Nat.le_of_ble_eq_true rfl) dX7_drop_2 ?_
  show W _ _ _ _ _ _ _ _ _ _ _ _ _ _ _ (F0 m 5 ls [.int (bI (okId d9)), .ref m9])
  refine lv_if_ne (tgt := 12) hx hb dX7_drop_5 (by decide) (fun c1 => ?_) (fun c1 => ?_)
  · have c1 : (okId d9) = true := bI_n0.mp c1
    obtain ⟨i, hi, rfl⟩ := okId_nI c1
    refine lv_aload_n hx hb dX7_drop_12 rfl (lv_at hl 0 rfl) ?_
    refine g_get (C := RX7) (T := TX7) (N := 31) hx hb hts hi7 hown hN hW.1 hk.1 rfl (by decide) 2 (by decide) hfX7_13 (v := .ref (B 2)) (hf 2 rfl) dX7_drop_13 ?_
    refine lv_iload_n hx hb dX7_drop_16 rfl (lv_at hl 1 rfl) ?_
    refine g_zald (j := i) hx hb hN hW.1 (hk.2.1 2 (10, 100) rfl) (by decide) (show _ = nI i from rfl) hi (v := .int (bI (P i).isSome)) (hR.2.2.1.1 i hi) dX7_drop_17 ?_
    refine lv_if_ne (tgt := 25) hx hb dX7_drop_18 (by decide) (fun c3 => ?_) (fun c3 => ?_)
    · have c3 : (P i).isSome = true := bI_n0.mp c3
      obtain ⟨p9, hp9⟩ := Option.isSome_iff_exists.mp c3
      refine lv_iconst (v := nI 0) hx hb dX7_drop_25 (by decide) ?_
      refine g_put (C := RX7) (T := TX7) (N := 31) hx hb hts hi7 tyX7 tyX7_ok nmX7 hown hN hW hk.1 rfl (by decide) 0 (by decide) hfX7_1 rfl rfl rfl dX7_drop_26 (fun H locs hW => ?_)
      refine lv_aload_n hx hb dX7_drop_29 rfl (lv_at hl 0 rfl) ?_
      refine g_get (C := RX7) (T := TX7) (N := 31) hx hb hts hi7 hown hN hW.1 hk.1 rfl (by decide) 0 (by decide) hfX7_1 (v := .int (nI 0)) gU_self dX7_drop_30 ?_
      refine lv_if_le (tgt := 38) hx hb dX7_drop_33 (by decide) (fun e1 => ?_) (fun e1 => ?_)
      · have e1 : 0 = 0 := (nI_le0 (by omega)).mp e1
        have hRG : RS (gU F m9 0 (.int (nI 0))) m9 B d P t S lk bc bg bp := hR.thr hk
        have hG0 : gU F m9 0 (.int (nI 0)) m9 0 = .int (nI 0) := gU_self
        generalize gU F m9 0 (.int (nI 0)) = G at hW hRG hG0
        obtain ⟨hfG, hd1, hP1, h51, ⟨tr, htr⟩, hlG, h28G, h14G, h15G, h16G⟩ := hRG
        obtain ⟨Q, hQ⟩ : ∃ Q, Q = va_up P i none := ⟨_, rfl⟩
        have hQi : Q i = none := by rw [hQ, va_up_self]
        have hQo : ∀ j, j ≠ i → Q j = P j := fun j hj => by rw [hQ, va_up_ne _ _ hj]
        have hQl : lcP Q + 1 = lcP P := by rw [hQ]; exact lcP_drop hp9 hi
        obtain ⟨y, hy, hy2⟩ : ∃ y ∈ tPre tr, y.2 = ((i, p9), false) := by
          have q1 := hAS.2.1 i p9 hi hp9
          rw [← htr.1, tPre_map] at q1
          obtain ⟨y, hy, e⟩ := List.mem_map.mp q1
          exact ⟨y, hy, e⟩
        obtain ⟨_, _, _, hXy⟩ := RX_mem htr.2.1 hy
        have hy140 := hXy.1
        have hyi : y.2.1.1 = i := by rw [hy2]
        have hyd : y.2.2 = false := by rw [hy2]
        have hno := htr.2.2.2.2.2 y hy hyd
        rw [hyi] at hno
        obtain ⟨F2, hF2⟩ : ∃ f, f = gU (gU (gU G (B 2) i (.int (nI 0))) m9 5 (.int (nI (lcP Q)))) (B 9) y.1 (.int (nI 0)) := ⟨_, rfl⟩
        have e2 : ∀ b j, b ≠ B 2 → b ≠ B 9 → ¬ (b = m9 ∧ j = 5) → F2 b j = G b j := fun b j h1 h2 h3 => by rw [hF2, gU_a h2, gU_ne h3, gU_a h1]
        have h25 : F2 m9 5 = .int (nI (lcP Q)) := by rw [hF2, gU_a (Ne.symm (hk.nm (i := 9) rfl)), gU_self]
        have hm2 : ∀ j, j ≠ 5 → F2 m9 j = G m9 j := fun j hj => e2 _ j (fun z => hk.nm (i := 2) rfl z.symm) (fun z => hk.nm (i := 9) rfl z.symm) (fun z => hj z.2)
        have e2j : ∀ j i, (mKd j).isSome = true → j ≠ 2 → j ≠ 9 → F2 (B j) i = G (B j) i := fun j i h1 h2 h3 => e2 _ i (hk.ne h1 rfl h2) (hk.ne h1 rfl h3) (fun z => hk.nm h1 z.1)
        have hP2 : RSp F2 B Q := by
          refine ⟨fun j hj => ?_, fun j p hj hp a ha => ?_⟩
          · rw [hF2, gU_a (hk.ne (i := 2) (j := 9) rfl rfl (by decide)), gU_a (hk.nm (i := 2) rfl)]
            by_cases e : j = i
            · rw [e, gU_self, hQi]; rfl
            · rw [gU_k e, hQo j e]; exact hP1.1 j hj
          · rw [e2j 3 _ rfl (by decide) (by decide)]
            by_cases e : j = i
            · rw [e, hQi] at hp; cases hp
            · rw [hQo j e] at hp; exact hP1.2 j p hj hp a ha
        have hf2 : MKf F2 m9 B := hfG.up (fun j hj => hm2 j (fun e => by rw [e] at hj; exact absurd hj (by decide)))
        have hd2 : F2 m9 1 = .int (nI d) := (hm2 1 (by decide)).trans hd1
        obtain ⟨T, hT⟩ : ∃ T, T = tMap (killM y.1) tr := ⟨_, rfl⟩
        have hTs : tSz T = tSz tr := by rw [hT, tSz_map]
        have htsz : tSz tr ≤ 120 := by
          have q1 := hAS.2.2.2.2.1
          rw [← htr.1, tSz_map] at q1
          omega
        have hlab : ∀ z ∈ tPre tr, z.2.1.1 < 100 ∧ (z.2.2 = false → P z.2.1.1 = some z.2.1.2) := fun z hz => by
          have hz2 : z.2 ∈ tPre t := by rw [← htr.1, tPre_map]; exact List.mem_map.mpr ⟨z, hz, rfl⟩
          exact ⟨(hAS.2.2.2.2.2.2 z.2 hz2).1, hAS.1 z.2 hz2⟩
        have hsn := liv_snd (tPre tr)
        rw [← tPre_map, show tMap (fun y : mLb => y.2) tr = t from htr.1] at hsn
        have hlvn : (liv (tPre tr)).Nodup := by rw [hsn]; exact hAS.2.2.1
        have hlvl : (liv (tPre tr)).length = lcP P := by rw [hsn, List.length_map]; exact hAS.2.2.2.1
        have hlcs : lcP P ≤ tSz tr := by rw [← hlvl, ← tPre_len]; exact liv_len _
        have huni : ∀ z ∈ tPre tr, z.2.2 = false → z.2.1.1 = i → z.1 = y.1 := fun z hz hzd hzi => by
          have q1 := nodup_map_inj (fun y : mLb => y.2.1.1) (L := (tPre tr).filter (fun y => !y.2.2)) hlvn (x := z) (y := y) (List.mem_filter.mpr ⟨hz, by rw [hzd]; rfl⟩) (List.mem_filter.mpr ⟨hy, by rw [hyd]; rfl⟩) (hzi.trans hyi.symm)
          rw [q1]
        have hT1 : sndT T = tMap (killL i) t := by
          rw [hT, ← htr.1]
          unfold sndT
          rw [tMap_map, tMap_map]
          refine tMap_congr (fun z hz => ?_)
          show (z.2.1, z.2.2 || decide (z.1 = y.1)) = (z.2.1, z.2.2 || decide (z.2.1.1 = i))
          cases hzd : z.2.2 with
          | true => rfl
          | false =>
            by_cases e : z.1 = y.1
            · have q1 : z = y := nodup_map_inj (fun y : mLb => y.1) (L := tPre tr) htr.2.2.2.2.1 hz hy e
              rw [decide_eq_true e, decide_eq_true (by rw [q1]; exact hyi)]
            · rw [decide_eq_false e, decide_eq_false (fun q => e (huni z hz hzd q))]
        have hXT : RX F2 B T none := by
          rw [hT, hF2]
          refine killM_RX hk (RX_keep (fun j q h1 h2 => ?_) htr.2.1)
          rw [gU_a (hk.nm (mKd_7 h1 h2)), gU_a (hk.ne (mKd_7 h1 h2) rfl (by omega))]
        have h13T : F2 m9 13 = .int (oI (rtI T)) := by rw [hm2 13 (by decide), hT, killM_rt]; exact htr.2.2.1
        have hUT : usL F2 B (ixT T) := fun j hj => by rw [e2j 6 j rfl (by decide) (by decide), hT, killM_ix]; exact htr.2.2.2.1 j hj
        have hnT : (ixT T).Nodup := by rw [hT, killM_ix]; exact htr.2.2.2.2.1
        have hlabT : ∀ z ∈ tPre T, z.2.1.1 < 100 ∧ (z.2.2 = false → Q z.2.1.1 = some z.2.1.2) ∧ (z.2.2 = false → F2 (B 4) z.2.1.1 = .int (nI z.1)) := fun z hz => by
          rw [hT, tPre_map] at hz
          obtain ⟨x, hx9, rfl⟩ := List.mem_map.mp hz
          have q1 := hlab x hx9
          refine ⟨q1.1, fun hd => ?_, fun hd => ?_⟩
          · have hd : (x.2.2 || decide (x.1 = y.1)) = false := hd
            have hd1 : x.2.2 = false := by cases h : x.2.2; rfl; rw [h] at hd; cases hd
            have hd2 : ¬ x.1 = y.1 := fun e => by rw [decide_eq_true e, Bool.or_true] at hd; cases hd
            show Q x.2.1.1 = some x.2.1.2
            rw [hQo _ (fun e => hd2 (huni x hx9 hd1 e))]
            exact q1.2 hd1
          · have hd : (x.2.2 || decide (x.1 = y.1)) = false := hd
            have hd1 : x.2.2 = false := by cases h : x.2.2; rfl; rw [h] at hd; cases hd
            show F2 (B 4) x.2.1.1 = .int (nI x.1)
            rw [e2j 4 _ rfl (by decide) (by decide)]
            exact htr.2.2.2.2.2 x hx9 hd1
        have hlivT : (liv (tPre T)).Nodup ∧ (liv (tPre T)).length ≤ 60 := by
          rw [hT, tPre_map, liv_kill]
          have q1 : ((((tPre tr).filter (fun z => !z.2.2)).filter (fun z => !decide (z.1 = y.1))).map (fun z => z.2.1.1)).Sublist (liv (tPre tr)) := (List.filter_sublist (p := fun z : mLb => !decide (z.1 = y.1))).map _
          exact ⟨q1.nodup hlvn, by have := q1.length_le; omega⟩
        have hpG : dropG ltL (fun y => y.2) d (lcP Q) (tMap (killL i) t) = (sndT (dropG ltM (fun y => y.2.2) d (lcP Q) T).1, (dropG ltM (fun y => y.2.2) d (lcP Q) T).2) := by
          have q1 := dropG_map (fun y : mLb => y.2) (lt := ltL) (lt' := ltM) (fun _ _ _ => rfl) (fun y : gLb => y.2) d (lcP Q) T
          rw [show tMap (fun y : mLb => y.2) T = tMap (killL i) t from hT1] at q1
          exact q1
        have hend : ∀ (F9 : gF) (t' : TT gLb) (tr' : TT mLb) (nb np : Nat), (∀ j, j ≠ 13 → j ≠ 15 → j ≠ 16 → F9 m9 j = F2 m9 j) → (∀ j i, j = 2 ∨ j = 3 ∨ j = 25 ∨ j = 26 → F9 (B j) i = F2 (B j) i) → F9 m9 15 = .int (nI nb) → F9 m9 16 = .int (nI np) → RSt F9 m9 B t' tr' → RS F9 m9 B d Q t' S lk bc nb np := fun F9 t' tr' nb np g1 g2 g3 g4 g5 => ⟨hf2.up (fun j hj => g1 j (fun e => by rw [e] at hj; exact absurd hj (by decide)) (fun e => by rw [e] at hj; exact absurd hj (by decide)) (fun e => by rw [e] at hj; exact absurd hj (by decide))), (g1 1 (by decide) (by decide) (by decide)).trans hd2, ⟨fun j hj => (g2 2 j (by decide)).trans (hP2.1 j hj), fun j p hj hp a ha => (g2 3 _ (by decide)).trans (hP2.2 j p hj hp a ha)⟩, (g1 5 (by decide) (by decide) (by decide)).trans h25, ⟨tr', g5⟩, ⟨(g1 27 (by decide) (by decide) (by decide)).trans ((hm2 27 (by decide)).trans hlG.1), hlG.2.1.keep (fun j _ _ => (g2 25 j (by decide)).trans (e2j 25 j rfl (by decide) (by decide))), hlG.2.2.keep (fun j _ _ => (g2 26 j (by decide)).trans (e2j 26 j rfl (by decide) (by decide)))⟩, (g1 28 (by decide) (by decide) (by decide)).trans ((hm2 28 (by decide)).trans h28G), (g1 14 (by decide) (by decide) (by decide)).trans ((hm2 14 (by decide)).trans h14G), g3, g4⟩
        have hth2 : F2 m9 0 = .int (nI 0) := (hm2 0 (by decide)).trans hG0
        refine lv_aload_n hx hb dX7_drop_38 rfl (lv_at hl 0 rfl) ?_
        refine g_get (C := RX7) (T := TX7) (N := 31) hx hb hts hi7 hown hN hW.1 hk.1 rfl (by decide) 2 (by decide) hfX7_13 (v := .ref (B 2)) (hfG 2 rfl) dX7_drop_39 ?_
        refine lv_iload_n hx hb dX7_drop_42 rfl (lv_at hl 1 rfl) ?_
        refine lv_iconst (v := nI 0) hx hb dX7_drop_43 (by decide) ?_
        refine g_zast (j := i) hx hb hN hW (hk.2.1 2 (10, 100) rfl) (by decide) rfl (show _ = nI i from rfl) (by omega) dX7_drop_44 (fun H locs hW => ?_)
        refine lv_aload_n hx hb dX7_drop_45 rfl (lv_at hl 0 rfl) ?_
        refine lv_dup hx hb dX7_drop_46 rfl ?_
        refine g_get (C := RX7) (T := TX7) (N := 31) hx hb hts hi7 hown hN hW.1 hk.1 rfl (by decide) 5 (by decide) hfX7_125 (v := .int (nI (lcP P))) ((gU_a (kne hk.1 (hk.2.1 2 (10, 100) rfl) (by decide))).trans h51) dX7_drop_47 ?_
        refine lv_iconst (v := nI 1) hx hb dX7_drop_50 (by decide) ?_
        refine lv_isub hx hb dX7_drop_51 ?_
        refine g_asi (show _ = nI (lcP Q) from by rw [← hQl, pk_sub (by omega), Nat.add_sub_cancel]) ?_
        refine g_put (C := RX7) (T := TX7) (N := 31) hx hb hts hi7 tyX7 tyX7_ok nmX7 hown hN hW hk.1 rfl (by decide) 5 (by decide) hfX7_125 rfl rfl rfl dX7_drop_52 (fun H locs hW => ?_)
        refine lv_aload_n hx hb dX7_drop_55 rfl (lv_at hl 0 rfl) ?_
        refine g_get (C := RX7) (T := TX7) (N := 31) hx hb hts hi7 hown hN hW.1 hk.1 rfl (by decide) 9 (by decide) hfX7_33 (v := .ref (B 9)) ((gU_k (by decide)).trans ((gU_a (kne hk.1 (hk.2.1 2 (10, 100) rfl) (by decide))).trans (hfG 9 rfl))) dX7_drop_56 ?_
        refine lv_aload_n hx hb dX7_drop_59 rfl (lv_at hl 0 rfl) ?_
        refine g_get (C := RX7) (T := TX7) (N := 31) hx hb hts hi7 hown hN hW.1 hk.1 rfl (by decide) 4 (by decide) hfX7_21 (v := .ref (B 4)) ((gU_k (by decide)).trans ((gU_a (kne hk.1 (hk.2.1 2 (10, 100) rfl) (by decide))).trans (hfG 4 rfl))) dX7_drop_60 ?_
        refine lv_iload_n hx hb dX7_drop_63 rfl (lv_at hl 1 rfl) ?_
        refine g_iald (j := i) hx hb hN hW.1 (hk.2.1 4 (8, 100) rfl) (by decide) (show _ = nI i from rfl) (by omega) (v := .int (nI y.1)) ((gU_a (hk.nm (i := 4) rfl)).trans ((gU_a (hk.ne (i := 4) (j := 2) rfl rfl (by decide))).trans hno)) dX7_drop_64 ?_
        refine lv_iconst (v := nI 0) hx hb dX7_drop_65 (by decide) ?_
        refine g_zast (j := y.1) hx hb hN hW (hk.2.1 9 (10, 140) rfl) (by decide) rfl (show _ = nI y.1 from rfl) (by omega) dX7_drop_66 (fun H locs hW => ?_)
        rw [← hF2] at hW
        refine lv_aload_n hx hb dX7_drop_67 rfl (lv_at hl 0 rfl) ?_
        refine lv_aload_n hx hb dX7_drop_68 rfl (lv_at hl 0 rfl) ?_
        refine g_get (C := RX7) (T := TX7) (N := 31) hx hb hts hi7 hown hN hW.1 hk.1 rfl (by decide) 13 (by decide) hfX7_45 (v := .int (oI (rtI T))) h13T dX7_drop_69 ?_
        refine g_mV (As := [.int (oI (rtI T))]) (b := m9) (rest := []) hx hb hml hown hts hN hW (m_walkFrom l Γ K F2 H.size m9 B hk hf2 T none hXT (by omega)) gX7_drop_X7_walkFrom rfl hk.1 (by decide) rfl (na := 1) rfl (by decide +kernel) ⟨by decide, by decide⟩ ⟨Nat.le_of_ble_eq_true rfl, Nat.le_of_ble_eq_true rfl⟩ rfl hl.1 (Nat.le_of_ble_eq_true rfl) dX7_drop_72 (fun v K' F5 H locs hp hW hsz' => ?_)
        obtain ⟨rfl, hK9, _, hfr5⟩ := hp
        subst K'
        show W _ _ _ _ _ _ _ _ _ _ _ _ _ _ _ (F0 m 75 ls [.int (nI (tSz T))])
        have k5m : ∀ i, F5 m9 i = F2 m9 i := fun i => hfr5 _ i (fun z => hk.nm (i := 17) rfl z.symm) (fun z => hk.nm (i := 18) rfl z.symm)
        have k5 : ∀ j, (mKd j).isSome = true → j ≠ 17 → j ≠ 18 → ∀ i, F5 (B j) i = F2 (B j) i := fun j h1 h2 h3 i => hfr5 _ i (hk.ne h1 rfl h2) (hk.ne h1 rfl h3)
        have fr25 : frL (17 :: 18 :: JB) B m9 F2 F5 := fun b i hb _ => hfr5 b i (hb 17 (by decide)) (hb 18 (by decide))
        have hf5 : MKf F5 m9 B := hf2.up (fun j _ => k5m j)
        have hX5 : RX F5 B T none := RX_keep (fun j i h1 h2 => k5 j (mKd_7 h1 h2) (by omega) (by omega) i) hXT
        have hU5 : usL F5 B (ixT T) := fun j hj => (k5 6 rfl (by decide) (by decide) j).trans (hUT j hj)
        have h513 := (k5m 13).trans h13T
        have h55 := (k5m 5).trans h25
        have h515 : F5 m9 15 = .int (nI bg) := (k5m 15).trans ((hm2 15 (by decide)).trans h15G)
        have h516 : F5 m9 16 = .int (nI bp) := (k5m 16).trans ((hm2 16 (by decide)).trans h16G)
        refine lv_istore_n (lv' := [(2, .int (nI (tSz T))), (0, .ref m9), (1, .int (nI i))]) hx hb dX7_drop_75 rfl hl (by decide) rfl (fun ls hl => ?_)
        refine lv_iconst (v := nI 2) hx hb dX7_drop_76 (by decide) ?_
        refine lv_iload_n hx hb dX7_drop_77 rfl (lv_at hl 0 rfl) ?_
        refine lv_aload_n hx hb dX7_drop_78 rfl (lv_at hl 1 rfl) ?_
        refine g_get (C := RX7) (T := TX7) (N := 31) hx hb hts hi7 hown hN hW.1 hk.1 rfl (by decide) 5 (by decide) hfX7_125 (v := .int (nI (lcP Q))) h55 dX7_drop_79 ?_
        refine lv_isub hx hb dX7_drop_82 ?_
        refine g_asi (show _ = nI (tSz T - lcP Q) from pk_sub (by omega)) ?_
        refine lv_imul hx hb dX7_drop_83 ?_
        refine g_asi (show _ = nI (2 * (tSz T - lcP Q)) from (pk_mul _ _).trans (by rfl)) ?_
        refine lv_iload_n hx hb dX7_drop_84 rfl (lv_at hl 0 rfl) ?_
        refine lv_icmp_le (tgt := 115) hx hb dX7_drop_85 (by decide) (fun y1 => ?_) (fun y1 => ?_)
        · have y1 : (2 * (tSz T - lcP Q)) ≤ (tSz T) := (nI_leI (by omega) (by omega)).mp y1
          refine lv_aload_n hx hb dX7_drop_115 rfl (lv_at hl 1 rfl) ?_
          refine g_get (C := RX7) (T := TX7) (N := 31) hx hb hts hi7 hown hN hW.1 hk.1 rfl (by decide) 5 (by decide) hfX7_125 (v := .int (nI (lcP Q))) h55 dX7_drop_116 ?_
          have hdrop : dropG ltM (fun y => y.2.2) d (lcP Q) T = (T, 0, 0) := by unfold dropG; rw [if_neg (by omega)]
          rw [hdrop] at hpG
          exact hret (some (.int (nI (lcP Q)))) _ _ _ _ _ _ hW (⟨0, nI (lcP Q), rfl, rfl, (k5m 0).trans hth2, Or.inr (Or.inr ⟨rfl, c1, i, p9, hi, rfl, hp9⟩), fun z => absurd rfl z, fun _ j hj e => by have e := nI_inj (by omega) (by omega) e; subst e; rw [← hQ, hpG]; exact ⟨rfl, hend F5 (sndT T) T bg bp (fun j h1 _ _ => k5m j) (fun j i hj => by rcases hj with rfl | rfl | rfl | rfl <;> exact k5 _ rfl (by decide) (by decide) i) h515 h516 ⟨rfl, hX5, h513, hU5, hnT, fun z hz hd => (k5 4 rfl (by decide) (by decide) _).trans ((hlabT z hz).2.2 hd)⟩⟩⟩) (rt_i dX7_drop_119)
        · have y1 : (tSz T) < (2 * (tSz T - lcP Q)) := Nat.not_le.mp (fun z => y1 ((nI_leI (by omega) (by omega)).mpr z))
          refine lv_aload_n hx hb dX7_drop_88 rfl (lv_at hl 1 rfl) ?_
          refine lv_dup hx hb dX7_drop_89 rfl ?_
          refine g_get (C := RX7) (T := TX7) (N := 31) hx hb hts hi7 hown hN hW.1 hk.1 rfl (by decide) 15 (by decide) hfX7_141 (v := .int (nI bg)) h515 dX7_drop_90 ?_
          refine lv_iconst (v := nI 1) hx hb dX7_drop_93 (by decide) ?_
          refine lv_iadd hx hb dX7_drop_94 ?_
          refine g_asi (show _ = nI (bg + 1) from (nI_add _ _).trans (by rfl)) ?_
          refine g_put (C := RX7) (T := TX7) (N := 31) hx hb hts hi7 tyX7 tyX7_ok nmX7 hown hN hW hk.1 rfl (by decide) 15 (by decide) hfX7_141 rfl rfl rfl dX7_drop_95 (fun H locs hW => ?_)
          obtain ⟨F6, hF6⟩ : ∃ f, f = gU F5 m9 15 (.int (nI (bg + 1))) := ⟨_, rfl⟩
          rw [← hF6] at hW
          have g6 : ∀ b i, ¬ (b = m9 ∧ i = 15) → F6 b i = F5 b i := fun b i h => by rw [hF6, gU_ne h]
          have g615 : F6 m9 15 = .int (nI (bg + 1)) := by rw [hF6, gU_self]
          have g6j : ∀ j i, (mKd j).isSome = true → F6 (B j) i = F5 (B j) i := fun j i h1 => g6 _ i (fun z => hk.nm h1 z.1)
          have hf6 : MKf F6 m9 B := hf5.up (fun j hj => g6 _ j (fun z => by rw [z.2] at hj; exact absurd hj (by decide)))
          have h616 : F6 m9 16 = .int (nI bp) := (g6 _ _ (fun z => absurd z.2 (by decide))).trans h516
          have h613 : F6 m9 13 = .int (oI (rtI T)) := (g6 _ _ (fun z => absurd z.2 (by decide))).trans h513
          have hX6 : RX F6 B T none := RX_keep (fun j i h1 h2 => g6j j i (mKd_7 h1 h2)) hX5
          obtain ⟨rT, hrT⟩ : ∃ n, rtI T = some n := by
            cases h9 : rtI T with
            | none => have := (rtI_none h9).1; omega
            | some r => exact ⟨r, rfl⟩
          obtain ⟨pp, hpp⟩ : ∃ pp : Nat → Nat → Int32, pp = fun j => (Q j).getD (fun _ => 0) := ⟨_, rfl⟩
          have hppl : ∀ z ∈ tPre T, z.2.2 = false → pp z.2.1.1 = z.2.1.2 := fun z hz hd => by rw [hpp]; show (Q z.2.1.1).getD _ = _; rw [(hlabT z hz).2.1 hd]; rfl
          have hixl : (ixT T).length = tSz T := by unfold ixT; rw [List.length_map, tPre_len]
          refine lv_aload_n hx hb dX7_drop_98 rfl (lv_at hl 1 rfl) ?_
          refine lv_dup hx hb dX7_drop_99 rfl ?_
          refine g_get (C := RX7) (T := TX7) (N := 31) hx hb hts hi7 hown hN hW.1 hk.1 rfl (by decide) 16 (by decide) hfX7_135 (v := .int (nI bp)) h616 dX7_drop_100 ?_
          refine lv_aload_n hx hb dX7_drop_103 rfl (lv_at hl 1 rfl) ?_
          refine lv_aload_n hx hb dX7_drop_104 rfl (lv_at hl 1 rfl) ?_
          refine g_get (C := RX7) (T := TX7) (N := 31) hx hb hts hi7 hown hN hW.1 hk.1 rfl (by decide) 13 (by decide) hfX7_45 (v := .int (oI (rtI T))) h613 dX7_drop_105 ?_
          refine g_mV (As := [.int (oI (rtI T))]) (b := m9) (rest := [.int (nI bp), .ref m9]) hx hb hml hown hts hN hW (m_build l Γ K F6 H.size m9 B hk hf6 d hd0 hd4 pp T [] ((g6 _ _ (fun z => absurd z.2 (by decide))).trans ((k5m 1).trans hd2)) hX6 h613 ⟨_, hrT⟩ (fun j hj => by rw [show ixT T ++ ixC [] = ixT T from List.append_nil _]; exact (g6j 6 j rfl).trans (hU5 j hj)) (by rw [show ixT T ++ ixC [] = ixT T from List.append_nil _]; exact hnT) (fun z hz hd a ha => by rw [hppl z hz hd]; exact ((g6j 3 _ rfl).trans (k5 3 rfl (by decide) (by decide) _)).trans (hP2.2 _ _ (hlabT z hz).1 ((hlabT z hz).2.1 hd) a ha)) hlivT.1 hlivT.2 (by rw [show ixC [] = [] from rfl, List.length_nil]; omega)) gX7_drop_X7_build rfl hk.1 (by decide) rfl (na := 1) rfl (by decide +kernel) ⟨by decide, by decide⟩ ⟨Nat.le_of_ble_eq_true rfl, Nat.le_of_ble_eq_true rfl⟩ rfl hl.1 (Nat.le_of_ble_eq_true rfl) dX7_drop_108 (fun v K' F7 H locs hp hW hsz' => ?_)
          obtain ⟨rfl, hK9, t5, ht5, hX7, hC7, hU7, hn7, hno7, hno7o, hfr7⟩ := hp
          subst K'
          show W _ _ _ _ _ _ _ _ _ _ _ _ _ _ _ (F0 m 111 ls [.int (nI (liv (tPre T)).length), .int (nI bp), .ref m9])
          have hf7 : MKf F7 m9 B := hfr7.f hk (by decide) hf6
          have h75 : F7 m9 5 = .int (nI (lcP Q)) := (hfr7.m hk (by decide) (by decide)).trans ((g6 _ _ (fun z => absurd z.2 (by decide))).trans h55)
          refine lv_iadd hx hb dX7_drop_111 ?_
          refine g_asi (show _ = nI (bp + (liv (tPre T)).length) from (nI_add _ _).trans (by rfl)) ?_
          refine g_put (C := RX7) (T := TX7) (N := 31) hx hb hts hi7 tyX7 tyX7_ok nmX7 hown hN hW hk.1 rfl (by decide) 16 (by decide) hfX7_135 rfl rfl rfl dX7_drop_112 (fun H locs hW => ?_)
          refine lv_aload_n hx hb dX7_drop_115 rfl (lv_at hl 1 rfl) ?_
          refine g_get (C := RX7) (T := TX7) (N := 31) hx hb hts hi7 hown hN hW.1 hk.1 rfl (by decide) 5 (by decide) hfX7_125 (v := .int (nI (lcP Q))) ((gU_k (by decide)).trans h75) dX7_drop_116 ?_
          obtain ⟨F9, hF9⟩ : ∃ f, f = gU F7 m9 16 (.int (nI (bp + (liv (tPre T)).length))) := ⟨_, rfl⟩
          have h9m : ∀ j, j ≠ 13 → j ≠ 15 → j ≠ 16 → F9 m9 j = F2 m9 j := fun j h1 h2 h3 => by rw [hF9]; exact (gU_k h3).trans ((hfr7.m hk h1 (by decide)).trans ((g6 _ _ (fun z => h2 z.2)).trans (k5m j)))
          have h9b : ∀ j i, (mKd j).isSome = true → F9 (B j) i = F7 (B j) i := fun j i h1 => by rw [hF9]; exact gU_a (hk.nm h1)
          have h916 : F9 m9 16 = .int (nI (bp + (liv (tPre T)).length)) := by rw [hF9, gU_self]
          have h913 : F9 m9 13 = F7 m9 13 := by rw [hF9, gU_k (by decide)]
          have h915 : F9 m9 15 = .int (nI (bg + 1)) := by rw [hF9, gU_k (by decide), hfr7.m hk (by decide) (by decide)]; exact g615
          rw [← hF9] at hW
          clear hF9
          rw [show ixT t5 ++ ixC [] = ixT t5 from List.append_nil _] at hU7 hn7
          have hR9 : RSt F9 m9 B (sndT t5) t5 := ⟨rfl, RX_keep (fun j i h1 h2 => h9b j i (mKd_7 h1 h2)) hX7, h913.trans hC7, fun j hj => (h9b 6 j rfl).trans (hU7 j hj), hn7, fun z hz hd => (h9b 4 _ rfl).trans (hno7 z hz)⟩
          have hbl := bld_lab hppl ht5
          rw [List.length_nil] at hbl
          have hdrop : dropG ltM (fun y => y.2.2) d (lcP Q) T = (bldG ltM d 60 0 ((tPre T).filter (fun y => !y.2.2)), 1, ((tPre T).filter (fun y => !y.2.2)).length) := by unfold dropG; rw [if_pos (by omega)]
          have hll : ((tPre T).filter (fun y => !y.2.2)).length = (liv (tPre T)).length := by unfold liv; rw [List.length_map]
          rw [hdrop, hll] at hpG
          have hpG1 := congrArg Prod.fst hpG
          have hpG2 := congrArg Prod.snd hpG
          have hpG1 : (dropG ltL (fun y => y.2) d (lcP Q) (tMap (killL i) t)).1 = sndT t5 := hpG1.trans hbl.symm
          have hpG : dropG ltL (fun y => y.2) d (lcP Q) (tMap (killL i) t) = (sndT t5, 1, (liv (tPre T)).length) := Prod.ext hpG1 hpG2
          have hRS := hend F9 (sndT t5) t5 (bg + 1) (bp + (liv (tPre T)).length) h9m (fun j i hj => by rcases hj with rfl | rfl | rfl | rfl <;> exact (h9b _ _ rfl).trans ((hfr7.at hk rfl (by decide)).trans ((g6j _ _ rfl).trans (k5 _ rfl (by decide) (by decide) i)))) h915 h916 hR9
          exact hret (some (.int (nI (lcP Q)))) _ _ _ _ _ _ hW (⟨0, nI (lcP Q), rfl, rfl, (h9m 0 (by decide) (by decide) (by decide)).trans hth2, Or.inr (Or.inr ⟨rfl, c1, i, p9, hi, rfl, hp9⟩), fun z => absurd rfl z, fun _ j hj e => by have e := nI_inj (by omega) (by omega) e; subst e; rw [← hQ, hpG]; exact ⟨rfl, hRS⟩⟩) (rt_i dX7_drop_119)
      · have e1 : 0 < 0 := Nat.pos_of_ne_zero (fun z => e1 ((nI_le0 (by omega)).mpr z))
        exact absurd e1 (by decide)
    · have c3 : (P i).isSome = false := bI_0.mp c3
      refine lv_iconst (v := nI 2) hx hb dX7_drop_21 (by decide) ?_
      refine lv_goto (tgt := 26) hx hb dX7_drop_22 (by decide) ?_
      refine g_put (C := RX7) (T := TX7) (N := 31) hx hb hts hi7 tyX7 tyX7_ok nmX7 hown hN hW hk.1 rfl (by decide) 0 (by decide) hfX7_1 rfl rfl rfl dX7_drop_26 (fun H locs hW => ?_)
      refine lv_aload_n hx hb dX7_drop_29 rfl (lv_at hl 0 rfl) ?_
      refine g_get (C := RX7) (T := TX7) (N := 31) hx hb hts hi7 hown hN hW.1 hk.1 rfl (by decide) 0 (by decide) hfX7_1 (v := .int (nI 2)) gU_self dX7_drop_30 ?_
      refine lv_if_le (tgt := 38) hx hb dX7_drop_33 (by decide) (fun e1 => ?_) (fun e1 => ?_)
      · have e1 : 2 = 0 := (nI_le0 (by omega)).mp e1
        exact absurd e1 (by decide)
      · have e1 : 0 < 2 := Nat.pos_of_ne_zero (fun z => e1 ((nI_le0 (by omega)).mpr z))
        refine lv_iconst (v := nI 0) hx hb dX7_drop_36 (by decide) ?_
        exact hret (some (.int (nI 0))) _ _ _ _ _ _ hW (⟨2, nI 0, rfl, rfl, gU_self, Or.inr (Or.inl ⟨rfl, c1, fun ⟨j, p, hj, e, hp⟩ => by rw [← nI_inj (by omega) (by omega) e] at hp; rw [hp] at c3; cases c3⟩), (fun _ => hR.thr hk), fun z => absurd z (by decide)⟩) (rt_i dX7_drop_37)
  · have c1 : (okId d9) = false := bI_0.mp c1
    refine lv_iconst (v := nI 1) hx hb dX7_drop_8 (by decide) ?_
    refine lv_goto (tgt := 26) hx hb dX7_drop_9 (by decide) ?_
    refine g_put (C := RX7) (T := TX7) (N := 31) hx hb hts hi7 tyX7 tyX7_ok nmX7 hown hN hW hk.1 rfl (by decide) 0 (by decide) hfX7_1 rfl rfl rfl dX7_drop_26 (fun H locs hW => ?_)
    refine lv_aload_n hx hb dX7_drop_29 rfl (lv_at hl 0 rfl) ?_
    refine g_get (C := RX7) (T := TX7) (N := 31) hx hb hts hi7 hown hN hW.1 hk.1 rfl (by decide) 0 (by decide) hfX7_1 (v := .int (nI 1)) gU_self dX7_drop_30 ?_
    refine lv_if_le (tgt := 38) hx hb dX7_drop_33 (by decide) (fun e1 => ?_) (fun e1 => ?_)
    · have e1 : 1 = 0 := (nI_le0 (by omega)).mp e1
      exact absurd e1 (by decide)
    · have e1 : 0 < 1 := Nat.pos_of_ne_zero (fun z => e1 ((nI_le0 (by omega)).mpr z))
      refine lv_iconst (v := nI 0) hx hb dX7_drop_36 (by decide) ?_
      exact hret (some (.int (nI 0))) _ _ _ _ _ _ hW (⟨1, nI 0, rfl, rfl, gU_self, Or.inl ⟨rfl, fun z => by rw [c1] at z; exact absurd z (by decide)⟩, (fun _ => hR.thr hk), fun z => absurd z (by decide)⟩) (rt_i dX7_drop_37)
