def ltM (ax : Nat) (a b : mLb) : Bool := pLess ax a.2.1 b.2.1
def rtQ (o : Option (cxT mLb × TT mLb)) : Option Nat := o.bind (fun q => rtI q.2)
theorem ixT_plug (c : cxT mLb) (t : TT mLb) : (ixT (plug c t)).Perm (ixT t ++ ixC c) := by
  unfold ixT ixC
  have := (plug_perm c t).map (fun y : mLb => y.1)
  rw [List.map_append] at this
  exact this
theorem liv_perm {L L' : List mLb} (h : L.Perm L') : (liv L).Perm (liv L') := (h.filter _).map _
theorem liv_app (L L' : List mLb) : liv (L ++ L') = liv L ++ liv L' := by unfold liv; rw [List.filter_append, List.map_append]
theorem liv_mem {L : List mLb} {y : mLb} (h : y ∈ L) (hd : y.2.2 = false) : y.2.1.1 ∈ liv L := List.mem_map.mpr ⟨y, List.mem_filter.mpr ⟨h, by rw [hd]; rfl⟩, rfl⟩
theorem liv_of {L : List mLb} {i : Nat} (h : i ∈ liv L) : ∃ y ∈ L, y.2.2 = false ∧ y.2.1.1 = i := by
  obtain ⟨y, hy, e⟩ := List.mem_map.mp h
  have := List.mem_filter.mp hy
  exact ⟨y, this.1, by simpa using this.2, e⟩
theorem liv_snd (L : List mLb) : liv L = ((L.map (fun y => y.2)).filter (fun y : gLb => !y.2)).map (fun y => y.1.1) := by
  unfold liv
  have := filt_map (fun y : mLb => y.2) (fun y : gLb => y.2) L
  rw [this, List.map_map]
  rfl
theorem lcK_put {P : Nat → Option (Nat → Int32)} {i : Nat} {p : Nat → Int32} (h : P i = none) : ∀ k, lcK (va_up P i (some p)) k = lcK P k + if i < k then 1 else 0
  | 0 => by simp [lcK]
  | k + 1 => by
    rw [lcK_succ, lcK_succ, lcK_put h k]
    by_cases e : k = i
    · subst e
      rw [va_up_self, h]
      simp
    · rw [va_up_ne _ _ e]
      by_cases hk : i < k
      · rw [if_pos hk, if_pos (show i < k + 1 by omega)]; omega
      · rw [if_neg hk, if_neg (show ¬ i < k + 1 by omega)]; omega
theorem lcP_put {P : Nat → Option (Nat → Int32)} {i : Nat} {p : Nat → Int32} (h : P i = none) (hi : i < 100) : lcP (va_up P i (some p)) = lcP P + 1 := by
  have := lcK_put (p := p) h 100
  rw [if_pos hi] at this
  exact this
theorem lcK_drop {P : Nat → Option (Nat → Int32)} {i : Nat} {p : Nat → Int32} (h : P i = some p) : ∀ k, lcK (va_up P i none) k + (if i < k then 1 else 0) = lcK P k
  | 0 => by simp [lcK]
  | k + 1 => by
    rw [lcK_succ, lcK_succ, ← lcK_drop h k]
    by_cases e : k = i
    · subst e
      rw [va_up_self, h]
      simp
    · rw [va_up_ne _ _ e]
      by_cases hk : i < k
      · rw [if_pos hk, if_pos (show i < k + 1 by omega)]; omega
      · rw [if_neg hk, if_neg (show ¬ i < k + 1 by omega)]; omega
theorem lcP_drop {P : Nat → Option (Nat → Int32)} {i : Nat} {p : Nat → Int32} (h : P i = some p) (hi : i < 100) : lcP (va_up P i none) + 1 = lcP P := by
  have := lcK_drop h 100
  rw [if_pos hi] at this
  exact this
theorem nz_inner {α : Type} {s : Nat} {a : α} {v : Unit} {l r : TT α} (h : tMap (fun y => y) (Std.DTreeMap.Internal.Impl.inner s a v l r : TT α) = .inner s a v l r) : s = 0 ∧ tMap (fun y => y) l = l ∧ tMap (fun y => y) r = r := by
  have h : (Std.DTreeMap.Internal.Impl.inner 0 a () (tMap (fun y => y) l) (tMap (fun y => y) r) : TT α) = .inner s a v l r := h
  injection h with h1 h2 h3 h4 h5
  exact ⟨h1.symm, h4, h5⟩
theorem nz_rt {t : TT mLb} : rtI (tMap (fun y => y) t) = rtI t := by cases t <;> rfl
theorem nz_RX {F : gF} {B : Nat → Nat} : ∀ {t : TT mLb} {up : Option Nat}, RX F B t up → RX F B (tMap (fun y => y) t) up := by
  intro t
  induction t with
  | leaf => intro _ _; trivial
  | inner s y v l r ihl ihr =>
    intro up h
    refine ⟨?_, ihl h.2.1, ihr h.2.2⟩
    rw [nz_rt, nz_rt]
    exact h.1
theorem RSt_norm {F : gF} {m9 : Nat} {B : Nat → Nat} {t : TT gLb} {tr : TT mLb} (h : RSt F m9 B t tr) : ∃ tr', RSt F m9 B t tr' ∧ tMap (fun y => y) tr' = tr' := by
  have e : tPre (tMap (fun y : mLb => y) tr) = tPre tr := by rw [tPre_map, List.map_id']
  refine ⟨tMap (fun y => y) tr, ⟨(tMap_map _ _ _).trans h.1, nz_RX h.2.1, by rw [nz_rt]; exact h.2.2.1, ?_, ?_, ?_⟩, tMap_map _ _ _⟩
  · unfold ixT; rw [e]; exact h.2.2.2.1
  · unfold ixT; rw [e]; exact h.2.2.2.2.1
  · rw [e]; exact h.2.2.2.2.2
/-- what is built anew, in labels -/
theorem bld_lab {pp : Nat → Nat → Int32} {d n dep : Nat} {L : List mLb} {t5 : TT mLb} (hL : ∀ y ∈ L, y.2.2 = false → pp y.2.1.1 = y.2.1.2) (h : sndT t5 = tMap (lbF pp) (bldG (ltP pp) d n dep (liv L))) : sndT t5 = sndT (bldG ltM d n dep (L.filter (fun y => !y.2.2))) := by
  rw [h]
  have e1 := bldG_map (lbF pp) (lt := ltL) (lt' := ltP pp) (fun _ _ _ => rfl) d n dep (liv L)
  have e2 := bldG_map (fun y : mLb => y.2) (lt := ltL) (lt' := ltM) (fun _ _ _ => rfl) d n dep (L.filter (fun y => !y.2.2))
  rw [e1, show sndT (bldG ltM d n dep (L.filter (fun y => !y.2.2))) = _ from e2]
  unfold liv
  rw [List.map_map]
  congr 1
  refine List.map_congr_left (fun y hy => ?_)
  have hy := List.mem_filter.mp hy
  have hd : y.2.2 = false := by simpa using hy.2
  show ((y.2.1.1, pp y.2.1.1), false) = y.2
  rw [hL y hy.1 hd]
  obtain ⟨_, ⟨_, _⟩, b⟩ := y
  have hd : b = false := hd
  rw [hd]

set_option maxHeartbeats 4000000 in
set_option maxRecDepth 100000 in
theorem m_put (l : Launch) (Γ : gG) (K : gK) (F : gF) (sz : Nat) (m9 : Nat) (B : Nat → Nat) (hk : MKk K m9 B) (d : Nat) (P : Nat → Option (Nat → Int32)) (t : TT gLb) (S : List (Nat × Int64)) (lk bc bg bp : Nat) (hR : RS F m9 B d P t S lk bc bg bp) (hd0 : 0 < d) (hd4 : d ≤ 4) (hAS : AS P t) (d9 xx yy zz ww : Int32) : gMM l yX7_put wsX7_put 2 0 0 Γ K F sz [.ref m9, .int d9, .int xx, .int yy, .int zz, .int ww] (fun v K' F' => ∃ th r, v = some (.int r) ∧ K' = K ∧ F' m9 0 = .int (nI th) ∧ thR th (okId d9 = true ∧ okPl d xx yy zz ww = true) ((∃ i, i < 100 ∧ d9 = nI i ∧ P i = none) ∧ lcP P < 60) ∧ (th ≠ 0 → RS F' m9 B d P t S lk bc bg bp) ∧ (th = 0 → ∀ i, i < 100 → d9 = nI i → r = nI (lcP P + 1) ∧ RS F' m9 B d (va_up P i (some (mkC d xx yy zz ww))) (putG ltL (fun y => y.2) d ((i, (mkC d xx yy zz ww)), false) t).1 S lk (bc + (putG ltL (fun y => y.2) d ((i, (mkC d xx yy zz ww)), false) t).2.1) bg (bp + (putG ltL (fun y => y.2) d ((i, (mkC d xx yy zz ww)), false) t).2.2))) := by
  refine g_mM (cc := cX7_put) (maxL := 16) (ret := (some .int)) (by decide) rfl (Nat.le_of_ble_eq_true rfl) ?_
  intro p e s m args below meth c ls Z hsz hx hb hts hown hml hnm hN hW hret hl
  have hl : lv_has ls 16 [(0, .ref m9), (1, .int d9), (2, .int xx), (3, .int yy), (4, .int zz), (5, .int ww)] := hl
  have hown : s.vm.findClass RX7 = some m.cls := hown
  have hi7 : ∀ w ∈ wsX70, w ∈ wsX7_put := by decide +kernel
  have hfX7_1 : Cond.fieldLink RX7 1 (TX7 0).1 (TX7 0).2.1 (TX7 0).2.2.1 ∈ wsX7_put := by decide +kernel
  have hfX7_13 : Cond.fieldLink RX7 13 (TX7 2).1 (TX7 2).2.1 (TX7 2).2.2.1 ∈ wsX7_put := by decide +kernel
  have hfX7_17 : Cond.fieldLink RX7 17 (TX7 3).1 (TX7 3).2.1 (TX7 3).2.2.1 ∈ wsX7_put := by decide +kernel
  have hfX7_36 : Cond.fieldLink RX7 36 (TX7 10).1 (TX7 10).2.1 (TX7 10).2.2.1 ∈ wsX7_put := by decide +kernel
  have hfX7_39 : Cond.fieldLink RX7 39 (TX7 11).1 (TX7 11).2.1 (TX7 11).2.2.1 ∈ wsX7_put := by decide +kernel
  have hfX7_42 : Cond.fieldLink RX7 42 (TX7 12).1 (TX7 12).2.1 (TX7 12).2.2.1 ∈ wsX7_put := by decide +kernel
  have hfX7_45 : Cond.fieldLink RX7 45 (TX7 13).1 (TX7 13).2.1 (TX7 13).2.2.1 ∈ wsX7_put := by decide +kernel
  have hfX7_85 : Cond.fieldLink RX7 85 (TX7 1).1 (TX7 1).2.1 (TX7 1).2.2.1 ∈ wsX7_put := by decide +kernel
  have hfX7_125 : Cond.fieldLink RX7 125 (TX7 5).1 (TX7 5).2.1 (TX7 5).2.2.1 ∈ wsX7_put := by decide +kernel
  have hfX7_132 : Cond.fieldLink RX7 132 (TX7 14).1 (TX7 14).2.1 (TX7 14).2.2.1 ∈ wsX7_put := by decide +kernel
  have hfX7_135 : Cond.fieldLink RX7 135 (TX7 16).1 (TX7 16).2.1 (TX7 16).2.2.1 ∈ wsX7_put := by decide +kernel
  have hf := hR.1
  have h60 := hAS.2.2.2.2.2.1
  refine lv_aload_n hx hb dX7_put_0 rfl (lv_at hl 0 rfl) ?_
  refine lv_iload_n hx hb dX7_put_1 rfl (lv_at hl 1 rfl) ?_
  refine g_cS (v := (some (.int (bI (okId d9))))) (As := [.int d9]) (rest := [.ref m9]) hx hb hml hown hts hN hW.1 (m_isId l Γ K F d9) gX7_put_X7_isId rfl (na := 1) rfl (by decide +kernel) ⟨by decide, by decide⟩ ⟨Nat.zero_le _, Nat.zero_le _⟩ rfl hl.1 (Nat.le_of_ble_eq_true rfl) dX7_put_2 ?_
  show W _ _ _ _ _ _ _ _ _ _ _ _ _ _ _ (F0 m 5 ls [.int (bI (okId d9)), .ref m9])
  refine lv_if_eq (tgt := 21) hx hb dX7_put_5 (by decide) (fun c1 => ?_) (fun c1 => ?_)
  · have c1 : (okId d9) = false := bI_0.mp c1
    refine lv_iconst (v := nI 1) hx hb dX7_put_21 (by decide) ?_
    refine lv_goto (tgt := 48) hx hb dX7_put_22 (by decide) ?_
    refine g_put (C := RX7) (T := TX7) (N := 31) hx hb hts hi7 tyX7 tyX7_ok nmX7 hown hN hW hk.1 rfl (by decide) 0 (by decide) hfX7_1 rfl rfl rfl dX7_put_48 (fun H locs hW => ?_)
    refine lv_aload_n hx hb dX7_put_51 rfl (lv_at hl 0 rfl) ?_
    refine g_get (C := RX7) (T := TX7) (N := 31) hx hb hts hi7 hown hN hW.1 hk.1 rfl (by decide) 0 (by decide) hfX7_1 (v := .int (nI 1)) gU_self dX7_put_52 ?_
    refine lv_if_le (tgt := 60) hx hb dX7_put_55 (by decide) (fun e1 => ?_) (fun e1 => ?_)
    · have e1 : 1 = 0 := (nI_le0 (by omega)).mp e1
      exact absurd e1 (by decide)
    · have e1 : 0 < 1 := Nat.pos_of_ne_zero (fun z => e1 ((nI_le0 (by omega)).mpr z))
      refine lv_iconst (v := nI 0) hx hb dX7_put_58 (by decide) ?_
      exact hret (some (.int (nI 0))) _ _ _ _ _ _ hW (⟨1, nI 0, rfl, rfl, gU_self, Or.inl ⟨rfl, fun z => by rw [c1] at z; exact absurd z.1 (by decide)⟩, (fun _ => hR.thr hk), fun z => absurd z (by decide)⟩) (rt_i dX7_put_59)
  · have c1 : (okId d9) = true := bI_n0.mp c1
    refine lv_aload_n hx hb dX7_put_8 rfl (lv_at hl 0 rfl) ?_
    refine lv_iload_n hx hb dX7_put_9 rfl (lv_at hl 2 rfl) ?_
    refine lv_iload_n hx hb dX7_put_10 rfl (lv_at hl 3 rfl) ?_
    refine lv_iload hx hb dX7_put_11 (lv_at hl 4 rfl) ?_
    refine lv_iload hx hb dX7_put_13 (lv_at hl 5 rfl) ?_
    refine g_cV (v := (some (.int (bI (okPl d xx yy zz ww))))) (As := [.int xx, .int yy, .int zz, .int ww]) (b := m9) (rest := [.ref m9]) hx hb hml hown hts hN hW.1 (m_areNumbers l Γ K F m9 d xx yy zz ww hk.1 hR.2.1 hd4) gX7_put_X7_areNumbers rfl hk.1 (by decide) rfl (na := 4) rfl (by decide +kernel) ⟨by decide, by decide⟩ ⟨Nat.zero_le _, Nat.zero_le _⟩ rfl hl.1 (Nat.le_of_ble_eq_true rfl) dX7_put_15 ?_
    show W _ _ _ _ _ _ _ _ _ _ _ _ _ _ _ (F0 m 18 ls [.int (bI (okPl d xx yy zz ww)), .ref m9])
    refine lv_if_ne (tgt := 25) hx hb dX7_put_18 (by decide) (fun c2 => ?_) (fun c2 => ?_)
    · have c2 : (okPl d xx yy zz ww) = true := bI_n0.mp c2
      obtain ⟨i, hi, rfl⟩ := okId_nI c1
      refine lv_aload_n hx hb dX7_put_25 rfl (lv_at hl 0 rfl) ?_
      refine g_get (C := RX7) (T := TX7) (N := 31) hx hb hts hi7 hown hN hW.1 hk.1 rfl (by decide) 2 (by decide) hfX7_13 (v := .ref (B 2)) (hf 2 rfl) dX7_put_26 ?_
      refine lv_iload_n hx hb dX7_put_29 rfl (lv_at hl 1 rfl) ?_
      refine g_zald (j := i) hx hb hN hW.1 (hk.2.1 2 (10, 100) rfl) (by decide) (show _ = nI i from rfl) hi (v := .int (bI (P i).isSome)) (hR.2.2.1.1 i hi) dX7_put_30 ?_
      refine lv_if_ne (tgt := 43) hx hb dX7_put_31 (by decide) (fun c3 => ?_) (fun c3 => ?_)
      · have c3 : (P i).isSome = true := bI_n0.mp c3
        refine lv_iconst (v := nI 2) hx hb dX7_put_43 (by decide) ?_
        refine lv_goto (tgt := 48) hx hb dX7_put_44 (by decide) ?_
        refine g_put (C := RX7) (T := TX7) (N := 31) hx hb hts hi7 tyX7 tyX7_ok nmX7 hown hN hW hk.1 rfl (by decide) 0 (by decide) hfX7_1 rfl rfl rfl dX7_put_48 (fun H locs hW => ?_)
        refine lv_aload_n hx hb dX7_put_51 rfl (lv_at hl 0 rfl) ?_
        refine g_get (C := RX7) (T := TX7) (N := 31) hx hb hts hi7 hown hN hW.1 hk.1 rfl (by decide) 0 (by decide) hfX7_1 (v := .int (nI 2)) gU_self dX7_put_52 ?_
        refine lv_if_le (tgt := 60) hx hb dX7_put_55 (by decide) (fun e1 => ?_) (fun e1 => ?_)
        · have e1 : 2 = 0 := (nI_le0 (by omega)).mp e1
          exact absurd e1 (by decide)
        · have e1 : 0 < 2 := Nat.pos_of_ne_zero (fun z => e1 ((nI_le0 (by omega)).mpr z))
          refine lv_iconst (v := nI 0) hx hb dX7_put_58 (by decide) ?_
          exact hret (some (.int (nI 0))) _ _ _ _ _ _ hW (⟨2, nI 0, rfl, rfl, gU_self, Or.inr (Or.inl ⟨rfl, ⟨c1, c2⟩, fun ⟨⟨j, hj, e, hn⟩, _⟩ => by rw [← nI_inj (by omega) (by omega) e] at hn; rw [hn] at c3; cases c3⟩), (fun _ => hR.thr hk), fun z => absurd z (by decide)⟩) (rt_i dX7_put_59)
      · have c3 : (P i).isSome = false := bI_0.mp c3
        have hPn : P i = none := Option.not_isSome_iff_eq_none.mp (by rw [c3]; decide)
        refine lv_aload_n hx hb dX7_put_34 rfl (lv_at hl 0 rfl) ?_
        refine g_get (C := RX7) (T := TX7) (N := 31) hx hb hts hi7 hown hN hW.1 hk.1 rfl (by decide) 5 (by decide) hfX7_125 (v := .int (nI (lcP P))) hR.2.2.2.1 dX7_put_35 ?_
        refine lv_bipush (v := nI 60) hx hb dX7_put_38 (by decide) ?_
        refine lv_icmp_ne (tgt := 47) hx hb dX7_put_40 (by decide) (fun c4 => ?_) (fun c4 => ?_)
        · have c4 : ¬ (lcP P) = 60 := fun z => c4 ((nI_eq (by omega) (by omega)).mpr z)
          refine lv_iconst (v := nI 0) hx hb dX7_put_47 (by decide) ?_
          refine g_put (C := RX7) (T := TX7) (N := 31) hx hb hts hi7 tyX7 tyX7_ok nmX7 hown hN hW hk.1 rfl (by decide) 0 (by decide) hfX7_1 rfl rfl rfl dX7_put_48 (fun H locs hW => ?_)
          refine lv_aload_n hx hb dX7_put_51 rfl (lv_at hl 0 rfl) ?_
          refine g_get (C := RX7) (T := TX7) (N := 31) hx hb hts hi7 hown hN hW.1 hk.1 rfl (by decide) 0 (by decide) hfX7_1 (v := .int (nI 0)) gU_self dX7_put_52 ?_
          refine lv_if_le (tgt := 60) hx hb dX7_put_55 (by decide) (fun e1 => ?_) (fun e1 => ?_)
          · have e1 : 0 = 0 := (nI_le0 (by omega)).mp e1
            have hRG : RS (gU F m9 0 (.int (nI 0))) m9 B d P t S lk bc bg bp := hR.thr hk
            have hG0 : gU F m9 0 (.int (nI 0)) m9 0 = .int (nI 0) := gU_self
            generalize gU F m9 0 (.int (nI 0)) = G at hW hRG hG0
            obtain ⟨hfG, hd1, hP1, h51, ⟨tr0, htr0⟩, hlG, h28G, h14G, h15G, h16G⟩ := hRG
            obtain ⟨tr, htr, hnz⟩ := RSt_norm htr0
            obtain ⟨pt, hpt⟩ : ∃ q, q = mkC d xx yy zz ww := ⟨_, rfl⟩
            have hokp : ∀ a, a < 4 → okNum (pt a) = true := fun a ha => by rw [hpt]; exact okPl_mkC c2 a ha
            obtain ⟨Q, hQ⟩ : ∃ Q, Q = va_up P i (some pt) := ⟨_, rfl⟩
            have hQi : Q i = some pt := by rw [hQ, va_up_self]
            have hQo : ∀ j, j ≠ i → Q j = P j := fun j hj => by rw [hQ, va_up_ne _ _ hj]
            have hQl : lcP Q = lcP P + 1 := by rw [hQ]; exact lcP_put hPn hi
            obtain ⟨F2, hF2⟩ : ∃ f, f = gU (gU (gU (gU (gU (gU G (B 2) i (.int (nI 1))) m9 5 (.int (nI (lcP P + 1)))) (B 3) (4 * i) (.int (pt 0))) (B 3) (4 * i + 1) (.int (pt 1))) (B 3) (4 * i + 2) (.int (pt 2))) (B 3) (4 * i + 3) (.int (pt 3)) := ⟨_, rfl⟩
            have e2 : ∀ b j, b ≠ B 2 → b ≠ B 3 → ¬ (b = m9 ∧ j = 5) → F2 b j = G b j := fun b j h1 h2 h3 => by rw [hF2, gU_a h2, gU_a h2, gU_a h2, gU_a h2, gU_ne h3, gU_a h1]
            have h25 : F2 m9 5 = .int (nI (lcP Q)) := by rw [hF2, gU_a (Ne.symm (hk.nm (i := 3) rfl)), gU_a (Ne.symm (hk.nm (i := 3) rfl)), gU_a (Ne.symm (hk.nm (i := 3) rfl)), gU_a (Ne.symm (hk.nm (i := 3) rfl)), gU_self, hQl]
            have hP2 : RSp F2 B Q := by
              refine ⟨fun j hj => ?_, fun j p hj hp a ha => ?_⟩
              · rw [hF2, gU_a (hk.ne (i := 2) (j := 3) rfl rfl (by decide)), gU_a (hk.ne (i := 2) (j := 3) rfl rfl (by decide)), gU_a (hk.ne (i := 2) (j := 3) rfl rfl (by decide)), gU_a (hk.ne (i := 2) (j := 3) rfl rfl (by decide)), gU_a (hk.nm (i := 2) rfl)]
                by_cases e : j = i
                · rw [e, gU_self, hQi]; rfl
                · rw [gU_k e, hQo j e]; exact hP1.1 j hj
              · by_cases e : j = i
                · subst e
                  rw [hQi] at hp
                  cases hp
                  rcases (show a = 0 ∨ a = 1 ∨ a = 2 ∨ a = 3 by omega) with rfl | rfl | rfl | rfl
                  · rw [hF2, gU_k (by omega), gU_k (by omega), gU_k (by omega)]; exact gU_self
                  · rw [hF2, gU_k (by omega), gU_k (by omega)]; exact gU_self
                  · rw [hF2, gU_k (by omega)]; exact gU_self
                  · rw [hF2]; exact gU_self
                · rw [hQo j e] at hp
                  rw [hF2, gU_k (by omega), gU_k (by omega), gU_k (by omega), gU_k (by omega), gU_a (hk.nm (i := 3) rfl), gU_a (hk.ne (i := 3) (j := 2) rfl rfl (by decide))]
                  exact hP1.2 j p hj hp a ha
            have hm2 : ∀ j, j ≠ 5 → F2 m9 j = G m9 j := fun j hj => e2 _ j (fun z => hk.nm (i := 2) rfl z.symm) (fun z => hk.nm (i := 3) rfl z.symm) (fun z => hj z.2)
            have e2j : ∀ j i, (mKd j).isSome = true → j ≠ 2 → j ≠ 3 → F2 (B j) i = G (B j) i := fun j i h1 h2 h3 => e2 _ i (hk.ne h1 rfl h2) (hk.ne h1 rfl h3) (fun z => hk.nm h1 z.1)
            have hf2 : MKf F2 m9 B := hfG.up (fun j hj => hm2 j (fun e => by rw [e] at hj; exact absurd hj (by decide)))
            have hd2 : F2 m9 1 = .int (nI d) := (hm2 1 (by decide)).trans hd1
            have htr2 : RSt F2 m9 B t tr := RSt_congr htr (hm2 13 (by decide)) (fun j i hj => by
              have q1 := JK2_some (List.mem_cons_of_mem 2 (List.mem_cons_of_mem 3 hj))
              refine e2j j i q1.1 (fun e => ?_) (fun e => ?_) <;> (rw [e] at hj; exact absurd hj (by decide)))
            have htsz : tSz tr ≤ 118 := by
              have q1 := hAS.2.2.2.2.1
              rw [← htr.1, tSz_map] at q1
              omega
            have hlab : ∀ y ∈ tPre tr, y.2.1.1 < 100 ∧ (y.2.2 = false → P y.2.1.1 = some y.2.1.2) := fun y hy => by
              have hy2 : y.2 ∈ tPre t := by rw [← htr.1, tPre_map]; exact List.mem_map.mpr ⟨y, hy, rfl⟩
              exact ⟨(hAS.2.2.2.2.2.2 y.2 hy2).1, hAS.1 y.2 hy2⟩
            have hend : ∀ (F9 : gF) (t' : TT gLb) (tr' : TT mLb) (nb np : Nat), (∀ j, j ≠ 13 → j ≠ 14 → j ≠ 16 → F9 m9 j = F2 m9 j) → (∀ j i, j = 2 ∨ j = 3 ∨ j = 25 ∨ j = 26 → F9 (B j) i = F2 (B j) i) → F9 m9 14 = .int (nI nb) → F9 m9 16 = .int (nI np) → RSt F9 m9 B t' tr' → RS F9 m9 B d Q t' S lk nb bg np := fun F9 t' tr' nb np g1 g2 g3 g4 g5 => ⟨hf2.up (fun j hj => g1 j (fun e => by rw [e] at hj; exact absurd hj (by decide)) (fun e => by rw [e] at hj; exact absurd hj (by decide)) (fun e => by rw [e] at hj; exact absurd hj (by decide))), (g1 1 (by decide) (by decide) (by decide)).trans hd2, ⟨fun j hj => (g2 2 j (by decide)).trans (hP2.1 j hj), fun j p hj hp a ha => (g2 3 _ (by decide)).trans (hP2.2 j p hj hp a ha)⟩, (g1 5 (by decide) (by decide) (by decide)).trans h25, ⟨tr', g5⟩, ⟨(g1 27 (by decide) (by decide) (by decide)).trans ((hm2 27 (by decide)).trans hlG.1), hlG.2.1.keep (fun j _ _ => (g2 25 j (by decide)).trans (e2j 25 j rfl (by decide) (by decide))), hlG.2.2.keep (fun j _ _ => (g2 26 j (by decide)).trans (e2j 26 j rfl (by decide) (by decide)))⟩, (g1 28 (by decide) (by decide) (by decide)).trans ((hm2 28 (by decide)).trans h28G), g3, (g1 15 (by decide) (by decide) (by decide)).trans ((hm2 15 (by decide)).trans h15G), g4⟩
            have hth2 : F2 m9 0 = .int (nI 0) := (hm2 0 (by decide)).trans hG0
            have j157 : ∀ (H : Heap) (locs : List Loc) (ls : Array Slot), gW Γ (gA K sz) s.heap K F2 H locs → lv_has ls 16 [(0, .ref m9), (1, .int (nI i))] → W p l e (gRm 2 0 0) s m args below meth c H locs 0 0 Z (F0 m 157 ls []) := by
              intro H locs ls hW hl
              refine lv_aload_n hx hb dX7_put_157 rfl (lv_at hl 0 rfl) ?_
              refine g_get (C := RX7) (T := TX7) (N := 31) hx hb hts hi7 hown hN hW.1 hk.1 rfl (by decide) 13 (by decide) hfX7_45 (v := .int (oI (rtI tr))) htr2.2.2.1 dX7_put_158 ?_
              refine lv_istore (lv' := [(6, .int (oI (rtI tr))), (0, .ref m9), (1, .int (nI i))]) hx hb dX7_put_161 hl (by decide) rfl (fun ls hl => ?_)
              refine lv_iconst (v := (-1)) hx hb dX7_put_163 (by decide) ?_
              refine lv_istore (lv' := [(7, .int (-1)), (6, .int (oI (rtI tr))), (0, .ref m9), (1, .int (nI i))]) hx hb dX7_put_164 hl (by decide) rfl (fun ls hl => ?_)
              refine lv_iconst (v := nI 0) hx hb dX7_put_166 (by decide) ?_
              refine lv_istore (lv' := [(8, .int (nI 0)), (7, .int (-1)), (6, .int (oI (rtI tr))), (0, .ref m9), (1, .int (nI i))]) hx hb dX7_put_167 hl (by decide) rfl (fun ls hl => ?_)
              refine lv_iconst (v := nI 0) hx hb dX7_put_169 (by decide) ?_
              refine lv_istore (lv' := [(9, .int (nI 0)), (8, .int (nI 0)), (7, .int (-1)), (6, .int (oI (rtI tr))), (0, .ref m9), (1, .int (nI i))]) hx hb dX7_put_170 hl (by decide) rfl (fun ls hl => ?_)
              have mid : ∀ (cx : cxT mLb) (ls : Array Slot), plug cx tL = tr → DP (fun ax (z : mLb) => pLess ax (i, pt) z.2.1) d cx → lv_has ls 16 [(8, .int (bI (sdB cx))), (7, .int (oI (cTI cx))), (0, .ref m9), (1, .int (nI i))] → W p l e (gRm 2 0 0) s m args below meth c H locs 0 0 Z (F0 m 231 ls []) := by
                intro cx ls hcx hdp hl
                have hpc := (RX_plug (F := F2) (B := B) (m := m9) (c := cx) (t := tL)).mp ⟨by rw [hcx]; exact htr2.2.1, by rw [hcx]; exact htr2.2.2.1⟩
                have hC2 : CX F2 B m9 cx none := hpc.2
                have hpm : (ixT tr).Perm (ixC cx) := by
                  have q1 := ixT_plug cx tL
                  rw [hcx] at q1
                  exact q1
                have hU : usL F2 B (ixC cx) := htr2.2.2.2.1.set (fun j => hpm.mem_iff)
                have hnd : (ixC cx).Nodup := hpm.nodup_iff.mp htr2.2.2.2.2.1
                have hcl : (ixC cx).length = tSz tr := by rw [← hpm.length_eq]; unfold ixT; rw [List.length_map, tPre_len]
                obtain ⟨n0, hn0, hn0U⟩ := free_ix (ixC cx) (by omega)
                refine lv_aload_n hx hb dX7_put_231 rfl (lv_at hl 2 rfl) ?_
                refine lv_iload_n hx hb dX7_put_232 rfl (lv_at hl 3 rfl) ?_
                refine lv_iload hx hb dX7_put_233 (lv_at hl 1 rfl) ?_
                refine g_mV (As := [.int (nI i), .int (oI (cTI cx))]) (b := m9) (rest := []) hx hb hml hown hts hN hW (m_newNode l Γ K F2 H.size m9 B hk hf2 i n0 (oI (cTI cx)) (fun j => decide (j ∈ ixC cx)) pt hi hU hn0 (decide_eq_false hn0U) (fun a ha => hP2.2 i pt hi hQi a ha)) gX7_put_X7_newNode rfl hk.1 (by decide) rfl (na := 2) rfl (by decide +kernel) ⟨by decide, by decide⟩ ⟨Nat.le_of_ble_eq_true rfl, Nat.le_of_ble_eq_true rfl⟩ rfl hl.1 (Nat.le_of_ble_eq_true rfl) dX7_put_235 (fun v K' F3 H locs hp hW hsz' => ?_)
                obtain ⟨n9, hn9, hxU, rfl, hK9, hnw⟩ := hp
                subst K'
                show W _ _ _ _ _ _ _ _ _ _ _ _ _ _ _ (F0 m 238 ls [.int (nI n9)])
                have hxU := of_decide_eq_false hxU
                obtain ⟨w6, w7, w8, w9, w10, w11, w12, w4, wf⟩ := hnw
                have s3m : ∀ i, F3 m9 i = F2 m9 i := fun i => wf m9 i (fun z => by
                  rcases z.1 with q | q | q | q | q | q
                  · exact hk.nm (i := 6) rfl q.symm
                  · exact hk.nm (i := 7) rfl q.symm
                  · exact hk.nm (i := 9) rfl q.symm
                  · exact hk.nm (i := 10) rfl q.symm
                  · exact hk.nm (i := 11) rfl q.symm
                  · exact hk.nm (i := 12) rfl q.symm) (fun z => hk.nm (i := 8) rfl z.1.symm) (fun z => hk.nm (i := 4) rfl z.1.symm)
                have s3 : ∀ j i, (mKd j).isSome = true → (j = 3 ∨ 13 ≤ j) → F3 (B j) i = F2 (B j) i := fun j i h1 h2 => wf _ i (fun z => by
                  rcases z.1 with q | q | q | q | q | q
                  · exact hk.ne h1 (j := 6) rfl (by omega) q
                  · exact hk.ne h1 (j := 7) rfl (by omega) q
                  · exact hk.ne h1 (j := 9) rfl (by omega) q
                  · exact hk.ne h1 (j := 10) rfl (by omega) q
                  · exact hk.ne h1 (j := 11) rfl (by omega) q
                  · exact hk.ne h1 (j := 12) rfl (by omega) q) (fun z => hk.ne h1 (j := 8) rfl (by omega) z.1) (fun z => hk.ne h1 (j := 4) rfl (by omega) z.1)
                have hf3 : MKf F3 m9 B := hf2.up (fun j _ => s3m j)
                have k3 : ∀ n, n ≠ n9 → kpN F2 F3 B n := fun n hne => kpN_off (x := n9) (fun j i h1 h2 h3 h4 => wf _ i (fun z => by
                    refine h3 ⟨fun e => ?_, z.2⟩
                    subst e
                    rcases z.1 with q | q | q | q | q | q
                    · exact hk.ne (i := 8) (j := 6) rfl rfl (by decide) q
                    · exact hk.ne (i := 8) (j := 7) rfl rfl (by decide) q
                    · exact hk.ne (i := 8) (j := 9) rfl rfl (by decide) q
                    · exact hk.ne (i := 8) (j := 10) rfl rfl (by decide) q
                    · exact hk.ne (i := 8) (j := 11) rfl rfl (by decide) q
                    · exact hk.ne (i := 8) (j := 12) rfl rfl (by decide) q) (fun z => by
                    by_cases e : j = 8
                    · exact h4 ⟨e, z.2⟩
                    · exact hk.ne (mKd_7 h1 h2) (j := 8) rfl e z.1) (fun z => hk.ne (mKd_7 h1 h2) (j := 4) rfl (by omega) z.1)) hne
                have nxc : ∀ n ∈ ixC cx, n ≠ n9 := fun n hn e => hxU (e ▸ hn)
                have hC3 : CX F3 B m9 cx none := CX_congr (fun n hn => k3 n (nxc n hn)) (s3m 13) hC2
                have hX3 : RXn F3 B n9 (((i, pt), false)) (cTI cx) none none := ⟨hn9, hi, w7, w8, w9, w10, w11, w12⟩
                refine lv_istore (lv' := [(10, .int (nI n9)), (8, .int (bI (sdB cx))), (7, .int (oI (cTI cx))), (0, .ref m9), (1, .int (nI i))]) hx hb dX7_put_238 hl (by decide) rfl (fun ls hl => ?_)
                refine lv_aload_n hx hb dX7_put_240 rfl (lv_at hl 3 rfl) ?_
                refine lv_iload hx hb dX7_put_241 (lv_at hl 0 rfl) ?_
                refine lv_iload hx hb dX7_put_243 (lv_at hl 2 rfl) ?_
                refine lv_iload hx hb dX7_put_245 (lv_at hl 1 rfl) ?_
                refine g_mV (As := [.int (nI n9), .int (oI (cTI cx)), .int (bI (sdB cx))]) (b := m9) (rest := []) hx hb hml hown hts hN hW (m_hangC l Γ K F3 H.size m9 B hk hf3 cx none (some n9) (sdB cx) (sdC_sdB cx) hC3 hnd) gX7_put_X7_hang rfl hk.1 (by decide) rfl (na := 3) rfl (by decide +kernel) ⟨by decide, by decide⟩ ⟨Nat.le_of_ble_eq_true rfl, Nat.le_of_ble_eq_true rfl⟩ rfl hl.1 (Nat.le_of_ble_eq_true rfl) dX7_put_247 (fun v K' F4 H locs hp hW hsz' => ?_)
                obtain ⟨rfl, hK9, hC4, hfr4⟩ := hp
                subst K'
                show W _ _ _ _ _ _ _ _ _ _ _ _ _ _ _ (F0 m 250 ls [])
                obtain ⟨x9, hx9⟩ : ∃ x : mLb, x = (n9, ((i, pt), false)) := ⟨_, rfl⟩
                have cxm : ∀ j, some j = cTI cx → j ∈ ixC cx := fun j hj => by
                  rcases cx with _ | ⟨⟨b, y, o9⟩, c9⟩
                  · cases hj
                  · cases hj; rw [ixC_cons]; exact List.mem_cons_self
                have s4m : ∀ i, i ≠ 13 → F4 m9 i = F3 m9 i := fun i hi => hfr4 m9 i (fun z => hi z.2) (fun z => by
                  rcases z.1 with q | q
                  · exact hk.nm (i := 10) rfl q.symm
                  · exact hk.nm (i := 11) rfl q.symm)
                have s4 : ∀ j i, (mKd j).isSome = true → j ≠ 10 → j ≠ 11 → F4 (B j) i = F3 (B j) i := fun j i h1 h2 h3 => hfr4 _ i (fun z => hk.nm h1 z.1) (fun z => by
                  rcases z.1 with q | q
                  · exact hk.ne h1 (j := 10) rfl h2 q
                  · exact hk.ne h1 (j := 11) rfl h3 q)
                have hf4 : MKf F4 m9 B := hf3.up (fun j hj => s4m j (fun e => by rw [e] at hj; exact absurd hj (by decide)))
                have hX4 : RXn F4 B n9 ((i, pt), false) (cTI cx) none none := RXn_congr (fun j i h1 h2 h3 => hfr4 _ i (fun z => hk.nm (mKd_7 h1 h2) z.1) (fun z => by
                  have hi : i ∈ ixC cx := cxm i z.2
                  rcases h3 with h3 | h3
                  · exact nxc i hi h3.2
                  · rw [h3.1] at z
                    rcases z.1 with q | q
                    · exact hk.ne (i := 8) (j := 10) rfl rfl (by decide) q
                    · exact hk.ne (i := 8) (j := 11) rfl rfl (by decide) q)) hX3
                have hU4 : usL F4 B (n9 :: ixC cx) := fun j hj => by
                  rw [s4 6 j rfl (by decide) (by decide)]
                  by_cases e : j = n9
                  · subst e; rw [w6, decide_eq_true List.mem_cons_self]
                  · rw [wf (B 6) j (fun z => e z.2) (fun z => hk.ne (i := 6) (j := 8) rfl rfl (by decide) z.1) (fun z => hk.ne (i := 6) (j := 4) rfl rfl (by decide) z.1), hU j hj]
                    congr 3
                    exact propext ⟨fun q => List.mem_cons_of_mem _ q, fun q => (List.mem_cons.mp q).resolve_left e⟩
                have e4 : F4 (B 4) i = .int (nI n9) := (s4 4 _ rfl (by decide) (by decide)).trans w4
                have e4o : ∀ j, j ≠ i → F4 (B 4) j = F2 (B 4) j := fun j hj => (s4 4 j rfl (by decide) (by decide)).trans (wf (B 4) j (fun z => by
                  rcases z.1 with q | q | q | q | q | q
                  · exact hk.ne (i := 4) (j := 6) rfl rfl (by decide) q
                  · exact hk.ne (i := 4) (j := 7) rfl rfl (by decide) q
                  · exact hk.ne (i := 4) (j := 9) rfl rfl (by decide) q
                  · exact hk.ne (i := 4) (j := 10) rfl rfl (by decide) q
                  · exact hk.ne (i := 4) (j := 11) rfl rfl (by decide) q
                  · exact hk.ne (i := 4) (j := 12) rfl rfl (by decide) q) (fun z => hk.ne (i := 4) (j := 8) rfl rfl (by decide) z.1) (fun z => hj z.2))
                have fr24 : frL (17 :: 18 :: JB) B m9 F2 F4 := fun b i hb hm => by
                  have g : ∀ j, j ∈ JB → b ≠ B j := fun j hj => hb j (List.mem_cons_of_mem _ (List.mem_cons_of_mem _ hj))
                  rw [hfr4 b i hm (fun z => z.1.elim (g 10 (by decide)) (g 11 (by decide))), wf b i (fun z => by
                    rcases z.1 with q | q | q | q | q | q
                    · exact g 6 (by decide) q
                    · exact g 7 (by decide) q
                    · exact g 9 (by decide) q
                    · exact g 10 (by decide) q
                    · exact g 11 (by decide) q
                    · exact g 12 (by decide) q) (fun z => g 8 (by decide) z.1) (fun z => g 4 (by decide) z.1)]
                have hndx : (n9 :: ixC cx).Nodup := List.nodup_cons.mpr ⟨hxU, hnd⟩
                obtain ⟨T, hT⟩ : ∃ T, T = plug cx (tN tL x9 tL) := ⟨_, rfl⟩
                have hdpl : DP (fun ax z => ltM ax x9 z) d cx := by rw [hx9]; exact hdp
                have hTi : insG ltM d x9 0 tr = T := by rw [← hcx, insG_DP hdpl, hT]; rfl
                have hXT : RX F4 B T none ∧ F4 m9 13 = .int (oI (rtI T)) := by rw [hT, hx9]; exact RX_plug.mpr ⟨⟨hX4, trivial, trivial⟩, hC4⟩
                have hpT : (tPre T).Perm (x9 :: tPre tr) := by rw [← hTi]; exact insG_perm _ _ _ _ _
                have hsT : tSz T = tSz tr + 1 := by rw [← hTi]; exact insG_sz _ _ _ _ _
                have hiT : (ixT T).Perm (n9 :: ixC cx) := by
                  have q1 := hpT.map (fun y : mLb => y.1)
                  rw [List.map_cons] at q1
                  refine q1.trans ?_
                  rw [hx9]
                  exact hpm.cons n9
                have hUT : usL F4 B (ixT T) := hU4.set (fun j => hiT.mem_iff.symm)
                have hnT : (ixT T).Nodup := hiT.nodup_iff.mpr hndx
                have hlabT : ∀ y ∈ tPre T, y.2.1.1 < 100 ∧ (y.2.2 = false → Q y.2.1.1 = some y.2.1.2) := fun y hy => by
                  rcases List.mem_cons.mp (hpT.mem_iff.mp hy) with e | e
                  · rw [e, hx9]; exact ⟨hi, fun _ => hQi⟩
                  · obtain ⟨q1, q2⟩ := hlab y e
                    exact ⟨q1, fun hd => by rw [hQo _ (fun z => by rw [z] at q2; rw [hPn] at q2; cases q2 hd)]; exact q2 hd⟩
                have hnoT : ∀ y ∈ tPre T, y.2.2 = false → F4 (B 4) y.2.1.1 = .int (nI y.1) := fun y hy hd => by
                  rcases List.mem_cons.mp (hpT.mem_iff.mp hy) with e | e
                  · rw [e, hx9]; exact e4
                  · have q2 := (hlab y e).2 hd
                    exact (e4o _ (fun z => by rw [z, hPn] at q2; cases q2)).trans (htr2.2.2.2.2.2 y e hd)
                have hlivT : (liv (tPre T)).Nodup ∧ (liv (tPre T)).length = lcP P + 1 := by
                  have q1 : (liv (tPre T)).Perm (i :: liv (tPre tr)) := by
                    refine (liv_perm hpT).trans ?_
                    rw [hx9]
                    exact List.Perm.refl _
                  have q2 := liv_snd (tPre tr)
                  rw [← tPre_map, show tMap (fun y : mLb => y.2) tr = t from htr.1] at q2
                  refine ⟨q1.nodup_iff.mpr (List.nodup_cons.mpr ⟨fun z => ?_, by rw [q2]; exact hAS.2.2.1⟩), ?_⟩
                  · obtain ⟨y, y1, y2, y3⟩ := liv_of z
                    have q3 := (hlab y y1).2 y2
                    rw [y3, hPn] at q3
                    cases q3
                  · rw [q1.length_eq, List.length_cons, q2, List.length_map, hAS.2.2.2.1]
                have hpG : putG ltL (fun y => y.2) d ((i, pt), false) t = (sndT (putG ltM (fun y => y.2.2) d x9 tr).1, (putG ltM (fun y => y.2.2) d x9 tr).2) := by
                  have q1 := putG_map (fun y : mLb => y.2) (lt := ltL) (lt' := ltM) (fun _ _ _ => rfl) (fun y : gLb => y.2) d x9 tr
                  rw [show tMap (fun y : mLb => y.2) tr = t from htr.1, show x9.2 = ((i, pt), false) by rw [hx9]] at q1
                  exact q1
                have hm42 : ∀ j, j ≠ 13 → F4 m9 j = F2 m9 j := fun j hj => fr24.m hk hj (by decide)
                clear s3 s3m s4m s4 wf hfr4 k3
                have fin : ∀ (F5 : gF) (H : Heap) (locs : List Loc) (ls : Array Slot), (∀ b i, b ≠ B 17 → b ≠ B 18 → F5 b i = F4 b i) → gW Γ (gA K sz) s.heap K F5 H locs → lv_has ls 16 [(11, .int (oI (rtQ (findG ltM d x9 [] tr)))), (0, .ref m9), (1, .int (nI i))] → W p l e (gRm 2 0 0) s m args below meth c H locs 0 0 Z (F0 m 340 ls []) := by
                  intro F5 H locs ls hfr5 hW hl
                  have hf5 : MKf F5 m9 B := hf4.up (fun j _ => hfr5 m9 j (fun z => hk.nm (i := 17) rfl z.symm) (fun z => hk.nm (i := 18) rfl z.symm))
                  have fr25 : frL (17 :: 18 :: JB) B m9 F2 F5 := fr24.trans (fun b i hb _ => hfr5 b i (hb 17 (by decide)) (hb 18 (by decide)))
                  have k5 : ∀ j, (mKd j).isSome = true → j ≠ 17 → j ≠ 18 → ∀ i, F5 (B j) i = F4 (B j) i := fun j h1 h2 h3 i => hfr5 _ i (hk.ne h1 rfl h2) (hk.ne h1 rfl h3)
                  have k5m : ∀ i, F5 m9 i = F4 m9 i := fun i => hfr5 _ i (fun z => hk.nm (i := 17) rfl z.symm) (fun z => hk.nm (i := 18) rfl z.symm)
                  have hX5 : RX F5 B T none ∧ F5 m9 13 = .int (oI (rtI T)) := ⟨RX_keep (fun j i h1 h2 => k5 j (mKd_7 h1 h2) (by omega) (by omega) i) hXT.1, (k5m 13).trans hXT.2⟩
                  have hU5 : usL F5 B (ixT T) := fun j hj => (k5 6 rfl (by decide) (by decide) j).trans (hUT j hj)
                  have hno5 : ∀ y ∈ tPre T, y.2.2 = false → F5 (B 4) y.2.1.1 = .int (nI y.1) := fun y hy hd => (k5 4 rfl (by decide) (by decide) _).trans (hnoT y hy hd)
                  have h55 : F5 m9 5 = .int (nI (lcP Q)) := (fr25.m hk (by decide) (by decide)).trans h25
                  have h50 : F5 m9 0 = .int (nI 0) := (fr25.m hk (by decide) (by decide)).trans hth2
                  have h514 : F5 m9 14 = .int (nI bc) := (fr25.m hk (by decide) (by decide)).trans ((hm2 14 (by decide)).trans h14G)
                  have h516 : F5 m9 16 = .int (nI bp) := (fr25.m hk (by decide) (by decide)).trans ((hm2 16 (by decide)).trans h16G)
                  cases hfi : findG ltM d x9 [] tr with
                  | none =>
                    rw [hfi] at hl
                    have hl : lv_has ls 16 [(11, .int (-1)), (0, .ref m9), (1, .int (nI i))] := hl
                    refine lv_iload hx hb dX7_put_340 (lv_at hl 0 rfl) ?_
                    refine lv_iconst (v := (-1)) hx hb dX7_put_342 (by decide) ?_
                    refine lv_icmp_eq (tgt := 371) hx hb dX7_put_343 (by decide) (fun y1 => ?_) (fun y1 => ?_)
                    · refine lv_aload_n hx hb dX7_put_371 rfl (lv_at hl 1 rfl) ?_
                      refine g_get (C := RX7) (T := TX7) (N := 31) hx hb hts hi7 hown hN hW.1 hk.1 rfl (by decide) 5 (by decide) hfX7_125 (v := .int (nI (lcP Q))) h55 dX7_put_372 ?_
                      have hput : putG ltM (fun y => y.2.2) d x9 tr = (T, 0, 0) := by unfold putG; rw [hfi]; show (insG ltM d x9 0 tr, 0, 0) = _; rw [hTi]
                      rw [hput] at hpG
                      exact hret (some (.int (nI (lcP Q)))) _ _ _ _ _ _ hW (⟨0, nI (lcP Q), rfl, rfl, h50, Or.inr (Or.inr ⟨rfl, ⟨c1, c2⟩, ⟨i, hi, rfl, hPn⟩, by omega⟩), fun z => absurd rfl z, fun _ j hj e => by have e := nI_inj (by omega) (by omega) e; subst e; rw [← hpt, ← hQ, hpG, ← hQl]; exact ⟨rfl, hend F5 (sndT T) T bc bp (fun j h1 _ _ => fr25.m hk h1 (by decide)) (fun j i hj => by rcases hj with rfl | rfl | rfl | rfl <;> exact fr25.at hk rfl (by decide)) h514 h516 ⟨rfl, hX5.1, hX5.2, hU5, hnT, hno5⟩⟩⟩) (rt_i dX7_put_375)
                    · exact absurd rfl y1
                  | some q8 =>
                    obtain ⟨c8, s8⟩ := q8
                    obtain ⟨a8, ha8⟩ := findG_rt hfi
                    have hpl8 : plug c8 s8 = T := by rw [findG_plug _ _ _ _ _ _ _ hfi, ← hTi]; rfl
                    have hro : rtQ (findG ltM d x9 [] tr) = some a8.1 := by rw [hfi]; show rtI s8 = _; unfold rtI; rw [ha8]; rfl
                    have hrs : rtI s8 = some a8.1 := by unfold rtI; rw [ha8]; rfl
                    rw [hro] at hl
                    have hXs := (RX_plug (F := F5) (B := B) (m := m9) (c := c8) (t := s8)).mp ⟨by rw [hpl8]; exact hX5.1, by rw [hpl8]; exact hX5.2⟩
                    have ha140 := RX_root hXs.1 hrs
                    have hl : lv_has ls 16 [(11, .int (nI a8.1)), (0, .ref m9), (1, .int (nI i))] := hl
                    refine lv_iload hx hb dX7_put_340 (lv_at hl 0 rfl) ?_
                    refine lv_iconst (v := (-1)) hx hb dX7_put_342 (by decide) ?_
                    refine lv_icmp_eq (tgt := 371) hx hb dX7_put_343 (by decide) (fun y1 => ?_) (fun y1 => ?_)
                    · exact absurd y1 (oI_n (by omega))
                    · refine lv_aload_n hx hb dX7_put_346 rfl (lv_at hl 1 rfl) ?_
                      refine lv_dup hx hb dX7_put_347 rfl ?_
                      refine g_get (C := RX7) (T := TX7) (N := 31) hx hb hts hi7 hown hN hW.1 hk.1 rfl (by decide) 14 (by decide) hfX7_132 (v := .int (nI bc)) h514 dX7_put_348 ?_
                      refine lv_iconst (v := nI 1) hx hb dX7_put_351 (by decide) ?_
                      refine lv_iadd hx hb dX7_put_352 ?_
                      refine g_asi (show _ = nI (bc + 1) from (nI_add _ _).trans (by rfl)) ?_
                      refine g_put (C := RX7) (T := TX7) (N := 31) hx hb hts hi7 tyX7 tyX7_ok nmX7 hown hN hW hk.1 rfl (by decide) 14 (by decide) hfX7_132 rfl rfl rfl dX7_put_353 (fun H locs hW => ?_)
                      obtain ⟨F6, hF6⟩ : ∃ f, f = gU F5 m9 14 (.int (nI (bc + 1))) := ⟨_, rfl⟩
                      rw [← hF6] at hW
                      have g6 : ∀ b i, ¬ (b = m9 ∧ i = 14) → F6 b i = F5 b i := fun b i h => by rw [hF6, gU_ne h]
                      have g614 : F6 m9 14 = .int (nI (bc + 1)) := by rw [hF6, gU_self]
                      have g6j : ∀ j i, (mKd j).isSome = true → F6 (B j) i = F5 (B j) i := fun j i h1 => g6 _ i (fun z => hk.nm h1 z.1)
                      have hf6 : MKf F6 m9 B := hf5.up (fun j hj => g6 _ j (fun z => by rw [z.2] at hj; exact absurd hj (by decide)))
                      have h616 : F6 m9 16 = .int (nI bp) := (g6 _ _ (fun z => absurd z.2 (by decide))).trans h516
                      have hX6 : RX F6 B s8 (cTI c8) := RX_keep (fun j i h1 h2 => g6j j i (mKd_7 h1 h2)) hXs.1
                      have hC6 : CX F6 B m9 c8 (rtI s8) := CX_congr (fun n _ j i h1 h2 _ => g6j j i (mKd_7 h1 h2)) (g6 _ _ (fun z => absurd z.2 (by decide))) hXs.2
                      have hip := ixT_plug c8 s8
                      rw [hpl8] at hip
                      have hlp : (tPre T).Perm (tPre s8 ++ cAd c8) := by rw [← hpl8]; exact plug_perm c8 s8
                      have hliv := (liv_perm hlp).nodup_iff.mp hlivT.1
                      have hlivl := (liv_perm hlp).length_eq
                      rw [liv_app] at hliv hlivl
                      rw [List.length_append, hlivT.2] at hlivl
                      obtain ⟨pp, hpp⟩ : ∃ pp : Nat → Nat → Int32, pp = fun j => (Q j).getD (fun _ => 0) := ⟨_, rfl⟩
                      have hlabs : ∀ y ∈ tPre s8, y.2.1.1 < 100 ∧ (y.2.2 = false → Q y.2.1.1 = some y.2.1.2) := fun y hy => hlabT y (hlp.mem_iff.mpr (List.mem_append_left _ hy))
                      have hppl : ∀ y ∈ tPre s8, y.2.2 = false → pp y.2.1.1 = y.2.1.2 := fun y hy hd => by rw [hpp]; show (Q y.2.1.1).getD _ = _; rw [(hlabs y hy).2 hd]; rfl
                      have hsz8 : tSz s8 + (ixC c8).length ≤ 130 := by
                        have q1 := hip.length_eq
                        rw [List.length_append] at q1
                        unfold ixT at q1
                        rw [List.length_map, List.length_map, tPre_len, tPre_len] at q1
                        omega
                      refine lv_aload_n hx hb dX7_put_356 rfl (lv_at hl 1 rfl) ?_
                      refine lv_dup hx hb dX7_put_357 rfl ?_
                      refine g_get (C := RX7) (T := TX7) (N := 31) hx hb hts hi7 hown hN hW.1 hk.1 rfl (by decide) 16 (by decide) hfX7_135 (v := .int (nI bp)) h616 dX7_put_358 ?_
                      refine lv_aload_n hx hb dX7_put_361 rfl (lv_at hl 1 rfl) ?_
                      refine lv_iload hx hb dX7_put_362 (lv_at hl 0 rfl) ?_
                      refine g_asi (show _ = oI (rtI s8) from by rw [hrs]; rfl) ?_
                      refine g_mV (As := [.int (oI (rtI s8))]) (b := m9) (rest := [.int (nI bp), .ref m9]) hx hb hml hown hts hN hW (m_build l Γ K F6 H.size m9 B hk hf6 d hd0 hd4 pp s8 c8 ((g6 _ _ (fun z => absurd z.2 (by decide))).trans ((fr25.m hk (by decide) (by decide)).trans hd2)) hX6 hC6 ⟨_, hrs⟩ (fun j hj => (g6j 6 j rfl).trans ((hU5.set (fun j => hip.mem_iff)) j hj)) (hip.nodup_iff.mp hnT) (fun y hy hd a ha => by rw [hppl y hy hd]; exact ((g6j 3 _ rfl).trans (fr25.at hk rfl (by decide))).trans (hP2.2 _ _ (hlabs y hy).1 ((hlabs y hy).2 hd) a ha)) (List.nodup_append.mp hliv).1 (by omega) hsz8) gX7_put_X7_build rfl hk.1 (by decide) rfl (na := 1) rfl (by decide +kernel) ⟨by decide, by decide⟩ ⟨Nat.le_of_ble_eq_true rfl, Nat.le_of_ble_eq_true rfl⟩ rfl hl.1 (Nat.le_of_ble_eq_true rfl) dX7_put_364 (fun v K' F7 H locs hp hW hsz' => ?_)
                      obtain ⟨rfl, hK9, t5, ht5, hX7, hC7, hU7, hn7, hno7, hno7o, hfr7⟩ := hp
                      subst K'
                      show W _ _ _ _ _ _ _ _ _ _ _ _ _ _ _ (F0 m 367 ls [.int (nI (liv (tPre s8)).length), .int (nI bp), .ref m9])
                      have hf7 : MKf F7 m9 B := hfr7.f hk (by decide) hf6
                      have h75 : F7 m9 5 = .int (nI (lcP Q)) := (hfr7.m hk (by decide) (by decide)).trans ((g6 _ _ (fun z => absurd z.2 (by decide))).trans h55)
                      refine lv_iadd hx hb dX7_put_367 ?_
                      refine g_asi (show _ = nI (bp + (liv (tPre s8)).length) from (nI_add _ _).trans (by rfl)) ?_
                      refine g_put (C := RX7) (T := TX7) (N := 31) hx hb hts hi7 tyX7 tyX7_ok nmX7 hown hN hW hk.1 rfl (by decide) 16 (by decide) hfX7_135 rfl rfl rfl dX7_put_368 (fun H locs hW => ?_)
                      refine lv_aload_n hx hb dX7_put_371 rfl (lv_at hl 1 rfl) ?_
                      refine g_get (C := RX7) (T := TX7) (N := 31) hx hb hts hi7 hown hN hW.1 hk.1 rfl (by decide) 5 (by decide) hfX7_125 (v := .int (nI (lcP Q))) ((gU_k (by decide)).trans h75) dX7_put_372 ?_
                      have h9m : ∀ j, j ≠ 13 → j ≠ 14 → j ≠ 16 → gU F7 m9 16 (.int (nI (bp + (liv (tPre s8)).length))) m9 j = F2 m9 j := fun j h1 h2 h3 => (gU_k h3).trans ((hfr7.m hk h1 (by decide)).trans ((g6 _ _ (fun z => h2 z.2)).trans (fr25.m hk h1 (by decide))))
                      obtain ⟨F9, hF9⟩ : ∃ f, f = gU F7 m9 16 (.int (nI (bp + (liv (tPre s8)).length))) := ⟨_, rfl⟩
                      have h9b : ∀ j i, (mKd j).isSome = true → F9 (B j) i = F7 (B j) i := fun j i h1 => by rw [hF9]; exact gU_a (hk.nm h1)
                      have h916 : F9 m9 16 = .int (nI (bp + (liv (tPre s8)).length)) := by rw [hF9, gU_self]
                      have h913 : F9 m9 13 = F7 m9 13 := by rw [hF9, gU_k (by decide)]
                      have h914 : F9 m9 14 = .int (nI (bc + 1)) := by rw [hF9, gU_k (by decide), hfr7.m hk (by decide) (by decide)]; exact g614
                      rw [← hF9] at hW h9m
                      clear hF9
                      have hip9 := ixT_plug c8 t5
                      have hlp9 := plug_perm c8 t5
                      have hX9 : RX F9 B (plug c8 t5) none ∧ F9 m9 13 = .int (oI (rtI (plug c8 t5))) := RX_plug.mpr ⟨RX_keep (fun j i h1 h2 => h9b j i (mKd_7 h1 h2)) hX7, CX_congr (fun n _ j i h1 h2 _ => h9b j i (mKd_7 h1 h2)) h913 hC7⟩
                      have hR9 : RSt F9 m9 B (sndT (plug c8 t5)) (plug c8 t5) := ⟨rfl, hX9.1, hX9.2, fun j hj => (h9b 6 j rfl).trans ((hU7.set (fun j => hip9.mem_iff.symm)) j hj), hip9.nodup_iff.mpr hn7, fun y hy hd => by
                        rw [h9b 4 _ rfl]
                        rcases List.mem_append.mp (hlp9.mem_iff.mp hy) with e | e
                        · exact hno7 y e
                        · have hyT : y ∈ tPre T := hlp.mem_iff.mpr (List.mem_append_right _ e)
                          rw [hno7o _ (fun z => (List.nodup_append.mp hliv).2.2 _ z _ (liv_mem e hd) rfl), g6j 4 _ rfl]
                          exact hno5 y hyT hd⟩
                      have hput : (putG ltM (fun y => y.2.2) d x9 tr).2 = (1, ((tPre s8).filter (fun y => !y.2.2)).length) ∧ sndT (putG ltM (fun y => y.2.2) d x9 tr).1 = sndT (plug c8 t5) := by
                        unfold putG
                        rw [hfi]
                        refine ⟨rfl, ?_⟩
                        show sndT (plug c8 (bldG ltM d 60 c8.length ((tPre s8).filter (fun y => !y.2.2)))) = _
                        unfold sndT
                        rw [plug_map, plug_map]
                        congr 1
                        exact (bld_lab hppl ht5).symm
                      have hll : ((tPre s8).filter (fun y => !y.2.2)).length = (liv (tPre s8)).length := by unfold liv; rw [List.length_map]
                      rw [hput.1, hput.2, hll] at hpG
                      have hRS := hend F9 (sndT (plug c8 t5)) (plug c8 t5) (bc + 1) (bp + (liv (tPre s8)).length) h9m (fun j i hj => by rcases hj with rfl | rfl | rfl | rfl <;> exact (h9b _ _ rfl).trans ((hfr7.at hk rfl (by decide)).trans ((g6j _ _ rfl).trans (fr25.at hk rfl (by decide))))) h914 h916 hR9
                      exact hret (some (.int (nI (lcP Q)))) _ _ _ _ _ _ hW (⟨0, nI (lcP Q), rfl, rfl, (h9m 0 (by decide) (by decide) (by decide)).trans hth2, Or.inr (Or.inr ⟨rfl, ⟨c1, c2⟩, ⟨i, hi, rfl, hPn⟩, by omega⟩), fun z => absurd rfl z, fun _ j hj e => by have e := nI_inj (by omega) (by omega) e; subst e; rw [← hpt, ← hQ, hpG, ← hQl]; exact ⟨rfl, hRS⟩⟩) (rt_i dX7_put_375)
                have asc : ∀ (c9 : cxT mLb) (t9 : TT mLb) (F5 : gF) (H : Heap) (locs : List Loc) (ls : Array Slot), plug c9 t9 = tr → DP (fun ax z => ltM ax x9 z) d c9 → (∀ b i, b ≠ B 17 → b ≠ B 18 → F5 b i = F4 b i) → gW Γ (gA K sz) s.heap K F5 H locs → lv_has ls 16 [(12, .int (oI (cTI c9))), (11, .int (oI (rtQ (findG ltM d x9 c9 t9)))), (0, .ref m9), (1, .int (nI i))] → W p l e (gRm 2 0 0) s m args below meth c H locs 0 0 Z (F0 m 257 ls []) := by
                  intro c9
                  induction c9 with
                  | nil =>
                    intro t9 F5 H locs ls hpl hdq hfr5 hW hl
                    have hpl : t9 = tr := hpl
                    rw [hpl] at hl
                    have hl : lv_has ls 16 [(12, .int (-1)), (11, .int (oI (rtQ (findG ltM d x9 [] tr)))), (0, .ref m9), (1, .int (nI i))] := hl
                    refine lv_iload hx hb dX7_put_257 (lv_at hl 0 rfl) ?_
                    refine lv_iconst (v := (-1)) hx hb dX7_put_259 (by decide) ?_
                    refine lv_icmp_eq (tgt := 340) hx hb dX7_put_260 (by decide) (fun y1 => ?_) (fun y1 => ?_)
                    · exact fin F5 H locs ls hfr5 hW (lv_sub hl [1, 2, 3] rfl)
                    · exact absurd rfl y1
                  | cons q9 c9 ih =>
                    intro t9 F5 H locs ls hpl hdq hfr5 hW hl
                    obtain ⟨b, a, o⟩ := q9
                    obtain ⟨hbq, hdq⟩ := hdq
                    have hbq : b = ltM (c9.length % d) x9 a := hbq
                    obtain ⟨I9, hI9⟩ : ∃ I, I = insG ltM d x9 (c9.length + 1) t9 := ⟨_, rfl⟩
                    have hf5 : MKf F5 m9 B := hf4.up (fun j _ => hfr5 m9 j (fun z => hk.nm (i := 17) rfl z.symm) (fun z => hk.nm (i := 18) rfl z.symm))
                    have k5 : ∀ j, (mKd j).isSome = true → j ≠ 17 → j ≠ 18 → ∀ i, F5 (B j) i = F4 (B j) i := fun j h1 h2 h3 i => hfr5 _ i (hk.ne h1 rfl h2) (hk.ne h1 rfl h3)
                    have hfd : ∀ (G5 : gF), (∀ b i, b ≠ B 17 → b ≠ B 18 → G5 b i = F4 b i) → ∀ (t8 : TT mLb) (u8 : Option Nat), RX F4 B t8 u8 → RX G5 B t8 u8 := fun G5 hG t8 u8 => RX_keep (fun j i h1 h2 => hG _ i (hk.ne (mKd_7 h1 h2) rfl (by omega)) (hk.ne (mKd_7 h1 h2) rfl (by omega)))
                    have hTp : T = plug c9 (if b then tN I9 a o else tN o a I9) := by
                      have q1 := insG_DP (lt := ltM) (d := d) (x := x9) (c := (b, a, o) :: c9) (t := t9) ⟨hbq, hdq⟩
                      rw [hpl, hTi] at q1
                      rw [q1, hI9]
                      rfl
                    have hXc := (RX_plug (F := F4) (B := B) (m := m9) (c := c9) (t := if b then tN I9 a o else tN o a I9)).mp ⟨by rw [← hTp]; exact hXT.1, by rw [← hTp]; exact hXT.2⟩
                    have hXc := hXc.1
                    have hszT := plug_sz c9 (if b then tN I9 a o else tN o a I9)
                    rw [← hTp, hsT] at hszT
                    cases b with
                    | false =>
                      have hXc : RX F4 B (tN o a I9) (cTI c9) := hXc
                      have hszT : tSz tr + 1 = tSz (tN o a I9) + (cAd c9).length := hszT
                      have hz9 : tSz (tN o a I9) = tSz o + tSz I9 + 1 := rfl
                      rw [hz9] at hszT
                      have hXn := hXc.1
                      have ha140 := hXn.1
                      have hfg : findG ltM d x9 c9 (tN o a t9) = if leans o I9 then some (c9, (tN o a I9)) else findG ltM d x9 ((false, a, o) :: c9) t9 := by
                        rw [hI9]
                        show (if ltM (c9.length % d) x9 a then _ else _) = _
                        rw [if_neg (by rw [← hbq]; decide)]
                      have hl : lv_has ls 16 [(12, .int (nI a.1)), (11, .int (oI (rtQ (findG ltM d x9 ((false, a, o) :: c9) t9)))), (0, .ref m9), (1, .int (nI i))] := hl
                      refine lv_iload hx hb dX7_put_257 (lv_at hl 0 rfl) ?_
                      refine lv_iconst (v := (-1)) hx hb dX7_put_259 (by decide) ?_
                      refine lv_icmp_eq (tgt := 340) hx hb dX7_put_260 (by decide) (fun y1 => ?_) (fun y1 => ?_)
                      · exact absurd y1 (oI_n (by omega))
                      · refine lv_aload_n hx hb dX7_put_263 rfl (lv_at hl 2 rfl) ?_
                        refine lv_iload hx hb dX7_put_264 (lv_at hl 0 rfl) ?_
                        refine g_asi (show _ = oI (rtI (tN o a I9)) from rfl) ?_
                        refine g_mV (As := [.int (oI (rtI (tN o a I9)))]) (b := m9) (rest := []) hx hb hml hown hts hN hW (m_walkFrom l Γ K F5 H.size m9 B hk hf5 (tN o a I9) (cTI c9) (hfd F5 hfr5 _ _ hXc) (by rw [hz9]; omega)) gX7_put_X7_walkFrom rfl hk.1 (by decide) rfl (na := 1) rfl (by decide +kernel) ⟨by decide, by decide⟩ ⟨Nat.le_of_ble_eq_true rfl, Nat.le_of_ble_eq_true rfl⟩ rfl hl.1 (Nat.le_of_ble_eq_true rfl) dX7_put_266 (fun v K' F6 H locs hp hW hsz' => ?_)
                        obtain ⟨rfl, hK9, _, hfrA⟩ := hp
                        subst K'
                        show W _ _ _ _ _ _ _ _ _ _ _ _ _ _ _ (F0 m 269 ls [.int (nI (tSz (tN o a I9)))])
                        have fr6 : ∀ b i, b ≠ B 17 → b ≠ B 18 → F6 b i = F4 b i := fun b i h1 h2 => (hfrA b i h1 h2).trans (hfr5 b i h1 h2)
                        have hf6 : MKf F6 m9 B := hf4.up (fun j _ => fr6 m9 j (fun z => hk.nm (i := 17) rfl z.symm) (fun z => hk.nm (i := 18) rfl z.symm))
                        refine g_asi (show _ = nI (tSz o + tSz I9 + 1) from by rw [hz9]) ?_
                        refine lv_istore (lv' := [(13, .int (nI (tSz o + tSz I9 + 1))), (12, .int (nI a.1)), (11, .int (oI (rtQ (findG ltM d x9 ((false, a, o) :: c9) t9)))), (0, .ref m9), (1, .int (nI i))]) hx hb dX7_put_269 hl (by decide) rfl (fun ls hl => ?_)
                        refine lv_aload_n hx hb dX7_put_271 rfl (lv_at hl 3 rfl) ?_
                        refine lv_aload_n hx hb dX7_put_272 rfl (lv_at hl 3 rfl) ?_
                        refine g_get (C := RX7) (T := TX7) (N := 31) hx hb hts hi7 hown hN hW.1 hk.1 rfl (by decide) 10 (by decide) hfX7_36 (v := .ref (B 10)) (hf6 10 rfl) dX7_put_273 ?_
                        refine lv_iload hx hb dX7_put_276 (lv_at hl 1 rfl) ?_
                        refine g_iald (j := a.1) hx hb hN hW.1 (hk.2.1 10 (8, 140) rfl) (by decide) (show _ = nI a.1 from rfl) (by omega) (v := .int (oI (rtI o))) ((fr6 _ _ (hk.ne (i := 10) (j := 17) rfl rfl (by decide)) (hk.ne (i := 10) (j := 18) rfl rfl (by decide))).trans hXn.2.2.2.2.2.1) dX7_put_278 ?_
                        refine g_mV (As := [.int (oI (rtI o))]) (b := m9) (rest := []) hx hb hml hown hts hN hW (m_walkFrom l Γ K F6 H.size m9 B hk hf6 o (some a.1) (hfd F6 fr6 _ _ hXc.2.1) (by omega)) gX7_put_X7_walkFrom rfl hk.1 (by decide) rfl (na := 1) rfl (by decide +kernel) ⟨by decide, by decide⟩ ⟨Nat.le_of_ble_eq_true rfl, Nat.le_of_ble_eq_true rfl⟩ rfl hl.1 (Nat.le_of_ble_eq_true rfl) dX7_put_279 (fun v K' F7 H locs hp hW hsz' => ?_)
                        obtain ⟨rfl, hK9, _, hfrB⟩ := hp
                        subst K'
                        show W _ _ _ _ _ _ _ _ _ _ _ _ _ _ _ (F0 m 282 ls [.int (nI (tSz o))])
                        have fr7 : ∀ b i, b ≠ B 17 → b ≠ B 18 → F7 b i = F4 b i := fun b i h1 h2 => (hfrB b i h1 h2).trans (fr6 b i h1 h2)
                        have hf7 : MKf F7 m9 B := hf4.up (fun j _ => fr7 m9 j (fun z => hk.nm (i := 17) rfl z.symm) (fun z => hk.nm (i := 18) rfl z.symm))
                        refine lv_istore (lv' := [(14, .int (nI (tSz o))), (13, .int (nI (tSz o + tSz I9 + 1))), (12, .int (nI a.1)), (11, .int (oI (rtQ (findG ltM d x9 ((false, a, o) :: c9) t9)))), (0, .ref m9), (1, .int (nI i))]) hx hb dX7_put_282 hl (by decide) rfl (fun ls hl => ?_)
                        refine lv_aload_n hx hb dX7_put_284 rfl (lv_at hl 4 rfl) ?_
                        refine lv_aload_n hx hb dX7_put_285 rfl (lv_at hl 4 rfl) ?_
                        refine g_get (C := RX7) (T := TX7) (N := 31) hx hb hts hi7 hown hN hW.1 hk.1 rfl (by decide) 11 (by decide) hfX7_39 (v := .ref (B 11)) (hf7 11 rfl) dX7_put_286 ?_
                        refine lv_iload hx hb dX7_put_289 (lv_at hl 2 rfl) ?_
                        refine g_iald (j := a.1) hx hb hN hW.1 (hk.2.1 11 (8, 140) rfl) (by decide) (show _ = nI a.1 from rfl) (by omega) (v := .int (oI (rtI I9))) ((fr7 _ _ (hk.ne (i := 11) (j := 17) rfl rfl (by decide)) (hk.ne (i := 11) (j := 18) rfl rfl (by decide))).trans hXn.2.2.2.2.2.2.1) dX7_put_291 ?_
                        refine g_mV (As := [.int (oI (rtI I9))]) (b := m9) (rest := []) hx hb hml hown hts hN hW (m_walkFrom l Γ K F7 H.size m9 B hk hf7 I9 (some a.1) (hfd F7 fr7 _ _ hXc.2.2) (by omega)) gX7_put_X7_walkFrom rfl hk.1 (by decide) rfl (na := 1) rfl (by decide +kernel) ⟨by decide, by decide⟩ ⟨Nat.le_of_ble_eq_true rfl, Nat.le_of_ble_eq_true rfl⟩ rfl hl.1 (Nat.le_of_ble_eq_true rfl) dX7_put_292 (fun v K' F8 H locs hp hW hsz' => ?_)
                        obtain ⟨rfl, hK9, _, hfrC⟩ := hp
                        subst K'
                        show W _ _ _ _ _ _ _ _ _ _ _ _ _ _ _ (F0 m 295 ls [.int (nI (tSz I9))])
                        have fr8 : ∀ b i, b ≠ B 17 → b ≠ B 18 → F8 b i = F4 b i := fun b i h1 h2 => (hfrC b i h1 h2).trans (fr7 b i h1 h2)
                        have hf8 : MKf F8 m9 B := hf4.up (fun j _ => fr8 m9 j (fun z => hk.nm (i := 17) rfl z.symm) (fun z => hk.nm (i := 18) rfl z.symm))
                        refine lv_istore (lv' := [(15, .int (nI (tSz I9))), (14, .int (nI (tSz o))), (13, .int (nI (tSz o + tSz I9 + 1))), (12, .int (nI a.1)), (11, .int (oI (rtQ (findG ltM d x9 ((false, a, o) :: c9) t9)))), (0, .ref m9), (1, .int (nI i))]) hx hb dX7_put_295 hl (by decide) rfl (fun ls hl => ?_)
                        refine lv_iconst (v := nI 3) hx hb dX7_put_297 (by decide) ?_
                        refine lv_iload hx hb dX7_put_298 (lv_at hl 1 rfl) ?_
                        refine lv_imul hx hb dX7_put_300 ?_
                        refine g_asi (show _ = nI (3 * (tSz o)) from (pk_mul _ _).trans (by rfl)) ?_
                        refine lv_iconst (v := nI 2) hx hb dX7_put_301 (by decide) ?_
                        refine lv_iload hx hb dX7_put_302 (lv_at hl 2 rfl) ?_
                        refine lv_imul hx hb dX7_put_304 ?_
                        refine g_asi (show _ = nI (2 * (tSz o + tSz I9 + 1)) from (pk_mul _ _).trans (by rfl)) ?_
                        refine lv_icmp_gt (tgt := 319) hx hb dX7_put_305 (by decide) (fun y2 => ?_) (fun y2 => ?_)
                        · have y2 : (2 * (tSz o + tSz I9 + 1)) < (3 * (tSz o)) := (nI_ltI (by omega) (by omega)).mp y2
                          refine lv_iload hx hb dX7_put_319 (lv_at hl 3 rfl) ?_
                          refine lv_goto (tgt := 326) hx hb dX7_put_321 (by decide) ?_
                          refine g_asi (show _ = oI (rtQ (findG ltM d x9 c9 (tN o a t9))) from by rw [hfg, if_pos (show leans o I9 = true from decide_eq_true (by omega))]; rfl) ?_
                          refine lv_istore (lv' := [(11, .int (oI (rtQ (findG ltM d x9 c9 (tN o a t9))))), (15, .int (nI (tSz I9))), (14, .int (nI (tSz o))), (13, .int (nI (tSz o + tSz I9 + 1))), (12, .int (nI a.1)), (0, .ref m9), (1, .int (nI i))]) hx hb dX7_put_326 hl (by decide) rfl (fun ls hl => ?_)
                          refine lv_aload_n hx hb dX7_put_328 rfl (lv_at hl 5 rfl) ?_
                          refine g_get (C := RX7) (T := TX7) (N := 31) hx hb hts hi7 hown hN hW.1 hk.1 rfl (by decide) 12 (by decide) hfX7_42 (v := .ref (B 12)) (hf8 12 rfl) dX7_put_329 ?_
                          refine lv_iload hx hb dX7_put_332 (lv_at hl 4 rfl) ?_
                          refine g_iald (j := a.1) hx hb hN hW.1 (hk.2.1 12 (8, 140) rfl) (by decide) (show _ = nI a.1 from rfl) (by omega) (v := .int (oI (cTI c9))) ((fr8 _ _ (hk.ne (i := 12) (j := 17) rfl rfl (by decide)) (hk.ne (i := 12) (j := 18) rfl rfl (by decide))).trans hXn.2.2.2.2.2.2.2) dX7_put_334 ?_
                          refine lv_istore (lv' := [(12, .int (oI (cTI c9))), (11, .int (oI (rtQ (findG ltM d x9 c9 (tN o a t9))))), (15, .int (nI (tSz I9))), (14, .int (nI (tSz o))), (13, .int (nI (tSz o + tSz I9 + 1))), (0, .ref m9), (1, .int (nI i))]) hx hb dX7_put_335 hl (by decide) rfl (fun ls hl => ?_)
                          refine lv_goto (tgt := 257) hx hb dX7_put_337 (by decide) ?_
                          exact ih (tN o a t9) F8 H locs ls hpl hdq fr8 hW (lv_sub hl [0, 1, 5, 6] rfl)
                        · have y2 : (3 * (tSz o)) ≤ (2 * (tSz o + tSz I9 + 1)) := Nat.not_lt.mp (fun z => y2 ((nI_ltI (by omega) (by omega)).mpr z))
                          refine lv_iconst (v := nI 3) hx hb dX7_put_308 (by decide) ?_
                          refine lv_iload hx hb dX7_put_309 (lv_at hl 0 rfl) ?_
                          refine lv_imul hx hb dX7_put_311 ?_
                          refine g_asi (show _ = nI (3 * (tSz I9)) from (pk_mul _ _).trans (by rfl)) ?_
                          refine lv_iconst (v := nI 2) hx hb dX7_put_312 (by decide) ?_
                          refine lv_iload hx hb dX7_put_313 (lv_at hl 2 rfl) ?_
                          refine lv_imul hx hb dX7_put_315 ?_
                          refine g_asi (show _ = nI (2 * (tSz o + tSz I9 + 1)) from (pk_mul _ _).trans (by rfl)) ?_
                          refine lv_icmp_le (tgt := 324) hx hb dX7_put_316 (by decide) (fun y3 => ?_) (fun y3 => ?_)
                          · have y3 : (3 * (tSz I9)) ≤ (2 * (tSz o + tSz I9 + 1)) := (nI_leI (by omega) (by omega)).mp y3
                            refine lv_iload hx hb dX7_put_324 (lv_at hl 4 rfl) ?_
                            refine g_asi (show _ = oI (rtQ (findG ltM d x9 c9 (tN o a t9))) from by rw [hfg, if_neg (fun z => by have := of_decide_eq_true z; omega)]) ?_
                            refine lv_istore (lv' := [(11, .int (oI (rtQ (findG ltM d x9 c9 (tN o a t9))))), (15, .int (nI (tSz I9))), (14, .int (nI (tSz o))), (13, .int (nI (tSz o + tSz I9 + 1))), (12, .int (nI a.1)), (0, .ref m9), (1, .int (nI i))]) hx hb dX7_put_326 hl (by decide) rfl (fun ls hl => ?_)
                            refine lv_aload_n hx hb dX7_put_328 rfl (lv_at hl 5 rfl) ?_
                            refine g_get (C := RX7) (T := TX7) (N := 31) hx hb hts hi7 hown hN hW.1 hk.1 rfl (by decide) 12 (by decide) hfX7_42 (v := .ref (B 12)) (hf8 12 rfl) dX7_put_329 ?_
                            refine lv_iload hx hb dX7_put_332 (lv_at hl 4 rfl) ?_
                            refine g_iald (j := a.1) hx hb hN hW.1 (hk.2.1 12 (8, 140) rfl) (by decide) (show _ = nI a.1 from rfl) (by omega) (v := .int (oI (cTI c9))) ((fr8 _ _ (hk.ne (i := 12) (j := 17) rfl rfl (by decide)) (hk.ne (i := 12) (j := 18) rfl rfl (by decide))).trans hXn.2.2.2.2.2.2.2) dX7_put_334 ?_
                            refine lv_istore (lv' := [(12, .int (oI (cTI c9))), (11, .int (oI (rtQ (findG ltM d x9 c9 (tN o a t9))))), (15, .int (nI (tSz I9))), (14, .int (nI (tSz o))), (13, .int (nI (tSz o + tSz I9 + 1))), (0, .ref m9), (1, .int (nI i))]) hx hb dX7_put_335 hl (by decide) rfl (fun ls hl => ?_)
                            refine lv_goto (tgt := 257) hx hb dX7_put_337 (by decide) ?_
                            exact ih (tN o a t9) F8 H locs ls hpl hdq fr8 hW (lv_sub hl [0, 1, 5, 6] rfl)
                          · have y3 : (2 * (tSz o + tSz I9 + 1)) < (3 * (tSz I9)) := Nat.not_le.mp (fun z => y3 ((nI_leI (by omega) (by omega)).mpr z))
                            refine lv_iload hx hb dX7_put_319 (lv_at hl 3 rfl) ?_
                            refine lv_goto (tgt := 326) hx hb dX7_put_321 (by decide) ?_
                            refine g_asi (show _ = oI (rtQ (findG ltM d x9 c9 (tN o a t9))) from by rw [hfg, if_pos (show leans o I9 = true from decide_eq_true (by omega))]; rfl) ?_
                            refine lv_istore (lv' := [(11, .int (oI (rtQ (findG ltM d x9 c9 (tN o a t9))))), (15, .int (nI (tSz I9))), (14, .int (nI (tSz o))), (13, .int (nI (tSz o + tSz I9 + 1))), (12, .int (nI a.1)), (0, .ref m9), (1, .int (nI i))]) hx hb dX7_put_326 hl (by decide) rfl (fun ls hl => ?_)
                            refine lv_aload_n hx hb dX7_put_328 rfl (lv_at hl 5 rfl) ?_
                            refine g_get (C := RX7) (T := TX7) (N := 31) hx hb hts hi7 hown hN hW.1 hk.1 rfl (by decide) 12 (by decide) hfX7_42 (v := .ref (B 12)) (hf8 12 rfl) dX7_put_329 ?_
                            refine lv_iload hx hb dX7_put_332 (lv_at hl 4 rfl) ?_
                            refine g_iald (j := a.1) hx hb hN hW.1 (hk.2.1 12 (8, 140) rfl) (by decide) (show _ = nI a.1 from rfl) (by omega) (v := .int (oI (cTI c9))) ((fr8 _ _ (hk.ne (i := 12) (j := 17) rfl rfl (by decide)) (hk.ne (i := 12) (j := 18) rfl rfl (by decide))).trans hXn.2.2.2.2.2.2.2) dX7_put_334 ?_
                            refine lv_istore (lv' := [(12, .int (oI (cTI c9))), (11, .int (oI (rtQ (findG ltM d x9 c9 (tN o a t9))))), (15, .int (nI (tSz I9))), (14, .int (nI (tSz o))), (13, .int (nI (tSz o + tSz I9 + 1))), (0, .ref m9), (1, .int (nI i))]) hx hb dX7_put_335 hl (by decide) rfl (fun ls hl => ?_)
                            refine lv_goto (tgt := 257) hx hb dX7_put_337 (by decide) ?_
                            exact ih (tN o a t9) F8 H locs ls hpl hdq fr8 hW (lv_sub hl [0, 1, 5, 6] rfl)
                    | true =>
                      have hXc : RX F4 B (tN I9 a o) (cTI c9) := hXc
                      have hszT : tSz tr + 1 = tSz (tN I9 a o) + (cAd c9).length := hszT
                      have hz9 : tSz (tN I9 a o) = tSz I9 + tSz o + 1 := rfl
                      rw [hz9] at hszT
                      have hXn := hXc.1
                      have ha140 := hXn.1
                      have hfg : findG ltM d x9 c9 (tN t9 a o) = if leans I9 o then some (c9, (tN I9 a o)) else findG ltM d x9 ((true, a, o) :: c9) t9 := by
                        rw [hI9]
                        show (if ltM (c9.length % d) x9 a then _ else _) = _
                        rw [if_pos hbq.symm]
                      have hl : lv_has ls 16 [(12, .int (nI a.1)), (11, .int (oI (rtQ (findG ltM d x9 ((true, a, o) :: c9) t9)))), (0, .ref m9), (1, .int (nI i))] := hl
                      refine lv_iload hx hb dX7_put_257 (lv_at hl 0 rfl) ?_
                      refine lv_iconst (v := (-1)) hx hb dX7_put_259 (by decide) ?_
                      refine lv_icmp_eq (tgt := 340) hx hb dX7_put_260 (by decide) (fun y1 => ?_) (fun y1 => ?_)
                      · exact absurd y1 (oI_n (by omega))
                      · refine lv_aload_n hx hb dX7_put_263 rfl (lv_at hl 2 rfl) ?_
                        refine lv_iload hx hb dX7_put_264 (lv_at hl 0 rfl) ?_
                        refine g_asi (show _ = oI (rtI (tN I9 a o)) from rfl) ?_
                        refine g_mV (As := [.int (oI (rtI (tN I9 a o)))]) (b := m9) (rest := []) hx hb hml hown hts hN hW (m_walkFrom l Γ K F5 H.size m9 B hk hf5 (tN I9 a o) (cTI c9) (hfd F5 hfr5 _ _ hXc) (by rw [hz9]; omega)) gX7_put_X7_walkFrom rfl hk.1 (by decide) rfl (na := 1) rfl (by decide +kernel) ⟨by decide, by decide⟩ ⟨Nat.le_of_ble_eq_true rfl, Nat.le_of_ble_eq_true rfl⟩ rfl hl.1 (Nat.le_of_ble_eq_true rfl) dX7_put_266 (fun v K' F6 H locs hp hW hsz' => ?_)
                        obtain ⟨rfl, hK9, _, hfrA⟩ := hp
                        subst K'
                        show W _ _ _ _ _ _ _ _ _ _ _ _ _ _ _ (F0 m 269 ls [.int (nI (tSz (tN I9 a o)))])
                        have fr6 : ∀ b i, b ≠ B 17 → b ≠ B 18 → F6 b i = F4 b i := fun b i h1 h2 => (hfrA b i h1 h2).trans (hfr5 b i h1 h2)
                        have hf6 : MKf F6 m9 B := hf4.up (fun j _ => fr6 m9 j (fun z => hk.nm (i := 17) rfl z.symm) (fun z => hk.nm (i := 18) rfl z.symm))
                        refine g_asi (show _ = nI (tSz I9 + tSz o + 1) from by rw [hz9]) ?_
                        refine lv_istore (lv' := [(13, .int (nI (tSz I9 + tSz o + 1))), (12, .int (nI a.1)), (11, .int (oI (rtQ (findG ltM d x9 ((true, a, o) :: c9) t9)))), (0, .ref m9), (1, .int (nI i))]) hx hb dX7_put_269 hl (by decide) rfl (fun ls hl => ?_)
                        refine lv_aload_n hx hb dX7_put_271 rfl (lv_at hl 3 rfl) ?_
                        refine lv_aload_n hx hb dX7_put_272 rfl (lv_at hl 3 rfl) ?_
                        refine g_get (C := RX7) (T := TX7) (N := 31) hx hb hts hi7 hown hN hW.1 hk.1 rfl (by decide) 10 (by decide) hfX7_36 (v := .ref (B 10)) (hf6 10 rfl) dX7_put_273 ?_
                        refine lv_iload hx hb dX7_put_276 (lv_at hl 1 rfl) ?_
                        refine g_iald (j := a.1) hx hb hN hW.1 (hk.2.1 10 (8, 140) rfl) (by decide) (show _ = nI a.1 from rfl) (by omega) (v := .int (oI (rtI I9))) ((fr6 _ _ (hk.ne (i := 10) (j := 17) rfl rfl (by decide)) (hk.ne (i := 10) (j := 18) rfl rfl (by decide))).trans hXn.2.2.2.2.2.1) dX7_put_278 ?_
                        refine g_mV (As := [.int (oI (rtI I9))]) (b := m9) (rest := []) hx hb hml hown hts hN hW (m_walkFrom l Γ K F6 H.size m9 B hk hf6 I9 (some a.1) (hfd F6 fr6 _ _ hXc.2.1) (by omega)) gX7_put_X7_walkFrom rfl hk.1 (by decide) rfl (na := 1) rfl (by decide +kernel) ⟨by decide, by decide⟩ ⟨Nat.le_of_ble_eq_true rfl, Nat.le_of_ble_eq_true rfl⟩ rfl hl.1 (Nat.le_of_ble_eq_true rfl) dX7_put_279 (fun v K' F7 H locs hp hW hsz' => ?_)
                        obtain ⟨rfl, hK9, _, hfrB⟩ := hp
                        subst K'
                        show W _ _ _ _ _ _ _ _ _ _ _ _ _ _ _ (F0 m 282 ls [.int (nI (tSz I9))])
                        have fr7 : ∀ b i, b ≠ B 17 → b ≠ B 18 → F7 b i = F4 b i := fun b i h1 h2 => (hfrB b i h1 h2).trans (fr6 b i h1 h2)
                        have hf7 : MKf F7 m9 B := hf4.up (fun j _ => fr7 m9 j (fun z => hk.nm (i := 17) rfl z.symm) (fun z => hk.nm (i := 18) rfl z.symm))
                        refine lv_istore (lv' := [(14, .int (nI (tSz I9))), (13, .int (nI (tSz I9 + tSz o + 1))), (12, .int (nI a.1)), (11, .int (oI (rtQ (findG ltM d x9 ((true, a, o) :: c9) t9)))), (0, .ref m9), (1, .int (nI i))]) hx hb dX7_put_282 hl (by decide) rfl (fun ls hl => ?_)
                        refine lv_aload_n hx hb dX7_put_284 rfl (lv_at hl 4 rfl) ?_
                        refine lv_aload_n hx hb dX7_put_285 rfl (lv_at hl 4 rfl) ?_
                        refine g_get (C := RX7) (T := TX7) (N := 31) hx hb hts hi7 hown hN hW.1 hk.1 rfl (by decide) 11 (by decide) hfX7_39 (v := .ref (B 11)) (hf7 11 rfl) dX7_put_286 ?_
                        refine lv_iload hx hb dX7_put_289 (lv_at hl 2 rfl) ?_
                        refine g_iald (j := a.1) hx hb hN hW.1 (hk.2.1 11 (8, 140) rfl) (by decide) (show _ = nI a.1 from rfl) (by omega) (v := .int (oI (rtI o))) ((fr7 _ _ (hk.ne (i := 11) (j := 17) rfl rfl (by decide)) (hk.ne (i := 11) (j := 18) rfl rfl (by decide))).trans hXn.2.2.2.2.2.2.1) dX7_put_291 ?_
                        refine g_mV (As := [.int (oI (rtI o))]) (b := m9) (rest := []) hx hb hml hown hts hN hW (m_walkFrom l Γ K F7 H.size m9 B hk hf7 o (some a.1) (hfd F7 fr7 _ _ hXc.2.2) (by omega)) gX7_put_X7_walkFrom rfl hk.1 (by decide) rfl (na := 1) rfl (by decide +kernel) ⟨by decide, by decide⟩ ⟨Nat.le_of_ble_eq_true rfl, Nat.le_of_ble_eq_true rfl⟩ rfl hl.1 (Nat.le_of_ble_eq_true rfl) dX7_put_292 (fun v K' F8 H locs hp hW hsz' => ?_)
                        obtain ⟨rfl, hK9, _, hfrC⟩ := hp
                        subst K'
                        show W _ _ _ _ _ _ _ _ _ _ _ _ _ _ _ (F0 m 295 ls [.int (nI (tSz o))])
                        have fr8 : ∀ b i, b ≠ B 17 → b ≠ B 18 → F8 b i = F4 b i := fun b i h1 h2 => (hfrC b i h1 h2).trans (fr7 b i h1 h2)
                        have hf8 : MKf F8 m9 B := hf4.up (fun j _ => fr8 m9 j (fun z => hk.nm (i := 17) rfl z.symm) (fun z => hk.nm (i := 18) rfl z.symm))
                        refine lv_istore (lv' := [(15, .int (nI (tSz o))), (14, .int (nI (tSz I9))), (13, .int (nI (tSz I9 + tSz o + 1))), (12, .int (nI a.1)), (11, .int (oI (rtQ (findG ltM d x9 ((true, a, o) :: c9) t9)))), (0, .ref m9), (1, .int (nI i))]) hx hb dX7_put_295 hl (by decide) rfl (fun ls hl => ?_)
                        refine lv_iconst (v := nI 3) hx hb dX7_put_297 (by decide) ?_
                        refine lv_iload hx hb dX7_put_298 (lv_at hl 1 rfl) ?_
                        refine lv_imul hx hb dX7_put_300 ?_
                        refine g_asi (show _ = nI (3 * (tSz I9)) from (pk_mul _ _).trans (by rfl)) ?_
                        refine lv_iconst (v := nI 2) hx hb dX7_put_301 (by decide) ?_
                        refine lv_iload hx hb dX7_put_302 (lv_at hl 2 rfl) ?_
                        refine lv_imul hx hb dX7_put_304 ?_
                        refine g_asi (show _ = nI (2 * (tSz I9 + tSz o + 1)) from (pk_mul _ _).trans (by rfl)) ?_
                        refine lv_icmp_gt (tgt := 319) hx hb dX7_put_305 (by decide) (fun y2 => ?_) (fun y2 => ?_)
                        · have y2 : (2 * (tSz I9 + tSz o + 1)) < (3 * (tSz I9)) := (nI_ltI (by omega) (by omega)).mp y2
                          refine lv_iload hx hb dX7_put_319 (lv_at hl 3 rfl) ?_
                          refine lv_goto (tgt := 326) hx hb dX7_put_321 (by decide) ?_
                          refine g_asi (show _ = oI (rtQ (findG ltM d x9 c9 (tN t9 a o))) from by rw [hfg, if_pos (show leans I9 o = true from decide_eq_true (by omega))]; rfl) ?_
                          refine lv_istore (lv' := [(11, .int (oI (rtQ (findG ltM d x9 c9 (tN t9 a o))))), (15, .int (nI (tSz o))), (14, .int (nI (tSz I9))), (13, .int (nI (tSz I9 + tSz o + 1))), (12, .int (nI a.1)), (0, .ref m9), (1, .int (nI i))]) hx hb dX7_put_326 hl (by decide) rfl (fun ls hl => ?_)
                          refine lv_aload_n hx hb dX7_put_328 rfl (lv_at hl 5 rfl) ?_
                          refine g_get (C := RX7) (T := TX7) (N := 31) hx hb hts hi7 hown hN hW.1 hk.1 rfl (by decide) 12 (by decide) hfX7_42 (v := .ref (B 12)) (hf8 12 rfl) dX7_put_329 ?_
                          refine lv_iload hx hb dX7_put_332 (lv_at hl 4 rfl) ?_
                          refine g_iald (j := a.1) hx hb hN hW.1 (hk.2.1 12 (8, 140) rfl) (by decide) (show _ = nI a.1 from rfl) (by omega) (v := .int (oI (cTI c9))) ((fr8 _ _ (hk.ne (i := 12) (j := 17) rfl rfl (by decide)) (hk.ne (i := 12) (j := 18) rfl rfl (by decide))).trans hXn.2.2.2.2.2.2.2) dX7_put_334 ?_
                          refine lv_istore (lv' := [(12, .int (oI (cTI c9))), (11, .int (oI (rtQ (findG ltM d x9 c9 (tN t9 a o))))), (15, .int (nI (tSz o))), (14, .int (nI (tSz I9))), (13, .int (nI (tSz I9 + tSz o + 1))), (0, .ref m9), (1, .int (nI i))]) hx hb dX7_put_335 hl (by decide) rfl (fun ls hl => ?_)
                          refine lv_goto (tgt := 257) hx hb dX7_put_337 (by decide) ?_
                          exact ih (tN t9 a o) F8 H locs ls hpl hdq fr8 hW (lv_sub hl [0, 1, 5, 6] rfl)
                        · have y2 : (3 * (tSz I9)) ≤ (2 * (tSz I9 + tSz o + 1)) := Nat.not_lt.mp (fun z => y2 ((nI_ltI (by omega) (by omega)).mpr z))
                          refine lv_iconst (v := nI 3) hx hb dX7_put_308 (by decide) ?_
                          refine lv_iload hx hb dX7_put_309 (lv_at hl 0 rfl) ?_
                          refine lv_imul hx hb dX7_put_311 ?_
                          refine g_asi (show _ = nI (3 * (tSz o)) from (pk_mul _ _).trans (by rfl)) ?_
                          refine lv_iconst (v := nI 2) hx hb dX7_put_312 (by decide) ?_
                          refine lv_iload hx hb dX7_put_313 (lv_at hl 2 rfl) ?_
                          refine lv_imul hx hb dX7_put_315 ?_
                          refine g_asi (show _ = nI (2 * (tSz I9 + tSz o + 1)) from (pk_mul _ _).trans (by rfl)) ?_
                          refine lv_icmp_le (tgt := 324) hx hb dX7_put_316 (by decide) (fun y3 => ?_) (fun y3 => ?_)
                          · have y3 : (3 * (tSz o)) ≤ (2 * (tSz I9 + tSz o + 1)) := (nI_leI (by omega) (by omega)).mp y3
                            refine lv_iload hx hb dX7_put_324 (lv_at hl 4 rfl) ?_
                            refine g_asi (show _ = oI (rtQ (findG ltM d x9 c9 (tN t9 a o))) from by rw [hfg, if_neg (fun z => by have := of_decide_eq_true z; omega)]) ?_
                            refine lv_istore (lv' := [(11, .int (oI (rtQ (findG ltM d x9 c9 (tN t9 a o))))), (15, .int (nI (tSz o))), (14, .int (nI (tSz I9))), (13, .int (nI (tSz I9 + tSz o + 1))), (12, .int (nI a.1)), (0, .ref m9), (1, .int (nI i))]) hx hb dX7_put_326 hl (by decide) rfl (fun ls hl => ?_)
                            refine lv_aload_n hx hb dX7_put_328 rfl (lv_at hl 5 rfl) ?_
                            refine g_get (C := RX7) (T := TX7) (N := 31) hx hb hts hi7 hown hN hW.1 hk.1 rfl (by decide) 12 (by decide) hfX7_42 (v := .ref (B 12)) (hf8 12 rfl) dX7_put_329 ?_
                            refine lv_iload hx hb dX7_put_332 (lv_at hl 4 rfl) ?_
                            refine g_iald (j := a.1) hx hb hN hW.1 (hk.2.1 12 (8, 140) rfl) (by decide) (show _ = nI a.1 from rfl) (by omega) (v := .int (oI (cTI c9))) ((fr8 _ _ (hk.ne (i := 12) (j := 17) rfl rfl (by decide)) (hk.ne (i := 12) (j := 18) rfl rfl (by decide))).trans hXn.2.2.2.2.2.2.2) dX7_put_334 ?_
                            refine lv_istore (lv' := [(12, .int (oI (cTI c9))), (11, .int (oI (rtQ (findG ltM d x9 c9 (tN t9 a o))))), (15, .int (nI (tSz o))), (14, .int (nI (tSz I9))), (13, .int (nI (tSz I9 + tSz o + 1))), (0, .ref m9), (1, .int (nI i))]) hx hb dX7_put_335 hl (by decide) rfl (fun ls hl => ?_)
                            refine lv_goto (tgt := 257) hx hb dX7_put_337 (by decide) ?_
                            exact ih (tN t9 a o) F8 H locs ls hpl hdq fr8 hW (lv_sub hl [0, 1, 5, 6] rfl)
                          · have y3 : (2 * (tSz I9 + tSz o + 1)) < (3 * (tSz o)) := Nat.not_le.mp (fun z => y3 ((nI_leI (by omega) (by omega)).mpr z))
                            refine lv_iload hx hb dX7_put_319 (lv_at hl 3 rfl) ?_
                            refine lv_goto (tgt := 326) hx hb dX7_put_321 (by decide) ?_
                            refine g_asi (show _ = oI (rtQ (findG ltM d x9 c9 (tN t9 a o))) from by rw [hfg, if_pos (show leans I9 o = true from decide_eq_true (by omega))]; rfl) ?_
                            refine lv_istore (lv' := [(11, .int (oI (rtQ (findG ltM d x9 c9 (tN t9 a o))))), (15, .int (nI (tSz o))), (14, .int (nI (tSz I9))), (13, .int (nI (tSz I9 + tSz o + 1))), (12, .int (nI a.1)), (0, .ref m9), (1, .int (nI i))]) hx hb dX7_put_326 hl (by decide) rfl (fun ls hl => ?_)
                            refine lv_aload_n hx hb dX7_put_328 rfl (lv_at hl 5 rfl) ?_
                            refine g_get (C := RX7) (T := TX7) (N := 31) hx hb hts hi7 hown hN hW.1 hk.1 rfl (by decide) 12 (by decide) hfX7_42 (v := .ref (B 12)) (hf8 12 rfl) dX7_put_329 ?_
                            refine lv_iload hx hb dX7_put_332 (lv_at hl 4 rfl) ?_
                            refine g_iald (j := a.1) hx hb hN hW.1 (hk.2.1 12 (8, 140) rfl) (by decide) (show _ = nI a.1 from rfl) (by omega) (v := .int (oI (cTI c9))) ((fr8 _ _ (hk.ne (i := 12) (j := 17) rfl rfl (by decide)) (hk.ne (i := 12) (j := 18) rfl rfl (by decide))).trans hXn.2.2.2.2.2.2.2) dX7_put_334 ?_
                            refine lv_istore (lv' := [(12, .int (oI (cTI c9))), (11, .int (oI (rtQ (findG ltM d x9 c9 (tN t9 a o))))), (15, .int (nI (tSz o))), (14, .int (nI (tSz I9))), (13, .int (nI (tSz I9 + tSz o + 1))), (0, .ref m9), (1, .int (nI i))]) hx hb dX7_put_335 hl (by decide) rfl (fun ls hl => ?_)
                            refine lv_goto (tgt := 257) hx hb dX7_put_337 (by decide) ?_
                            exact ih (tN t9 a o) F8 H locs ls hpl hdq fr8 hW (lv_sub hl [0, 1, 5, 6] rfl)
                have hXs : RX F4 B (tN tL x9 tL) (cTI cx) := by rw [hx9]; exact ⟨hX4, trivial, trivial⟩
                have hn9o : nI n9 = oI (rtI (tN tL x9 tL)) := by rw [hx9]; rfl
                refine lv_iconst (v := (-1)) hx hb dX7_put_250 (by decide) ?_
                refine lv_istore (lv' := [(11, .int (-1)), (10, .int (nI n9)), (8, .int (bI (sdB cx))), (7, .int (oI (cTI cx))), (0, .ref m9), (1, .int (nI i))]) hx hb dX7_put_251 hl (by decide) rfl (fun ls hl => ?_)
                refine lv_iload hx hb dX7_put_253 (lv_at hl 1 rfl) ?_
                refine lv_istore (lv' := [(12, .int (nI n9)), (11, .int (-1)), (10, .int (nI n9)), (8, .int (bI (sdB cx))), (7, .int (oI (cTI cx))), (0, .ref m9), (1, .int (nI i))]) hx hb dX7_put_255 hl (by decide) rfl (fun ls hl => ?_)
                refine lv_iload hx hb dX7_put_257 (lv_at hl 0 rfl) ?_
                refine lv_iconst (v := (-1)) hx hb dX7_put_259 (by decide) ?_
                refine lv_icmp_eq (tgt := 340) hx hb dX7_put_260 (by decide) (fun y1 => ?_) (fun y1 => ?_)
                · exact absurd y1 (oI_n (by omega))
                · refine lv_aload_n hx hb dX7_put_263 rfl (lv_at hl 5 rfl) ?_
                  refine lv_iload hx hb dX7_put_264 (lv_at hl 0 rfl) ?_
                  refine g_asi (show _ = oI (rtI (tN tL x9 tL)) from hn9o) ?_
                  refine g_mV (As := [.int (oI (rtI (tN tL x9 tL)))]) (b := m9) (rest := []) hx hb hml hown hts hN hW (m_walkFrom l Γ K F4 H.size m9 B hk hf4 (tN tL x9 tL) (cTI cx) hXs (Nat.le_of_ble_eq_true rfl)) gX7_put_X7_walkFrom rfl hk.1 (by decide) rfl (na := 1) rfl (by decide +kernel) ⟨by decide, by decide⟩ ⟨Nat.le_of_ble_eq_true rfl, Nat.le_of_ble_eq_true rfl⟩ rfl hl.1 (Nat.le_of_ble_eq_true rfl) dX7_put_266 (fun v K' F5 H locs hp hW hsz' => ?_)
                  obtain ⟨rfl, hK9, _, hfrA⟩ := hp
                  subst K'
                  show W _ _ _ _ _ _ _ _ _ _ _ _ _ _ _ (F0 m 269 ls [.int (nI (tSz (tN tL x9 tL)))])
                  have hf5 : MKf F5 m9 B := hf4.up (fun j _ => hfrA m9 j (fun z => hk.nm (i := 17) rfl z.symm) (fun z => hk.nm (i := 18) rfl z.symm))
                  have k5 : ∀ j, (mKd j).isSome = true → j ≠ 17 → j ≠ 18 → ∀ i, F5 (B j) i = F4 (B j) i := fun j h1 h2 h3 i => hfrA _ i (hk.ne h1 rfl h2) (hk.ne h1 rfl h3)
                  refine g_asi (show _ = nI 1 from rfl) ?_
                  refine lv_istore (lv' := [(13, .int (nI 1)), (12, .int (nI n9)), (11, .int (-1)), (10, .int (nI n9)), (8, .int (bI (sdB cx))), (7, .int (oI (cTI cx))), (0, .ref m9), (1, .int (nI i))]) hx hb dX7_put_269 hl (by decide) rfl (fun ls hl => ?_)
                  refine lv_aload_n hx hb dX7_put_271 rfl (lv_at hl 6 rfl) ?_
                  refine lv_aload_n hx hb dX7_put_272 rfl (lv_at hl 6 rfl) ?_
                  refine g_get (C := RX7) (T := TX7) (N := 31) hx hb hts hi7 hown hN hW.1 hk.1 rfl (by decide) 10 (by decide) hfX7_36 (v := .ref (B 10)) (hf5 10 rfl) dX7_put_273 ?_
                  refine lv_iload hx hb dX7_put_276 (lv_at hl 1 rfl) ?_
                  refine g_iald (j := n9) hx hb hN hW.1 (hk.2.1 10 (8, 140) rfl) (by decide) (show _ = nI n9 from rfl) (by omega) (v := .int (oI (rtI (tL : TT mLb)))) ((k5 10 rfl (by decide) (by decide) n9).trans hX4.2.2.2.2.2.1) dX7_put_278 ?_
                  refine g_mV (As := [.int (oI (rtI (tL : TT mLb)))]) (b := m9) (rest := []) hx hb hml hown hts hN hW (m_walkFrom l Γ K F5 H.size m9 B hk hf5 (tL : TT mLb) none trivial (by decide)) gX7_put_X7_walkFrom rfl hk.1 (by decide) rfl (na := 1) rfl (by decide +kernel) ⟨by decide, by decide⟩ ⟨Nat.le_of_ble_eq_true rfl, Nat.le_of_ble_eq_true rfl⟩ rfl hl.1 (Nat.le_of_ble_eq_true rfl) dX7_put_279 (fun v K' F6 H locs hp hW hsz' => ?_)
                  obtain ⟨rfl, hK9, _, hfrB⟩ := hp
                  subst K'
                  show W _ _ _ _ _ _ _ _ _ _ _ _ _ _ _ (F0 m 282 ls [.int (nI (tSz (tL : TT mLb)))])
                  have hf6 : MKf F6 m9 B := hf5.up (fun j _ => hfrB m9 j (fun z => hk.nm (i := 17) rfl z.symm) (fun z => hk.nm (i := 18) rfl z.symm))
                  have k6 : ∀ j, (mKd j).isSome = true → j ≠ 17 → j ≠ 18 → ∀ i, F6 (B j) i = F4 (B j) i := fun j h1 h2 h3 i => (hfrB _ i (hk.ne h1 rfl h2) (hk.ne h1 rfl h3)).trans (k5 j h1 h2 h3 i)
                  refine g_asi (show _ = nI 0 from rfl) ?_
                  refine lv_istore (lv' := [(14, .int (nI 0)), (13, .int (nI 1)), (12, .int (nI n9)), (11, .int (-1)), (10, .int (nI n9)), (8, .int (bI (sdB cx))), (7, .int (oI (cTI cx))), (0, .ref m9), (1, .int (nI i))]) hx hb dX7_put_282 hl (by decide) rfl (fun ls hl => ?_)
                  refine lv_aload_n hx hb dX7_put_284 rfl (lv_at hl 7 rfl) ?_
                  refine lv_aload_n hx hb dX7_put_285 rfl (lv_at hl 7 rfl) ?_
                  refine g_get (C := RX7) (T := TX7) (N := 31) hx hb hts hi7 hown hN hW.1 hk.1 rfl (by decide) 11 (by decide) hfX7_39 (v := .ref (B 11)) (hf6 11 rfl) dX7_put_286 ?_
                  refine lv_iload hx hb dX7_put_289 (lv_at hl 2 rfl) ?_
                  refine g_iald (j := n9) hx hb hN hW.1 (hk.2.1 11 (8, 140) rfl) (by decide) (show _ = nI n9 from rfl) (by omega) (v := .int (oI (rtI (tL : TT mLb)))) ((k6 11 rfl (by decide) (by decide) n9).trans hX4.2.2.2.2.2.2.1) dX7_put_291 ?_
                  refine g_mV (As := [.int (oI (rtI (tL : TT mLb)))]) (b := m9) (rest := []) hx hb hml hown hts hN hW (m_walkFrom l Γ K F6 H.size m9 B hk hf6 (tL : TT mLb) none trivial (by decide)) gX7_put_X7_walkFrom rfl hk.1 (by decide) rfl (na := 1) rfl (by decide +kernel) ⟨by decide, by decide⟩ ⟨Nat.le_of_ble_eq_true rfl, Nat.le_of_ble_eq_true rfl⟩ rfl hl.1 (Nat.le_of_ble_eq_true rfl) dX7_put_292 (fun v K' F7 H locs hp hW hsz' => ?_)
                  obtain ⟨rfl, hK9, _, hfrC⟩ := hp
                  subst K'
                  show W _ _ _ _ _ _ _ _ _ _ _ _ _ _ _ (F0 m 295 ls [.int (nI (tSz (tL : TT mLb)))])
                  have hf7 : MKf F7 m9 B := hf6.up (fun j _ => hfrC m9 j (fun z => hk.nm (i := 17) rfl z.symm) (fun z => hk.nm (i := 18) rfl z.symm))
                  have k7 : ∀ j, (mKd j).isSome = true → j ≠ 17 → j ≠ 18 → ∀ i, F7 (B j) i = F4 (B j) i := fun j h1 h2 h3 i => (hfrC _ i (hk.ne h1 rfl h2) (hk.ne h1 rfl h3)).trans (k6 j h1 h2 h3 i)
                  refine g_asi (show _ = nI 0 from rfl) ?_
                  refine lv_istore (lv' := [(15, .int (nI 0)), (14, .int (nI 0)), (13, .int (nI 1)), (12, .int (nI n9)), (11, .int (-1)), (10, .int (nI n9)), (8, .int (bI (sdB cx))), (7, .int (oI (cTI cx))), (0, .ref m9), (1, .int (nI i))]) hx hb dX7_put_295 hl (by decide) rfl (fun ls hl => ?_)
                  refine lv_iconst (v := nI 3) hx hb dX7_put_297 (by decide) ?_
                  refine lv_iload hx hb dX7_put_298 (lv_at hl 1 rfl) ?_
                  refine lv_imul hx hb dX7_put_300 ?_
                  refine g_asi (show _ = nI 0 from (pk_mul _ _).trans (by rfl)) ?_
                  refine lv_iconst (v := nI 2) hx hb dX7_put_301 (by decide) ?_
                  refine lv_iload hx hb dX7_put_302 (lv_at hl 2 rfl) ?_
                  refine lv_imul hx hb dX7_put_304 ?_
                  refine g_asi (show _ = nI 2 from (pk_mul _ _).trans (by rfl)) ?_
                  refine lv_icmp_gt (tgt := 319) hx hb dX7_put_305 (by decide) (fun y2 => ?_) (fun y2 => ?_)
                  · exact absurd y2 (by decide)
                  · refine lv_iconst (v := nI 3) hx hb dX7_put_308 (by decide) ?_
                    refine lv_iload hx hb dX7_put_309 (lv_at hl 0 rfl) ?_
                    refine lv_imul hx hb dX7_put_311 ?_
                    refine g_asi (show _ = nI 0 from (pk_mul _ _).trans (by rfl)) ?_
                    refine lv_iconst (v := nI 2) hx hb dX7_put_312 (by decide) ?_
                    refine lv_iload hx hb dX7_put_313 (lv_at hl 2 rfl) ?_
                    refine lv_imul hx hb dX7_put_315 ?_
                    refine g_asi (show _ = nI 2 from (pk_mul _ _).trans (by rfl)) ?_
                    refine lv_icmp_le (tgt := 324) hx hb dX7_put_316 (by decide) (fun y3 => ?_) (fun y3 => ?_)
                    · refine lv_iload hx hb dX7_put_324 (lv_at hl 4 rfl) ?_
                      refine g_asi (show _ = oI (rtQ (findG ltM d x9 cx (tL : TT mLb))) from rfl) ?_
                      refine lv_istore (lv' := [(11, .int (oI (rtQ (findG ltM d x9 cx (tL : TT mLb))))), (15, .int (nI 0)), (14, .int (nI 0)), (13, .int (nI 1)), (12, .int (nI n9)), (10, .int (nI n9)), (8, .int (bI (sdB cx))), (7, .int (oI (cTI cx))), (0, .ref m9), (1, .int (nI i))]) hx hb dX7_put_326 hl (by decide) rfl (fun ls hl => ?_)
                      refine lv_aload_n hx hb dX7_put_328 rfl (lv_at hl 8 rfl) ?_
                      refine g_get (C := RX7) (T := TX7) (N := 31) hx hb hts hi7 hown hN hW.1 hk.1 rfl (by decide) 12 (by decide) hfX7_42 (v := .ref (B 12)) (hf7 12 rfl) dX7_put_329 ?_
                      refine lv_iload hx hb dX7_put_332 (lv_at hl 4 rfl) ?_
                      refine g_iald (j := n9) hx hb hN hW.1 (hk.2.1 12 (8, 140) rfl) (by decide) (show _ = nI n9 from rfl) (by omega) (v := .int (oI (cTI cx))) ((k7 12 rfl (by decide) (by decide) n9).trans hX4.2.2.2.2.2.2.2) dX7_put_334 ?_
                      refine lv_istore (lv' := [(12, .int (oI (cTI cx))), (11, .int (oI (rtQ (findG ltM d x9 cx (tL : TT mLb))))), (15, .int (nI 0)), (14, .int (nI 0)), (13, .int (nI 1)), (10, .int (nI n9)), (8, .int (bI (sdB cx))), (7, .int (oI (cTI cx))), (0, .ref m9), (1, .int (nI i))]) hx hb dX7_put_335 hl (by decide) rfl (fun ls hl => ?_)
                      refine lv_goto (tgt := 257) hx hb dX7_put_337 (by decide) ?_
                      exact asc cx tL F7 H locs ls hcx hdpl (fun b i h1 h2 => (hfrC b i h1 h2).trans ((hfrB b i h1 h2).trans (hfrA b i h1 h2))) hW (lv_sub hl [0, 1, 8, 9] rfl)
                    · exact absurd (by decide) y3
              have desc : ∀ (t9 : TT mLb) (cx : cxT mLb) (ls : Array Slot), tMap (fun y => y) t9 = t9 → plug cx t9 = tr → DP (fun ax (z : mLb) => pLess ax (i, pt) z.2.1) d cx → lv_has ls 16 [(9, .int (nI (cx.length % d))), (8, .int (bI (sdB cx))), (7, .int (oI (cTI cx))), (6, .int (oI (rtI t9))), (0, .ref m9), (1, .int (nI i))] → W p l e (gRm 2 0 0) s m args below meth c H locs 0 0 Z (F0 m 172 ls []) := by
                intro t9
                induction t9 with
                | leaf =>
                  intro cx ls hzz hcx hdp hl
                  have hl : lv_has ls 16 [(9, .int (nI (cx.length % d))), (8, .int (bI (sdB cx))), (7, .int (oI (cTI cx))), (6, .int (oI (rtI (tL : TT mLb)))), (0, .ref m9), (1, .int (nI i))] := hl
                  refine lv_iload hx hb dX7_put_172 (lv_at hl 3 rfl) ?_
                  refine lv_iconst (v := (-1)) hx hb dX7_put_174 (by decide) ?_
                  refine lv_icmp_eq (tgt := 231) hx hb dX7_put_175 (by decide) (fun x5 => ?_) (fun x5 => ?_)
                  · exact mid cx ls hcx hdp (lv_sub hl [1, 2, 4, 5] rfl)
                  · exact absurd rfl x5
                | inner s9 y v9 L R ihl ihr =>
                  intro cx ls hzz hcx hdp hl
                  obtain ⟨hz0, hzl, hzr⟩ := nz_inner hzz
                  subst hz0
                  have hXc := (RX_plug (F := F2) (B := B) (m := m9) (c := cx) (t := Std.DTreeMap.Internal.Impl.inner 0 y v9 L R)).mp ⟨by rw [hcx]; exact htr2.2.1, by rw [hcx]; exact htr2.2.2.1⟩
                  have hXn := hXc.1.1
                  have hy140 := hXn.1
                  have hxlen : cx.length ≤ 118 := by
                    have q1 := plug_sz cx (Std.DTreeMap.Internal.Impl.inner 0 y v9 L R)
                    have q2 := cAd_len cx
                    rw [hcx] at q1
                    omega
                  have hmd : cx.length % d < d := Nat.mod_lt _ hd0
                  have hprow : ∀ a, a < 4 → F2 (B 3) (4 * i + a) = .int (pt a) := fun a ha => hP2.2 i pt hi hQi a ha
                  have hl : lv_has ls 16 [(9, .int (nI (cx.length % d))), (8, .int (bI (sdB cx))), (7, .int (oI (cTI cx))), (6, .int (nI y.1)), (0, .ref m9), (1, .int (nI i))] := hl
                  refine lv_iload hx hb dX7_put_172 (lv_at hl 3 rfl) ?_
                  refine lv_iconst (v := (-1)) hx hb dX7_put_174 (by decide) ?_
                  refine lv_icmp_eq (tgt := 231) hx hb dX7_put_175 (by decide) (fun x5 => ?_) (fun x5 => ?_)
                  · exact absurd x5 (oI_n (by omega))
                  · refine lv_iload hx hb dX7_put_178 (lv_at hl 3 rfl) ?_
                    refine lv_istore (lv' := [(7, .int (nI y.1)), (9, .int (nI (cx.length % d))), (8, .int (bI (sdB cx))), (6, .int (nI y.1)), (0, .ref m9), (1, .int (nI i))]) hx hb dX7_put_180 hl (by decide) rfl (fun ls hl => ?_)
                    refine lv_aload_n hx hb dX7_put_182 rfl (lv_at hl 4 rfl) ?_
                    refine lv_iload_n hx hb dX7_put_183 rfl (lv_at hl 5 rfl) ?_
                    refine lv_iload hx hb dX7_put_184 (lv_at hl 3 rfl) ?_
                    refine lv_iload hx hb dX7_put_186 (lv_at hl 1 rfl) ?_
                    refine g_cV (v := (some (.int (bI (pLess (cx.length % d) (i, pt) y.2.1))))) (As := [.int (nI i), .int (nI y.1), .int (nI (cx.length % d))]) (b := m9) (rest := []) hx hb hml hown hts hN hW.1 (m_isLess l Γ K F2 m9 B hk hf2 i y.1 (cx.length % d) pt y.2 _ _ _ hi (by omega) hprow hXn) gX7_put_X7_isLess rfl hk.1 (by decide) rfl (na := 3) rfl (by decide +kernel) ⟨by decide, by decide⟩ ⟨Nat.zero_le _, Nat.zero_le _⟩ rfl hl.1 (Nat.le_of_ble_eq_true rfl) dX7_put_188 ?_
                    show W _ _ _ _ _ _ _ _ _ _ _ _ _ _ _ (F0 m 191 ls [.int (bI (pLess (cx.length % d) (i, pt) y.2.1))])
                    refine lv_istore (lv' := [(8, .int (bI (pLess (cx.length % d) (i, pt) y.2.1))), (7, .int (nI y.1)), (9, .int (nI (cx.length % d))), (6, .int (nI y.1)), (0, .ref m9), (1, .int (nI i))]) hx hb dX7_put_191 hl (by decide) rfl (fun ls hl => ?_)
                    refine lv_iload hx hb dX7_put_193 (lv_at hl 0 rfl) ?_
                    refine lv_if_eq (tgt := 208) hx hb dX7_put_195 (by decide) (fun x6 => ?_) (fun x6 => ?_)
                    · have x6 : (pLess (cx.length % d) (i, pt) y.2.1) = false := bI_0.mp x6
                      refine lv_aload_n hx hb dX7_put_208 rfl (lv_at hl 4 rfl) ?_
                      refine g_get (C := RX7) (T := TX7) (N := 31) hx hb hts hi7 hown hN hW.1 hk.1 rfl (by decide) 11 (by decide) hfX7_39 (v := .ref (B 11)) (hf2 11 rfl) dX7_put_209 ?_
                      refine lv_iload hx hb dX7_put_212 (lv_at hl 3 rfl) ?_
                      refine g_iald (j := y.1) hx hb hN hW.1 (hk.2.1 11 (8, 140) rfl) (by decide) (show _ = nI y.1 from rfl) (by omega) (v := .int (oI (rtI R))) hXn.2.2.2.2.2.2.1 dX7_put_214 ?_
                      refine lv_istore (lv' := [(6, .int (oI (rtI R))), (8, .int (bI (pLess (cx.length % d) (i, pt) y.2.1))), (7, .int (nI y.1)), (9, .int (nI (cx.length % d))), (0, .ref m9), (1, .int (nI i))]) hx hb dX7_put_215 hl (by decide) rfl (fun ls hl => ?_)
                      refine lv_iload hx hb dX7_put_217 (lv_at hl 3 rfl) ?_
                      refine lv_iconst (v := nI 1) hx hb dX7_put_219 (by decide) ?_
                      refine lv_iadd hx hb dX7_put_220 ?_
                      refine g_asi (show _ = nI ((cx.length % d) + 1) from (nI_add _ _).trans (by rfl)) ?_
                      refine lv_aload_n hx hb dX7_put_221 rfl (lv_at hl 4 rfl) ?_
                      refine g_get (C := RX7) (T := TX7) (N := 31) hx hb hts hi7 hown hN hW.1 hk.1 rfl (by decide) 1 (by decide) hfX7_85 (v := .int (nI d)) hd2 dX7_put_222 ?_
                      refine lv_irem hx hb dX7_put_225 (fun z => by have := (nI_eq0 (by omega)).mp z; omega) ?_
                      refine g_asi (show _ = nI ((cx.length + 1) % d) from (pk_rem (by omega) (by omega) (by omega)).trans (by rw [Nat.mod_add_mod])) ?_
                      refine lv_istore (lv' := [(9, .int (nI ((cx.length + 1) % d))), (6, .int (oI (rtI R))), (8, .int (bI (pLess (cx.length % d) (i, pt) y.2.1))), (7, .int (nI y.1)), (0, .ref m9), (1, .int (nI i))]) hx hb dX7_put_226 hl (by decide) rfl (fun ls hl => ?_)
                      refine lv_goto (tgt := 172) hx hb dX7_put_228 (by decide) ?_
                      rw [x6] at hl
                      exact ihr ((false, y, L) :: cx) ls hzr hcx ⟨x6.symm, hdp⟩ (lv_sub hl [0, 2, 3, 1, 4, 5] rfl)
                    · have x6 : (pLess (cx.length % d) (i, pt) y.2.1) = true := bI_n0.mp x6
                      refine lv_aload_n hx hb dX7_put_198 rfl (lv_at hl 4 rfl) ?_
                      refine g_get (C := RX7) (T := TX7) (N := 31) hx hb hts hi7 hown hN hW.1 hk.1 rfl (by decide) 10 (by decide) hfX7_36 (v := .ref (B 10)) (hf2 10 rfl) dX7_put_199 ?_
                      refine lv_iload hx hb dX7_put_202 (lv_at hl 3 rfl) ?_
                      refine g_iald (j := y.1) hx hb hN hW.1 (hk.2.1 10 (8, 140) rfl) (by decide) (show _ = nI y.1 from rfl) (by omega) (v := .int (oI (rtI L))) hXn.2.2.2.2.2.1 dX7_put_204 ?_
                      refine lv_goto (tgt := 215) hx hb dX7_put_205 (by decide) ?_
                      refine lv_istore (lv' := [(6, .int (oI (rtI L))), (8, .int (bI (pLess (cx.length % d) (i, pt) y.2.1))), (7, .int (nI y.1)), (9, .int (nI (cx.length % d))), (0, .ref m9), (1, .int (nI i))]) hx hb dX7_put_215 hl (by decide) rfl (fun ls hl => ?_)
                      refine lv_iload hx hb dX7_put_217 (lv_at hl 3 rfl) ?_
                      refine lv_iconst (v := nI 1) hx hb dX7_put_219 (by decide) ?_
                      refine lv_iadd hx hb dX7_put_220 ?_
                      refine g_asi (show _ = nI ((cx.length % d) + 1) from (nI_add _ _).trans (by rfl)) ?_
                      refine lv_aload_n hx hb dX7_put_221 rfl (lv_at hl 4 rfl) ?_
                      refine g_get (C := RX7) (T := TX7) (N := 31) hx hb hts hi7 hown hN hW.1 hk.1 rfl (by decide) 1 (by decide) hfX7_85 (v := .int (nI d)) hd2 dX7_put_222 ?_
                      refine lv_irem hx hb dX7_put_225 (fun z => by have := (nI_eq0 (by omega)).mp z; omega) ?_
                      refine g_asi (show _ = nI ((cx.length + 1) % d) from (pk_rem (by omega) (by omega) (by omega)).trans (by rw [Nat.mod_add_mod])) ?_
                      refine lv_istore (lv' := [(9, .int (nI ((cx.length + 1) % d))), (6, .int (oI (rtI L))), (8, .int (bI (pLess (cx.length % d) (i, pt) y.2.1))), (7, .int (nI y.1)), (0, .ref m9), (1, .int (nI i))]) hx hb dX7_put_226 hl (by decide) rfl (fun ls hl => ?_)
                      refine lv_goto (tgt := 172) hx hb dX7_put_228 (by decide) ?_
                      rw [x6] at hl
                      exact ihl ((true, y, R) :: cx) ls hzl hcx ⟨x6.symm, hdp⟩ (lv_sub hl [0, 2, 3, 1, 4, 5] rfl)
              exact desc tr [] ls hnz rfl trivial (lv_sub hl [0, 1, 2, 3, 4, 5] rfl)
            refine lv_aload_n hx hb dX7_put_60 rfl (lv_at hl 0 rfl) ?_
            refine g_get (C := RX7) (T := TX7) (N := 31) hx hb hts hi7 hown hN hW.1 hk.1 rfl (by decide) 2 (by decide) hfX7_13 (v := .ref (B 2)) (hfG 2 rfl) dX7_put_61 ?_
            refine lv_iload_n hx hb dX7_put_64 rfl (lv_at hl 1 rfl) ?_
            refine lv_iconst (v := nI 1) hx hb dX7_put_65 (by decide) ?_
            refine g_zast (j := i) hx hb hN hW (hk.2.1 2 (10, 100) rfl) (by decide) rfl (show _ = nI i from rfl) (by omega) dX7_put_66 (fun H locs hW => ?_)
            refine lv_aload_n hx hb dX7_put_67 rfl (lv_at hl 0 rfl) ?_
            refine lv_dup hx hb dX7_put_68 rfl ?_
            refine g_get (C := RX7) (T := TX7) (N := 31) hx hb hts hi7 hown hN hW.1 hk.1 rfl (by decide) 5 (by decide) hfX7_125 (v := .int (nI (lcP P))) ((gU_a (kne hk.1 (hk.2.1 2 (10, 100) rfl) (by decide))).trans h51) dX7_put_69 ?_
            refine lv_iconst (v := nI 1) hx hb dX7_put_72 (by decide) ?_
            refine lv_iadd hx hb dX7_put_73 ?_
            refine g_asi (show _ = nI ((lcP P) + 1) from (nI_add _ _).trans (by rfl)) ?_
            refine g_put (C := RX7) (T := TX7) (N := 31) hx hb hts hi7 tyX7 tyX7_ok nmX7 hown hN hW hk.1 rfl (by decide) 5 (by decide) hfX7_125 rfl rfl rfl dX7_put_74 (fun H locs hW => ?_)
            refine lv_aload_n hx hb dX7_put_77 rfl (lv_at hl 0 rfl) ?_
            refine g_get (C := RX7) (T := TX7) (N := 31) hx hb hts hi7 hown hN hW.1 hk.1 rfl (by decide) 3 (by decide) hfX7_17 (v := .ref (B 3)) ((gU_k (by decide)).trans ((gU_a (kne hk.1 (hk.2.1 2 (10, 100) rfl) (by decide))).trans (hfG 3 rfl))) dX7_put_78 ?_
            refine lv_iconst (v := nI 4) hx hb dX7_put_81 (by decide) ?_
            refine lv_iload_n hx hb dX7_put_82 rfl (lv_at hl 1 rfl) ?_
            refine lv_imul hx hb dX7_put_83 ?_
            refine g_asi (show _ = nI (4 * i) from (pk_mul _ _).trans (by rfl)) ?_
            refine lv_iload_n hx hb dX7_put_84 rfl (lv_at hl 2 rfl) ?_
            refine g_asi (show _ = pt 0 from by rw [hpt]; rfl) ?_
            refine g_iast (j := 4 * i) hx hb hN hW (hk.2.1 3 (8, 400) rfl) (by decide) (show _ = nI (4 * i) from rfl) (by omega) dX7_put_85 (fun H locs hW => ?_)
            refine lv_aload_n hx hb dX7_put_86 rfl (lv_at hl 0 rfl) ?_
            refine g_get (C := RX7) (T := TX7) (N := 31) hx hb hts hi7 hown hN hW.1 hk.1 rfl (by decide) 3 (by decide) hfX7_17 (v := .ref (B 3)) ((gU_a (kne hk.1 (hk.2.1 3 (8, 400) rfl) (by decide))).trans ((gU_k (by decide)).trans ((gU_a (kne hk.1 (hk.2.1 2 (10, 100) rfl) (by decide))).trans (hfG 3 rfl)))) dX7_put_87 ?_
            refine lv_iconst (v := nI 4) hx hb dX7_put_90 (by decide) ?_
            refine lv_iload_n hx hb dX7_put_91 rfl (lv_at hl 1 rfl) ?_
            refine lv_imul hx hb dX7_put_92 ?_
            refine g_asi (show _ = nI (4 * i) from (pk_mul _ _).trans (by rfl)) ?_
            refine lv_iconst (v := nI 1) hx hb dX7_put_93 (by decide) ?_
            refine lv_iadd hx hb dX7_put_94 ?_
            refine g_asi (show _ = nI ((4 * i) + 1) from (nI_add _ _).trans (by rfl)) ?_
            refine lv_aload_n hx hb dX7_put_95 rfl (lv_at hl 0 rfl) ?_
            refine g_get (C := RX7) (T := TX7) (N := 31) hx hb hts hi7 hown hN hW.1 hk.1 rfl (by decide) 1 (by decide) hfX7_85 (v := .int (nI d)) ((gU_a (kne hk.1 (hk.2.1 3 (8, 400) rfl) (by decide))).trans ((gU_k (by decide)).trans ((gU_a (kne hk.1 (hk.2.1 2 (10, 100) rfl) (by decide))).trans hd1))) dX7_put_96 ?_
            refine lv_iconst (v := nI 1) hx hb dX7_put_99 (by decide) ?_
            refine lv_icmp_le (tgt := 107) hx hb dX7_put_100 (by decide) (fun x1 => ?_) (fun x1 => ?_)
            · have x1 : d ≤ 1 := (nI_leI (by omega) (by omega)).mp x1
              have x1 : ¬ 1 < d := Nat.not_lt.mpr x1
              refine lv_iconst (v := nI 0) hx hb dX7_put_107 (by decide) ?_
              refine g_asi (show _ = pt 1 from by rw [hpt]; simp [mkC, x1]) ?_
              refine g_iast (j := 4 * i + 1) hx hb hN hW (hk.2.1 3 (8, 400) rfl) (by decide) (show _ = nI (4 * i + 1) from rfl) (by omega) dX7_put_108 (fun H locs hW => ?_)
              refine lv_aload_n hx hb dX7_put_109 rfl (lv_at hl 0 rfl) ?_
              refine g_get (C := RX7) (T := TX7) (N := 31) hx hb hts hi7 hown hN hW.1 hk.1 rfl (by decide) 3 (by decide) hfX7_17 (v := .ref (B 3)) ((gU_a (kne hk.1 (hk.2.1 3 (8, 400) rfl) (by decide))).trans ((gU_a (kne hk.1 (hk.2.1 3 (8, 400) rfl) (by decide))).trans ((gU_k (by decide)).trans ((gU_a (kne hk.1 (hk.2.1 2 (10, 100) rfl) (by decide))).trans (hfG 3 rfl))))) dX7_put_110 ?_
              refine lv_iconst (v := nI 4) hx hb dX7_put_113 (by decide) ?_
              refine lv_iload_n hx hb dX7_put_114 rfl (lv_at hl 1 rfl) ?_
              refine lv_imul hx hb dX7_put_115 ?_
              refine g_asi (show _ = nI (4 * i) from (pk_mul _ _).trans (by rfl)) ?_
              refine lv_iconst (v := nI 2) hx hb dX7_put_116 (by decide) ?_
              refine lv_iadd hx hb dX7_put_117 ?_
              refine g_asi (show _ = nI ((4 * i) + 2) from (nI_add _ _).trans (by rfl)) ?_
              refine lv_aload_n hx hb dX7_put_118 rfl (lv_at hl 0 rfl) ?_
              refine g_get (C := RX7) (T := TX7) (N := 31) hx hb hts hi7 hown hN hW.1 hk.1 rfl (by decide) 1 (by decide) hfX7_85 (v := .int (nI d)) ((gU_a (kne hk.1 (hk.2.1 3 (8, 400) rfl) (by decide))).trans ((gU_a (kne hk.1 (hk.2.1 3 (8, 400) rfl) (by decide))).trans ((gU_k (by decide)).trans ((gU_a (kne hk.1 (hk.2.1 2 (10, 100) rfl) (by decide))).trans hd1)))) dX7_put_119 ?_
              refine lv_iconst (v := nI 2) hx hb dX7_put_122 (by decide) ?_
              refine lv_icmp_le (tgt := 131) hx hb dX7_put_123 (by decide) (fun x2 => ?_) (fun x2 => ?_)
              · have x2 : d ≤ 2 := (nI_leI (by omega) (by omega)).mp x2
                have x2 : ¬ 2 < d := Nat.not_lt.mpr x2
                refine lv_iconst (v := nI 0) hx hb dX7_put_131 (by decide) ?_
                refine g_asi (show _ = pt 2 from by rw [hpt]; simp [mkC, x2]) ?_
                refine g_iast (j := 4 * i + 2) hx hb hN hW (hk.2.1 3 (8, 400) rfl) (by decide) (show _ = nI (4 * i + 2) from rfl) (by omega) dX7_put_132 (fun H locs hW => ?_)
                refine lv_aload_n hx hb dX7_put_133 rfl (lv_at hl 0 rfl) ?_
                refine g_get (C := RX7) (T := TX7) (N := 31) hx hb hts hi7 hown hN hW.1 hk.1 rfl (by decide) 3 (by decide) hfX7_17 (v := .ref (B 3)) ((gU_a (kne hk.1 (hk.2.1 3 (8, 400) rfl) (by decide))).trans ((gU_a (kne hk.1 (hk.2.1 3 (8, 400) rfl) (by decide))).trans ((gU_a (kne hk.1 (hk.2.1 3 (8, 400) rfl) (by decide))).trans ((gU_k (by decide)).trans ((gU_a (kne hk.1 (hk.2.1 2 (10, 100) rfl) (by decide))).trans (hfG 3 rfl)))))) dX7_put_134 ?_
                refine lv_iconst (v := nI 4) hx hb dX7_put_137 (by decide) ?_
                refine lv_iload_n hx hb dX7_put_138 rfl (lv_at hl 1 rfl) ?_
                refine lv_imul hx hb dX7_put_139 ?_
                refine g_asi (show _ = nI (4 * i) from (pk_mul _ _).trans (by rfl)) ?_
                refine lv_iconst (v := nI 3) hx hb dX7_put_140 (by decide) ?_
                refine lv_iadd hx hb dX7_put_141 ?_
                refine g_asi (show _ = nI ((4 * i) + 3) from (nI_add _ _).trans (by rfl)) ?_
                refine lv_aload_n hx hb dX7_put_142 rfl (lv_at hl 0 rfl) ?_
                refine g_get (C := RX7) (T := TX7) (N := 31) hx hb hts hi7 hown hN hW.1 hk.1 rfl (by decide) 1 (by decide) hfX7_85 (v := .int (nI d)) ((gU_a (kne hk.1 (hk.2.1 3 (8, 400) rfl) (by decide))).trans ((gU_a (kne hk.1 (hk.2.1 3 (8, 400) rfl) (by decide))).trans ((gU_a (kne hk.1 (hk.2.1 3 (8, 400) rfl) (by decide))).trans ((gU_k (by decide)).trans ((gU_a (kne hk.1 (hk.2.1 2 (10, 100) rfl) (by decide))).trans hd1))))) dX7_put_143 ?_
                refine lv_iconst (v := nI 3) hx hb dX7_put_146 (by decide) ?_
                refine lv_icmp_le (tgt := 155) hx hb dX7_put_147 (by decide) (fun x3 => ?_) (fun x3 => ?_)
                · have x3 : d ≤ 3 := (nI_leI (by omega) (by omega)).mp x3
                  have x3 : ¬ 3 < d := Nat.not_lt.mpr x3
                  refine lv_iconst (v := nI 0) hx hb dX7_put_155 (by decide) ?_
                  refine g_asi (show _ = pt 3 from by rw [hpt]; simp [mkC, x3]) ?_
                  refine g_iast (j := 4 * i + 3) hx hb hN hW (hk.2.1 3 (8, 400) rfl) (by decide) (show _ = nI (4 * i + 3) from rfl) (by omega) dX7_put_156 (fun H locs hW => ?_)
                  rw [← hF2] at hW
                  exact j157 H locs ls hW (lv_sub hl [0, 1] rfl)
                · have x3 : 3 < d := Nat.not_le.mp (fun z => x3 ((nI_leI (by omega) (by omega)).mpr z))
                  refine lv_iload hx hb dX7_put_150 (lv_at hl 5 rfl) ?_
                  refine lv_goto (tgt := 156) hx hb dX7_put_152 (by decide) ?_
                  refine g_asi (show _ = pt 3 from by rw [hpt]; simp [mkC, x3]) ?_
                  refine g_iast (j := 4 * i + 3) hx hb hN hW (hk.2.1 3 (8, 400) rfl) (by decide) (show _ = nI (4 * i + 3) from rfl) (by omega) dX7_put_156 (fun H locs hW => ?_)
                  rw [← hF2] at hW
                  exact j157 H locs ls hW (lv_sub hl [0, 1] rfl)
              · have x2 : 2 < d := Nat.not_le.mp (fun z => x2 ((nI_leI (by omega) (by omega)).mpr z))
                refine lv_iload hx hb dX7_put_126 (lv_at hl 4 rfl) ?_
                refine lv_goto (tgt := 132) hx hb dX7_put_128 (by decide) ?_
                refine g_asi (show _ = pt 2 from by rw [hpt]; simp [mkC, x2]) ?_
                refine g_iast (j := 4 * i + 2) hx hb hN hW (hk.2.1 3 (8, 400) rfl) (by decide) (show _ = nI (4 * i + 2) from rfl) (by omega) dX7_put_132 (fun H locs hW => ?_)
                refine lv_aload_n hx hb dX7_put_133 rfl (lv_at hl 0 rfl) ?_
                refine g_get (C := RX7) (T := TX7) (N := 31) hx hb hts hi7 hown hN hW.1 hk.1 rfl (by decide) 3 (by decide) hfX7_17 (v := .ref (B 3)) ((gU_a (kne hk.1 (hk.2.1 3 (8, 400) rfl) (by decide))).trans ((gU_a (kne hk.1 (hk.2.1 3 (8, 400) rfl) (by decide))).trans ((gU_a (kne hk.1 (hk.2.1 3 (8, 400) rfl) (by decide))).trans ((gU_k (by decide)).trans ((gU_a (kne hk.1 (hk.2.1 2 (10, 100) rfl) (by decide))).trans (hfG 3 rfl)))))) dX7_put_134 ?_
                refine lv_iconst (v := nI 4) hx hb dX7_put_137 (by decide) ?_
                refine lv_iload_n hx hb dX7_put_138 rfl (lv_at hl 1 rfl) ?_
                refine lv_imul hx hb dX7_put_139 ?_
                refine g_asi (show _ = nI (4 * i) from (pk_mul _ _).trans (by rfl)) ?_
                refine lv_iconst (v := nI 3) hx hb dX7_put_140 (by decide) ?_
                refine lv_iadd hx hb dX7_put_141 ?_
                refine g_asi (show _ = nI ((4 * i) + 3) from (nI_add _ _).trans (by rfl)) ?_
                refine lv_aload_n hx hb dX7_put_142 rfl (lv_at hl 0 rfl) ?_
                refine g_get (C := RX7) (T := TX7) (N := 31) hx hb hts hi7 hown hN hW.1 hk.1 rfl (by decide) 1 (by decide) hfX7_85 (v := .int (nI d)) ((gU_a (kne hk.1 (hk.2.1 3 (8, 400) rfl) (by decide))).trans ((gU_a (kne hk.1 (hk.2.1 3 (8, 400) rfl) (by decide))).trans ((gU_a (kne hk.1 (hk.2.1 3 (8, 400) rfl) (by decide))).trans ((gU_k (by decide)).trans ((gU_a (kne hk.1 (hk.2.1 2 (10, 100) rfl) (by decide))).trans hd1))))) dX7_put_143 ?_
                refine lv_iconst (v := nI 3) hx hb dX7_put_146 (by decide) ?_
                refine lv_icmp_le (tgt := 155) hx hb dX7_put_147 (by decide) (fun x3 => ?_) (fun x3 => ?_)
                · have x3 : d ≤ 3 := (nI_leI (by omega) (by omega)).mp x3
                  have x3 : ¬ 3 < d := Nat.not_lt.mpr x3
                  refine lv_iconst (v := nI 0) hx hb dX7_put_155 (by decide) ?_
                  refine g_asi (show _ = pt 3 from by rw [hpt]; simp [mkC, x3]) ?_
                  refine g_iast (j := 4 * i + 3) hx hb hN hW (hk.2.1 3 (8, 400) rfl) (by decide) (show _ = nI (4 * i + 3) from rfl) (by omega) dX7_put_156 (fun H locs hW => ?_)
                  rw [← hF2] at hW
                  exact j157 H locs ls hW (lv_sub hl [0, 1] rfl)
                · have x3 : 3 < d := Nat.not_le.mp (fun z => x3 ((nI_leI (by omega) (by omega)).mpr z))
                  refine lv_iload hx hb dX7_put_150 (lv_at hl 5 rfl) ?_
                  refine lv_goto (tgt := 156) hx hb dX7_put_152 (by decide) ?_
                  refine g_asi (show _ = pt 3 from by rw [hpt]; simp [mkC, x3]) ?_
                  refine g_iast (j := 4 * i + 3) hx hb hN hW (hk.2.1 3 (8, 400) rfl) (by decide) (show _ = nI (4 * i + 3) from rfl) (by omega) dX7_put_156 (fun H locs hW => ?_)
                  rw [← hF2] at hW
                  exact j157 H locs ls hW (lv_sub hl [0, 1] rfl)
            · have x1 : 1 < d := Nat.not_le.mp (fun z => x1 ((nI_leI (by omega) (by omega)).mpr z))
              refine lv_iload_n hx hb dX7_put_103 rfl (lv_at hl 3 rfl) ?_
              refine lv_goto (tgt := 108) hx hb dX7_put_104 (by decide) ?_
              refine g_asi (show _ = pt 1 from by rw [hpt]; simp [mkC, x1]) ?_
              refine g_iast (j := 4 * i + 1) hx hb hN hW (hk.2.1 3 (8, 400) rfl) (by decide) (show _ = nI (4 * i + 1) from rfl) (by omega) dX7_put_108 (fun H locs hW => ?_)
              refine lv_aload_n hx hb dX7_put_109 rfl (lv_at hl 0 rfl) ?_
              refine g_get (C := RX7) (T := TX7) (N := 31) hx hb hts hi7 hown hN hW.1 hk.1 rfl (by decide) 3 (by decide) hfX7_17 (v := .ref (B 3)) ((gU_a (kne hk.1 (hk.2.1 3 (8, 400) rfl) (by decide))).trans ((gU_a (kne hk.1 (hk.2.1 3 (8, 400) rfl) (by decide))).trans ((gU_k (by decide)).trans ((gU_a (kne hk.1 (hk.2.1 2 (10, 100) rfl) (by decide))).trans (hfG 3 rfl))))) dX7_put_110 ?_
              refine lv_iconst (v := nI 4) hx hb dX7_put_113 (by decide) ?_
              refine lv_iload_n hx hb dX7_put_114 rfl (lv_at hl 1 rfl) ?_
              refine lv_imul hx hb dX7_put_115 ?_
              refine g_asi (show _ = nI (4 * i) from (pk_mul _ _).trans (by rfl)) ?_
              refine lv_iconst (v := nI 2) hx hb dX7_put_116 (by decide) ?_
              refine lv_iadd hx hb dX7_put_117 ?_
              refine g_asi (show _ = nI ((4 * i) + 2) from (nI_add _ _).trans (by rfl)) ?_
              refine lv_aload_n hx hb dX7_put_118 rfl (lv_at hl 0 rfl) ?_
              refine g_get (C := RX7) (T := TX7) (N := 31) hx hb hts hi7 hown hN hW.1 hk.1 rfl (by decide) 1 (by decide) hfX7_85 (v := .int (nI d)) ((gU_a (kne hk.1 (hk.2.1 3 (8, 400) rfl) (by decide))).trans ((gU_a (kne hk.1 (hk.2.1 3 (8, 400) rfl) (by decide))).trans ((gU_k (by decide)).trans ((gU_a (kne hk.1 (hk.2.1 2 (10, 100) rfl) (by decide))).trans hd1)))) dX7_put_119 ?_
              refine lv_iconst (v := nI 2) hx hb dX7_put_122 (by decide) ?_
              refine lv_icmp_le (tgt := 131) hx hb dX7_put_123 (by decide) (fun x2 => ?_) (fun x2 => ?_)
              · have x2 : d ≤ 2 := (nI_leI (by omega) (by omega)).mp x2
                have x2 : ¬ 2 < d := Nat.not_lt.mpr x2
                refine lv_iconst (v := nI 0) hx hb dX7_put_131 (by decide) ?_
                refine g_asi (show _ = pt 2 from by rw [hpt]; simp [mkC, x2]) ?_
                refine g_iast (j := 4 * i + 2) hx hb hN hW (hk.2.1 3 (8, 400) rfl) (by decide) (show _ = nI (4 * i + 2) from rfl) (by omega) dX7_put_132 (fun H locs hW => ?_)
                refine lv_aload_n hx hb dX7_put_133 rfl (lv_at hl 0 rfl) ?_
                refine g_get (C := RX7) (T := TX7) (N := 31) hx hb hts hi7 hown hN hW.1 hk.1 rfl (by decide) 3 (by decide) hfX7_17 (v := .ref (B 3)) ((gU_a (kne hk.1 (hk.2.1 3 (8, 400) rfl) (by decide))).trans ((gU_a (kne hk.1 (hk.2.1 3 (8, 400) rfl) (by decide))).trans ((gU_a (kne hk.1 (hk.2.1 3 (8, 400) rfl) (by decide))).trans ((gU_k (by decide)).trans ((gU_a (kne hk.1 (hk.2.1 2 (10, 100) rfl) (by decide))).trans (hfG 3 rfl)))))) dX7_put_134 ?_
                refine lv_iconst (v := nI 4) hx hb dX7_put_137 (by decide) ?_
                refine lv_iload_n hx hb dX7_put_138 rfl (lv_at hl 1 rfl) ?_
                refine lv_imul hx hb dX7_put_139 ?_
                refine g_asi (show _ = nI (4 * i) from (pk_mul _ _).trans (by rfl)) ?_
                refine lv_iconst (v := nI 3) hx hb dX7_put_140 (by decide) ?_
                refine lv_iadd hx hb dX7_put_141 ?_
                refine g_asi (show _ = nI ((4 * i) + 3) from (nI_add _ _).trans (by rfl)) ?_
                refine lv_aload_n hx hb dX7_put_142 rfl (lv_at hl 0 rfl) ?_
                refine g_get (C := RX7) (T := TX7) (N := 31) hx hb hts hi7 hown hN hW.1 hk.1 rfl (by decide) 1 (by decide) hfX7_85 (v := .int (nI d)) ((gU_a (kne hk.1 (hk.2.1 3 (8, 400) rfl) (by decide))).trans ((gU_a (kne hk.1 (hk.2.1 3 (8, 400) rfl) (by decide))).trans ((gU_a (kne hk.1 (hk.2.1 3 (8, 400) rfl) (by decide))).trans ((gU_k (by decide)).trans ((gU_a (kne hk.1 (hk.2.1 2 (10, 100) rfl) (by decide))).trans hd1))))) dX7_put_143 ?_
                refine lv_iconst (v := nI 3) hx hb dX7_put_146 (by decide) ?_
                refine lv_icmp_le (tgt := 155) hx hb dX7_put_147 (by decide) (fun x3 => ?_) (fun x3 => ?_)
                · have x3 : d ≤ 3 := (nI_leI (by omega) (by omega)).mp x3
                  have x3 : ¬ 3 < d := Nat.not_lt.mpr x3
                  refine lv_iconst (v := nI 0) hx hb dX7_put_155 (by decide) ?_
                  refine g_asi (show _ = pt 3 from by rw [hpt]; simp [mkC, x3]) ?_
                  refine g_iast (j := 4 * i + 3) hx hb hN hW (hk.2.1 3 (8, 400) rfl) (by decide) (show _ = nI (4 * i + 3) from rfl) (by omega) dX7_put_156 (fun H locs hW => ?_)
                  rw [← hF2] at hW
                  exact j157 H locs ls hW (lv_sub hl [0, 1] rfl)
                · have x3 : 3 < d := Nat.not_le.mp (fun z => x3 ((nI_leI (by omega) (by omega)).mpr z))
                  refine lv_iload hx hb dX7_put_150 (lv_at hl 5 rfl) ?_
                  refine lv_goto (tgt := 156) hx hb dX7_put_152 (by decide) ?_
                  refine g_asi (show _ = pt 3 from by rw [hpt]; simp [mkC, x3]) ?_
                  refine g_iast (j := 4 * i + 3) hx hb hN hW (hk.2.1 3 (8, 400) rfl) (by decide) (show _ = nI (4 * i + 3) from rfl) (by omega) dX7_put_156 (fun H locs hW => ?_)
                  rw [← hF2] at hW
                  exact j157 H locs ls hW (lv_sub hl [0, 1] rfl)
              · have x2 : 2 < d := Nat.not_le.mp (fun z => x2 ((nI_leI (by omega) (by omega)).mpr z))
                refine lv_iload hx hb dX7_put_126 (lv_at hl 4 rfl) ?_
                refine lv_goto (tgt := 132) hx hb dX7_put_128 (by decide) ?_
                refine g_asi (show _ = pt 2 from by rw [hpt]; simp [mkC, x2]) ?_
                refine g_iast (j := 4 * i + 2) hx hb hN hW (hk.2.1 3 (8, 400) rfl) (by decide) (show _ = nI (4 * i + 2) from rfl) (by omega) dX7_put_132 (fun H locs hW => ?_)
                refine lv_aload_n hx hb dX7_put_133 rfl (lv_at hl 0 rfl) ?_
                refine g_get (C := RX7) (T := TX7) (N := 31) hx hb hts hi7 hown hN hW.1 hk.1 rfl (by decide) 3 (by decide) hfX7_17 (v := .ref (B 3)) ((gU_a (kne hk.1 (hk.2.1 3 (8, 400) rfl) (by decide))).trans ((gU_a (kne hk.1 (hk.2.1 3 (8, 400) rfl) (by decide))).trans ((gU_a (kne hk.1 (hk.2.1 3 (8, 400) rfl) (by decide))).trans ((gU_k (by decide)).trans ((gU_a (kne hk.1 (hk.2.1 2 (10, 100) rfl) (by decide))).trans (hfG 3 rfl)))))) dX7_put_134 ?_
                refine lv_iconst (v := nI 4) hx hb dX7_put_137 (by decide) ?_
                refine lv_iload_n hx hb dX7_put_138 rfl (lv_at hl 1 rfl) ?_
                refine lv_imul hx hb dX7_put_139 ?_
                refine g_asi (show _ = nI (4 * i) from (pk_mul _ _).trans (by rfl)) ?_
                refine lv_iconst (v := nI 3) hx hb dX7_put_140 (by decide) ?_
                refine lv_iadd hx hb dX7_put_141 ?_
                refine g_asi (show _ = nI ((4 * i) + 3) from (nI_add _ _).trans (by rfl)) ?_
                refine lv_aload_n hx hb dX7_put_142 rfl (lv_at hl 0 rfl) ?_
                refine g_get (C := RX7) (T := TX7) (N := 31) hx hb hts hi7 hown hN hW.1 hk.1 rfl (by decide) 1 (by decide) hfX7_85 (v := .int (nI d)) ((gU_a (kne hk.1 (hk.2.1 3 (8, 400) rfl) (by decide))).trans ((gU_a (kne hk.1 (hk.2.1 3 (8, 400) rfl) (by decide))).trans ((gU_a (kne hk.1 (hk.2.1 3 (8, 400) rfl) (by decide))).trans ((gU_k (by decide)).trans ((gU_a (kne hk.1 (hk.2.1 2 (10, 100) rfl) (by decide))).trans hd1))))) dX7_put_143 ?_
                refine lv_iconst (v := nI 3) hx hb dX7_put_146 (by decide) ?_
                refine lv_icmp_le (tgt := 155) hx hb dX7_put_147 (by decide) (fun x3 => ?_) (fun x3 => ?_)
                · have x3 : d ≤ 3 := (nI_leI (by omega) (by omega)).mp x3
                  have x3 : ¬ 3 < d := Nat.not_lt.mpr x3
                  refine lv_iconst (v := nI 0) hx hb dX7_put_155 (by decide) ?_
                  refine g_asi (show _ = pt 3 from by rw [hpt]; simp [mkC, x3]) ?_
                  refine g_iast (j := 4 * i + 3) hx hb hN hW (hk.2.1 3 (8, 400) rfl) (by decide) (show _ = nI (4 * i + 3) from rfl) (by omega) dX7_put_156 (fun H locs hW => ?_)
                  rw [← hF2] at hW
                  exact j157 H locs ls hW (lv_sub hl [0, 1] rfl)
                · have x3 : 3 < d := Nat.not_le.mp (fun z => x3 ((nI_leI (by omega) (by omega)).mpr z))
                  refine lv_iload hx hb dX7_put_150 (lv_at hl 5 rfl) ?_
                  refine lv_goto (tgt := 156) hx hb dX7_put_152 (by decide) ?_
                  refine g_asi (show _ = pt 3 from by rw [hpt]; simp [mkC, x3]) ?_
                  refine g_iast (j := 4 * i + 3) hx hb hN hW (hk.2.1 3 (8, 400) rfl) (by decide) (show _ = nI (4 * i + 3) from rfl) (by omega) dX7_put_156 (fun H locs hW => ?_)
                  rw [← hF2] at hW
                  exact j157 H locs ls hW (lv_sub hl [0, 1] rfl)
          · have e1 : 0 < 0 := Nat.pos_of_ne_zero (fun z => e1 ((nI_le0 (by omega)).mpr z))
            exact absurd e1 (by decide)
        · have c4 : (lcP P) = 60 := (nI_eq (by omega) (by omega)).mp c4
          refine lv_iconst (v := nI 2) hx hb dX7_put_43 (by decide) ?_
          refine lv_goto (tgt := 48) hx hb dX7_put_44 (by decide) ?_
          refine g_put (C := RX7) (T := TX7) (N := 31) hx hb hts hi7 tyX7 tyX7_ok nmX7 hown hN hW hk.1 rfl (by decide) 0 (by decide) hfX7_1 rfl rfl rfl dX7_put_48 (fun H locs hW => ?_)
          refine lv_aload_n hx hb dX7_put_51 rfl (lv_at hl 0 rfl) ?_
          refine g_get (C := RX7) (T := TX7) (N := 31) hx hb hts hi7 hown hN hW.1 hk.1 rfl (by decide) 0 (by decide) hfX7_1 (v := .int (nI 2)) gU_self dX7_put_52 ?_
          refine lv_if_le (tgt := 60) hx hb dX7_put_55 (by decide) (fun e1 => ?_) (fun e1 => ?_)
          · have e1 : 2 = 0 := (nI_le0 (by omega)).mp e1
            exact absurd e1 (by decide)
          · have e1 : 0 < 2 := Nat.pos_of_ne_zero (fun z => e1 ((nI_le0 (by omega)).mpr z))
            refine lv_iconst (v := nI 0) hx hb dX7_put_58 (by decide) ?_
            exact hret (some (.int (nI 0))) _ _ _ _ _ _ hW (⟨2, nI 0, rfl, rfl, gU_self, Or.inr (Or.inl ⟨rfl, ⟨c1, c2⟩, fun ⟨_, z⟩ => by omega⟩), (fun _ => hR.thr hk), fun z => absurd z (by decide)⟩) (rt_i dX7_put_59)
    · have c2 : (okPl d xx yy zz ww) = false := bI_0.mp c2
      refine lv_iconst (v := nI 1) hx hb dX7_put_21 (by decide) ?_
      refine lv_goto (tgt := 48) hx hb dX7_put_22 (by decide) ?_
      refine g_put (C := RX7) (T := TX7) (N := 31) hx hb hts hi7 tyX7 tyX7_ok nmX7 hown hN hW hk.1 rfl (by decide) 0 (by decide) hfX7_1 rfl rfl rfl dX7_put_48 (fun H locs hW => ?_)
      refine lv_aload_n hx hb dX7_put_51 rfl (lv_at hl 0 rfl) ?_
      refine g_get (C := RX7) (T := TX7) (N := 31) hx hb hts hi7 hown hN hW.1 hk.1 rfl (by decide) 0 (by decide) hfX7_1 (v := .int (nI 1)) gU_self dX7_put_52 ?_
      refine lv_if_le (tgt := 60) hx hb dX7_put_55 (by decide) (fun e1 => ?_) (fun e1 => ?_)
      · have e1 : 1 = 0 := (nI_le0 (by omega)).mp e1
        exact absurd e1 (by decide)
      · have e1 : 0 < 1 := Nat.pos_of_ne_zero (fun z => e1 ((nI_le0 (by omega)).mpr z))
        refine lv_iconst (v := nI 0) hx hb dX7_put_58 (by decide) ?_
        exact hret (some (.int (nI 0))) _ _ _ _ _ _ hW (⟨1, nI 0, rfl, rfl, gU_self, Or.inl ⟨rfl, fun z => by rw [c2] at z; exact absurd z.2 (by decide)⟩, (fun _ => hR.thr hk), fun z => absurd z (by decide)⟩) (rt_i dX7_put_59)
