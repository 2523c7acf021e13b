theorem findG_rt {α : Type} {lt : Nat → α → α → Bool} {d : Nat} {x : α} : ∀ {t : TT α} {c c' : cxT α} {s : TT α}, findG lt d x c t = some (c', s) → ∃ a, tRt s = some a := by
  intro t
  induction t with
  | leaf => intro c c' s h; cases h
  | inner z a v l r ihl ihr =>
    intro c c' s h
    unfold findG at h
    split at h
    · split at h
      · cases h; exact ⟨a, rfl⟩
      · exact ihl h
    · split at h
      · cases h; exact ⟨a, rfl⟩
      · exact ihr h
def putG {α : Type} (lt : Nat → α → α → Bool) (dd : α → Bool) (d : Nat) (x : α) (t : TT α) : TT α × Nat × Nat := match findG lt d x [] t with
  | none => (insG lt d x 0 t, 0, 0)
  | some (c, s) => (plug c (bldG lt d 60 c.length ((tPre s).filter (fun a => !dd a))), 1, ((tPre s).filter (fun a => !dd a)).length)

set_option maxHeartbeats 4000000 in
set_option maxRecDepth 100000 in
theorem c_put (l : Launch) (hfl : l.stackTraces = false) (Γ : gG) (K : gK) (F : gF) (sz : Nat) (x lb T row h ai ad J pts lens d : Nat) (tc : TT Nat) (nd : Nat → Option Nat) (dt : Nat → gPt) (pl : Nat → Nat) (dd : Nat → Bool) (S : List (Nat × Int64)) (lim lk bc bg bp : Nat) (hNT : NT K F x lb T row h ai ad J pts lens d tc nd dt pl dd S lim lk bc bg bp) (d9 xx yy zz ww : Int32) : gMX l yX6_put wsX6_put 75 2 13 Γ K F sz [.ref x, .int d9, .int xx, .int yy, .int zz, .int ww] (fun v K' F' => ∃ i q1 q2, i < 100 ∧ d9 = nI i ∧ okPl d xx yy zz ww = true ∧ nd i = none ∧ (gLive nd 100).length < 60 ∧ q1 ∉ tPre tc ∧ NT K' F' x lb T row h ai ad J pts lens d (putG (ltA (va_up dt q1 (i, mkC d xx yy zz ww))) (va_up dd q1 false) d q1 tc).1 (va_up nd i (some q1)) (va_up dt q1 (i, mkC d xx yy zz ww)) (va_up pl q1 q2) (va_up dd q1 false) S lim lk (bc + (putG (ltA (va_up dt q1 (i, mkC d xx yy zz ww))) (va_up dd q1 false) d q1 tc).2.1) bg (bp + (putG (ltA (va_up dt q1 (i, mkC d xx yy zz ww))) (va_up dd q1 false) d q1 tc).2.2) ∧ v = some (.int (nI ((gLive nd 100).length + 1)))) (fun E => (E = nIAE ∧ ¬ (okId d9 = true ∧ okPl d xx yy zz ww = true)) ∨ (E = nISE ∧ (okId d9 = true ∧ okPl d xx yy zz ww = true) ∧ ((∃ i a, i < 100 ∧ d9 = nI i ∧ nd i = some a) ∨ 60 ≤ (gLive nd 100).length))) := by
  refine g_mX (cc := cX6_put) (maxL := 8) (ret := (some .int)) hfl rfl (by decide) rfl (Nat.le_of_ble_eq_true rfl) ?_
  intro p e s m args below meth c ls Z hsz hx hb hts hown hml hN hW hret hthr hl
  have hl : lv_has ls 8 [(0, .ref x), (1, .int d9), (2, .int xx), (3, .int yy), (4, .int zz), (5, .int ww)] := hl
  have hown : s.vm.findClass RX6 = some m.cls := hown
  have hi2 : ∀ w ∈ wsX20, w ∈ wsX6_put := by decide +kernel
  have hi3 : ∀ w ∈ wsX30, w ∈ wsX6_put := by decide +kernel
  have hi6 : ∀ w ∈ wsX60, w ∈ wsX6_put := by decide +kernel
  have hfX6_18 : Cond.fieldLink RX6 18 (TX6 0).1 (TX6 0).2.1 (TX6 0).2.2.1 ∈ wsX6_put := by decide +kernel
  have hfX6_24 : Cond.fieldLink RX6 24 (TX6 1).1 (TX6 1).2.1 (TX6 1).2.2.1 ∈ wsX6_put := by decide +kernel
  have hfX6_33 : Cond.fieldLink RX6 33 (TX6 2).1 (TX6 2).2.1 (TX6 2).2.2.1 ∈ wsX6_put := by decide +kernel
  have hfX6_66 : Cond.fieldLink RX6 66 (TX6 5).1 (TX6 5).2.1 (TX6 5).2.2.1 ∈ wsX6_put := by decide +kernel
  have hfX6_90 : Cond.fieldLink RX6 90 (TX6 7).1 (TX6 7).2.1 (TX6 7).2.2.1 ∈ wsX6_put := by decide +kernel
  obtain ⟨⟨kx, klb, kT, krow, kh, kai, kad, kJ, kpts, klens, krp⟩, ⟨hd1, hd4⟩, ⟨x0, x1, x2, x3, x4, x5, x6, x7, x8⟩, ⟨t0, t1, t2, t3, hC⟩, ⟨j0, j1, stJ, hstJ⟩, hrN, hLS, hND, ⟨p1, p2, p3, p4, p5, p6, p7⟩⟩ := id hNT
  have hlive : ∀ i a, i < 100 → nd i = some a → ndD K F a (pl a) (dt a) ∧ F a 2 = .int (bI (dd a)) := fun i a hi ha => hND a (p2 i a hi ha).1
  refine lv_iload_n hx hb dX6_put_0 rfl (lv_at hl 1 rfl) ?_
  refine g_cS (v := (some (.int (bI (okId d9))))) (As := [.int d9]) (rest := []) hx hb hml hown hts hN hW.1 (c_isId l Γ K F d9) gX6_put_X6_isId rfl (na := 1) rfl (by decide +kernel) ⟨by decide, by decide⟩ ⟨Nat.zero_le _, Nat.zero_le _⟩ rfl hl.1 (Nat.le_of_ble_eq_true rfl) dX6_put_1 ?_
  show W _ _ _ _ _ _ _ _ _ _ _ _ _ _ _ (F0 m 4 ls [.int (bI (okId d9))])
  refine lv_if_eq (tgt := 20) hx hb dX6_put_4 (by decide) (fun c1 => ?_) (fun c1 => ?_)
  · have c1 : (okId d9) = false := bI_0.mp c1
    exact hthr nIAE "put: the id or a number that counts is out of range" 59 61 63 20 _ _ ls (Or.inl ⟨rfl, fun z => by rw [c1] at z; cases z.1⟩) x_IAE (show (61, "put: the id or a number that counts is out of range") ∈ gStr by decide +kernel) (by decide +kernel) (by decide +kernel) (fun w h => List.mem_cons_of_mem _ (List.mem_append_left _ (List.mem_append_right _ h))) dX6_put_20 dX6_put_23 dX6_put_24 dX6_put_26 dX6_put_29 (by decide) (by decide) (by decide) hW hl.1
  · have c1 : (okId d9) = true := bI_n0.mp c1
    refine lv_aload_n hx hb dX6_put_7 rfl (lv_at hl 0 rfl) ?_
    refine lv_iload_n hx hb dX6_put_8 rfl (lv_at hl 2 rfl) ?_
    refine lv_iload_n hx hb dX6_put_9 rfl (lv_at hl 3 rfl) ?_
    refine lv_iload hx hb dX6_put_10 (lv_at hl 4 rfl) ?_
    refine lv_iload hx hb dX6_put_12 (lv_at hl 5 rfl) ?_
    refine g_cV (v := (some (.int (bI (okPl d xx yy zz ww))))) (As := [.int xx, .int yy, .int zz, .int ww]) (b := x) (rest := []) hx hb hml hown hts hN hW.1 (c_isPlace l Γ K F x d xx yy zz ww kx x0 hd4) gX6_put_X6_isPlace rfl kx (by decide) rfl (na := 4) rfl (by decide +kernel) ⟨by decide, by decide⟩ ⟨Nat.zero_le _, Nat.zero_le _⟩ rfl hl.1 (Nat.le_of_ble_eq_true rfl) dX6_put_14 ?_
    show W _ _ _ _ _ _ _ _ _ _ _ _ _ _ _ (F0 m 17 ls [.int (bI (okPl d xx yy zz ww))])
    refine lv_if_ne (tgt := 30) hx hb dX6_put_17 (by decide) (fun c3 => ?_) (fun c3 => ?_)
    · have c3 : (okPl d xx yy zz ww) = true := bI_n0.mp c3
      obtain ⟨i, hi, rfl⟩ := okId_nI c1
      refine lv_aload_n hx hb dX6_put_30 rfl (lv_at hl 0 rfl) ?_
      refine g_get (C := RX6) (T := TX6) (N := 9) hx hb hts hi6 hown hN hW.1 kx rfl (by decide) 1 (by decide) hfX6_24 (v := .ref lb) x1 dX6_put_31 ?_
      refine lv_iload_n hx hb dX6_put_34 rfl (lv_at hl 1 rfl) ?_
      refine g_aald (j := i) hx hb hN hW.1 klb (by decide) (show _ = nI i from rfl) hi (v := va_rf (nd i)) (hrN i hi) dX6_put_35 ?_
      refine g_ifnonnull (r := nd i) (tgt := 48) hx hb dX6_put_36 (by decide) (fun xc4 c4 => ?_) (fun c4 => ?_)
      · exact hthr nISE "put: the id is live, or no more points can be" 69 71 73 48 _ _ ls (Or.inr ⟨rfl, ⟨c1, c3⟩, Or.inl ⟨i, xc4, hi, rfl, c4⟩⟩) x_ISE (show (71, "put: the id is live, or no more points can be") ∈ gStr by decide +kernel) (by decide +kernel) (by decide +kernel) (fun w h => List.mem_cons_of_mem _ (List.mem_append_right _ h)) dX6_put_48 dX6_put_51 dX6_put_52 dX6_put_54 dX6_put_57 (by decide) (by decide) (by decide) hW hl.1
      · refine lv_aload_n hx hb dX6_put_39 rfl (lv_at hl 0 rfl) ?_
        refine g_get (C := RX6) (T := TX6) (N := 9) hx hb hts hi6 hown hN hW.1 kx rfl (by decide) 5 (by decide) hfX6_66 (v := .int (nI (gLive nd 100).length)) x5 dX6_put_40 ?_
        refine lv_bipush (v := nI 60) hx hb dX6_put_43 (by decide) ?_
        refine lv_icmp_lt (tgt := 58) hx hb dX6_put_45 (by decide) (fun c5 => ?_) (fun c5 => ?_)
        · have c5 : (gLive nd 100).length < 60 := (nI_ltI (by omega) (by omega)).mp c5
          refine g_new (C := RX2) (T := TX2) (N := 9) (ci := 2) hx hb hts hi2 tyX2 tyX2_ok hown (show Cond.classLink RX6 22 RX2 ∈ _ by decide +kernel) (by decide +kernel) (by decide +kernel) hN hW rfl (by decide) (Nat.le_of_ble_eq_true rfl) (Nat.le_of_ble_eq_true rfl) dX6_put_58 (fun q1 H hqe_q1 hq_q1 hW => ?_)
          refine lv_dup hx hb dX6_put_61 rfl ?_
          refine lv_iload_n hx hb dX6_put_62 rfl (lv_at hl 1 rfl) ?_
          refine g_new (C := RX3) (T := TX3) (N := 4) (ci := 3) hx hb hts hi3 tyX3 tyX3_ok hown (show Cond.classLink RX6 74 RX3 ∈ _ by decide +kernel) (by decide +kernel) (by decide +kernel) hN hW rfl (by decide) (Nat.le_of_ble_eq_true rfl) (Nat.le_of_ble_eq_true rfl) dX6_put_63 (fun q2 H hqe_q2 hq_q2 hW => ?_)
          have hK2 := kup2 (k2 := (3, 0)) hq_q1 hq_q2
          have hq12 : q1 ≠ q2 := fun e => by rw [← e, va_up_self] at hq_q2; cases hq_q2
          have kq1 : (va_up (va_up K q1 (some (2, 0))) q2 (some (3, 0))) q1 = some (2, 0) := kup hq_q2 (va_up_self _ _ _)
          have kq2 : (va_up (va_up K q1 (some (2, 0))) q2 (some (3, 0))) q2 = some (3, 0) := va_up_self _ _ _
          have hq1d : ∀ j, (va_up (va_up F q1 (fun j => defaultValue (tyX2 j))) q2 (fun j => defaultValue (tyX3 j))) q1 j = defaultValue (tyX2 j) := fun j => by rw [fup' hq_q2 (va_up_self _ _ _)]; exact congrFun (va_up_self _ _ _) j
          have F2e : ∀ b j k, K b = some k → (va_up (va_up F q1 (fun j => defaultValue (tyX2 j))) q2 (fun j => defaultValue (tyX3 j))) b j = F b j := fun b j k hb => by rw [fup' hq_q2 (kup hq_q1 hb), fup' hq_q1 hb]
          refine lv_dup hx hb dX6_put_66 rfl ?_
          refine lv_aload_n hx hb dX6_put_67 rfl (lv_at hl 0 rfl) ?_
          refine g_get (C := RX6) (T := TX6) (N := 9) hx hb hts hi6 hown hN hW.1 (hK2 _ _ kx) rfl (by decide) 0 (by decide) hfX6_18 (v := .int (nI d)) ((F2e x 0 _ kx).trans x0) dX6_put_68 ?_
          refine lv_iload_n hx hb dX6_put_71 rfl (lv_at hl 2 rfl) ?_
          refine lv_iload_n hx hb dX6_put_72 rfl (lv_at hl 3 rfl) ?_
          refine lv_iload hx hb dX6_put_73 (lv_at hl 4 rfl) ?_
          refine lv_iload hx hb dX6_put_75 (lv_at hl 5 rfl) ?_
          refine g_mI (As := [.int (nI d), .int xx, .int yy, .int zz, .int ww]) (b := q2) (rest := [.ref q2, .int (nI i), .ref q1, .ref q1]) hx hb hml hown hts hN hW (c_Place l Γ _ _ H.size q2 d xx yy zz ww kq2 hd4) gX6_put_X3_init rfl (by decide +kernel) (by decide +kernel) (by decide +kernel) rfl (na := 5) rfl (by decide +kernel) ⟨by decide, by decide⟩ ⟨Nat.le_of_ble_eq_true rfl, Nat.le_of_ble_eq_true rfl⟩ rfl hl.1 (Nat.le_of_ble_eq_true rfl) dX6_put_77 (fun v K' F3 H locs hp hW hsz' => ?_)
          obtain ⟨rfl, hK9, hpl, hfr3⟩ := hp
          subst K'
          show W _ _ _ _ _ _ _ _ _ _ _ _ _ _ _ (F0 m 80 ls [.ref q2, .int (nI i), .ref q1, .ref q1])
          refine g_mI (As := [.int (nI i), .ref q2]) (b := q1) (rest := [.ref q1]) hx hb hml hown hts hN hW (c_Node l Γ _ F3 H.size q1 i q2 kq1) gX6_put_X2_init rfl (by decide +kernel) (by decide +kernel) (by decide +kernel) rfl (na := 2) rfl (by decide +kernel) ⟨by decide, by decide⟩ ⟨Nat.le_of_ble_eq_true rfl, Nat.le_of_ble_eq_true rfl⟩ rfl hl.1 (Nat.le_of_ble_eq_true rfl) dX6_put_80 (fun v K' F4 H locs hp hW hsz' => ?_)
          obtain ⟨rfl, hK9, hF4⟩ := hp
          subst K'
          show W _ _ _ _ _ _ _ _ _ _ _ _ _ _ _ (F0 m 83 ls [.ref q1])
          generalize hK5 : (va_up (va_up K q1 (some (2, 0))) q2 (some (3, 0))) = K5 at hK2 kq1 kq2 hW
          have nq1 : ∀ b k, K b = some k → b ≠ q1 := fun b k hb e => by rw [e, hq_q1] at hb; cases hb
          have nq2 : ∀ b k, K b = some k → b ≠ q2 := fun b k hb e => by rw [e] at hb; rw [kup (k' := (2, 0)) hq_q1 hb] at hq_q2; cases hq_q2
          have F4e : ∀ b j k, K b = some k → F4 b j = F b j := fun b j k hb => by
            have n := nq1 b k hb
            rw [hF4, gU_a n, gU_a n, gU_a n, hfr3 b j (nq2 b k hb)]
            exact F2e b j k hb
          have F4q : ∀ j, j ≠ 0 → j ≠ 1 → j ≠ 5 → F4 q1 j = defaultValue (tyX2 j) := fun j j0 j1 j5 => by
            rw [hF4, gU_k j5, gU_k j1, gU_k j0, hfr3 q1 j hq12]
            exact hq1d j
          have F40 : F4 q1 0 = .int (nI i) := by rw [hF4, gU_k (by decide), gU_k (by decide)]; exact gU_self
          have F41 : F4 q1 1 = .ref q2 := by rw [hF4, gU_k (by decide)]; exact gU_self
          have F45 : F4 q1 5 = .int (nI 1) := by rw [hF4]; exact gU_self
          have F4p : ∀ j, j < 4 → F4 q2 j = .int (mkC d xx yy zz ww j) := fun j hj => by
            have n : q2 ≠ q1 := fun e => hq12 e.symm
            rw [hF4, gU_a n, gU_a n, gU_a n]
            exact hpl j hj
          refine lv_astore (lv' := [(6, .ref q1), (0, .ref x), (1, .int (nI i)), (2, .int xx), (3, .int yy), (4, .int zz), (5, .int ww)]) hx hb dX6_put_83 hl (by decide) rfl (fun ls hl => ?_)
          refine lv_aload_n hx hb dX6_put_85 rfl (lv_at hl 1 rfl) ?_
          refine g_get (C := RX6) (T := TX6) (N := 9) hx hb hts hi6 hown hN hW.1 (hK2 _ _ kx) rfl (by decide) 1 (by decide) hfX6_24 (v := .ref lb) ((F4e x 1 _ kx).trans x1) dX6_put_86 ?_
          refine lv_iload_n hx hb dX6_put_89 rfl (lv_at hl 2 rfl) ?_
          refine lv_aload hx hb dX6_put_90 (lv_at hl 0 rfl) ?_
          refine g_aast (j := i) hx hb hN hW (hK2 _ _ klb) (by decide) kq1 (show _ = nI i from rfl) hi dX6_put_92 (fun H locs hW => ?_)
          refine lv_aload_n hx hb dX6_put_93 rfl (lv_at hl 1 rfl) ?_
          refine lv_dup hx hb dX6_put_94 rfl ?_
          refine g_get (C := RX6) (T := TX6) (N := 9) hx hb hts hi6 hown hN hW.1 (hK2 _ _ kx) rfl (by decide) 5 (by decide) hfX6_66 (v := .int (nI (gLive nd 100).length)) ((gU_a (kne kx klb (by decide))).trans ((F4e x 5 _ kx).trans x5)) dX6_put_95 ?_
          refine lv_iconst (v := nI 1) hx hb dX6_put_98 (by decide) ?_
          refine lv_iadd hx hb dX6_put_99 ?_
          refine g_asi (show _ = nI ((gLive nd 100).length + 1) from (nI_add _ _).trans (by rfl)) ?_
          refine g_put (C := RX6) (T := TX6) (N := 9) hx hb hts hi6 tyX6 tyX6_ok nmX6 hown hN hW (hK2 _ _ kx) rfl (by decide) 5 (by decide) hfX6_66 rfl rfl rfl dX6_put_100 (fun H locs hW => ?_)
          generalize hF6 : (gU (gU F4 lb i (.ref q1)) x 5 (.int (nI ((gLive nd 100).length + 1)))) = F6 at hW
          have nlq : lb ≠ q1 := nq1 lb _ klb
          have nxq : x ≠ q1 := nq1 x _ kx
          have F6f : ∀ b j, b ≠ lb → ¬ (b = x ∧ j = 5) → F6 b j = F4 b j := fun b j h1 h2 => by rw [← hF6, gU_ne h2, gU_a h1]
          have F6x : F6 x 5 = .int (nI ((gLive nd 100).length + 1)) := by rw [← hF6]; exact gU_self
          have F6e : ∀ b j k, K b = some k → b ≠ lb → ¬ (b = x ∧ j = 5) → F6 b j = F b j := fun b j k hb h1 h2 => (F6f b j h1 h2).trans (F4e b j k hb)
          have F6q : ∀ j, F6 q1 j = F4 q1 j := fun j => F6f q1 j (fun e => nlq e.symm) (fun e => nxq e.1.symm)
          have F6p : ∀ j, j < 4 → F6 q2 j = .int (mkC d xx yy zz ww j) := fun j hj => (F6f q2 j (fun e => nq2 lb _ klb e.symm) (fun e => nq2 x _ kx e.1.symm)).trans (F4p j hj)
          have F6r : rowN F6 lb (va_up nd i (some q1)) := fun j hj => by
            rw [← hF6, gU_a (kne klb kx (by decide))]
            by_cases e : j = i
            · subst e; rw [va_up_self, gU_self]; rfl
            · rw [va_up_ne _ _ e, gU_k e, F4e lb j _ klb]; exact hrN j hj
          have hqt : q1 ∉ tPre tc := fun z => nq1 q1 _ (hND q1 z).1.1 rfl
          obtain ⟨dt1, hdt1⟩ : ∃ f, f = va_up dt q1 (i, mkC d xx yy zz ww) := ⟨_, rfl⟩
          obtain ⟨pl1, hpl1⟩ : ∃ f, f = va_up pl q1 q2 := ⟨_, rfl⟩
          obtain ⟨dd1, hdd1⟩ : ∃ f, f = va_up dd q1 false := ⟨_, rfl⟩
          have hND6 : NDs K5 F6 dt1 pl1 dd1 (q1 :: tPre tc) := fun a ha => by
            rcases List.mem_cons.mp ha with e | e
            · subst e
              rw [hdt1, hpl1, hdd1, va_up_self, va_up_self, va_up_self]
              exact ⟨⟨kq1, kq2, (F6q 0).trans F40, (F6q 1).trans F41, F6p, hi⟩, (F6q 2).trans ((F4q 2 (by decide) (by decide) (by decide)).trans rfl)⟩
            · have n : a ≠ q1 := fun z => hqt (z ▸ e)
              rw [hdt1, hpl1, hdd1, va_up_ne _ _ n, va_up_ne _ _ n, va_up_ne _ _ n]
              have q := hND a e
              have g2 : ∀ j, F6 a j = F a j := fun j => F6e a j _ q.1.1 (kne q.1.1 klb (by decide)) (fun z => kne q.1.1 kx (by decide) z.1)
              exact ⟨⟨hK2 _ _ q.1.1, hK2 _ _ q.1.2.1, (g2 0).trans q.1.2.2.1, (g2 1).trans q.1.2.2.2.1, fun j hj => (F6e _ j _ q.1.2.1 (kne q.1.2.1 klb (by decide)) (fun z => kne q.1.2.1 kx (by decide) z.1)).trans (q.1.2.2.2.2.1 j hj), q.1.2.2.2.2.2⟩, (g2 2).trans q.2⟩
          have hC6 : CT F6 d tc none 0 := CT_congr (fun a ha j _ => F6e a j _ (hND a ha).1.1 (kne (hND a ha).1.1 klb (by decide)) (fun z => kne (hND a ha).1.1 kx (by decide) z.1)) hC
          have hT6 : ∀ j, F6 T j = F T j := fun j => F6e T j _ kT (kne kT klb (by decide)) (fun z => kne kT kx (by decide) z.1)
          have hq6 : NTq (q1 :: tPre tc) (va_up nd i (some q1)) dt1 dd1 := by
            rw [hdt1, hdd1]
            exact NTq.put (NTp.q ⟨p1, p2, p3, p4, p5, p6, p7⟩) hqt hi c4 (okPl_mkC c3)
          have hg6 : (gLive (va_up nd i (some q1)) 100).length = (gLive nd 100).length + 1 := by rw [gLive_put c4 100, if_pos hi]
          refine lv_aload_n hx hb dX6_put_103 rfl (lv_at hl 1 rfl) ?_
          refine g_get (C := RX6) (T := TX6) (N := 9) hx hb hts hi6 hown hN hW.1 (hK2 _ _ kx) rfl (by decide) 2 (by decide) hfX6_33 (v := .ref T) ((F6e x 2 _ kx (kne kx klb (by decide)) (fun z => absurd z.2 (by decide))).trans x2) dX6_put_104 ?_
          refine lv_aload hx hb dX6_put_107 (lv_at hl 0 rfl) ?_
          refine g_mV (As := [.ref q1]) (b := T) (rest := []) hx hb hml hown hts hN hW (c_hang l Γ K5 F6 H.size T q1 d tc dt1 pl1 dd1 (hK2 _ _ kT) ((hT6 0).trans t0) ((hT6 2).trans t2) hC6 hND6 hqt p1 ((F6q 3).trans ((F4q 3 (by decide) (by decide) (by decide)).trans rfl)) ((F6q 4).trans ((F4q 4 (by decide) (by decide) (by decide)).trans rfl)) ((F6q 5).trans F45) ((F6q 6).trans ((F4q 6 (by decide) (by decide) (by decide)).trans rfl)) ((F6q 7).trans ((F4q 7 (by decide) (by decide) (by decide)).trans rfl)) ((F6q 8).trans ((F4q 8 (by decide) (by decide) (by decide)).trans rfl)) hd1 hd4) gX6_put_X5_hang rfl (hK2 _ _ kT) (by decide) rfl (na := 1) rfl (by decide +kernel) ⟨by decide, by decide⟩ ⟨Nat.le_of_ble_eq_true rfl, Nat.le_of_ble_eq_true rfl⟩ rfl hl.1 (Nat.le_of_ble_eq_true rfl) dX6_put_109 (fun v K' F7 H locs hp hW hsz' => ?_)
          obtain ⟨rfl, hK9, h72, hC7, hf7⟩ := hp
          subst K'
          show W _ _ _ _ _ _ _ _ _ _ _ _ _ _ _ (F0 m 112 ls [])
          obtain ⟨r9, hr9⟩ : ∃ r9, r9 = (findG (ltA dt1) d q1 [] tc).bind (fun q => tRt q.2) := ⟨_, rfl⟩
          have x7e : ∀ j, F7 x j = F6 x j := fun j => hf7 x j (fun z => kne (hK2 _ _ kx) z.1 (by decide) rfl) (fun z => kne kx kT (by decide) z.1)
          have hx7 : ∀ j, j ≠ 5 → F7 x j = F x j := fun j hj => (x7e j).trans (F6e x j _ kx (kne kx klb (by decide)) (fun z => hj z.2))
          have hND7 : NDs K5 F7 dt1 pl1 dd1 (q1 :: tPre tc) := NDs_congr (fun b j hb => by
            refine hf7 b j (fun z => ?_) (fun z => ?_)
            · rcases hb with hb | hb
              · omega
              · rw [hb] at z; cases z.1
            · rcases hb with hb | hb
              · exact kne hb.1 (hK2 _ _ kT) (by decide) z.1
              · exact kne hb (hK2 _ _ kT) (by decide) z.1) hND6
          have hp7 := insG_perm (ltA dt1) d q1 tc 0
          refine lv_aload_n hx hb dX6_put_112 rfl (lv_at hl 1 rfl) ?_
          refine g_get (C := RX6) (T := TX6) (N := 9) hx hb hts hi6 hown hN hW.1 (hK2 _ _ kx) rfl (by decide) 2 (by decide) hfX6_33 (v := .ref T) ((hx7 2 (by decide)).trans x2) dX6_put_113 ?_
          refine lv_aload hx hb dX6_put_116 (lv_at hl 0 rfl) ?_
          refine g_cV (v := (some (va_rf r9))) (As := [.ref q1]) (b := T) (rest := []) hx hb hml hown hts hN hW.1 (by
              rw [hr9]
              exact c_firstLeaningAbove l Γ K5 F7 T q1 d tc dt1 pl1 dd1 (hK2 _ _ kT) h72 hC7 hND7 hqt (by omega) hd1 hd4) gX6_put_X5_firstLeaningAbove rfl (hK2 _ _ kT) (by decide) rfl (na := 1) rfl (by decide +kernel) ⟨by decide, by decide⟩ ⟨Nat.le_of_ble_eq_true rfl, Nat.le_of_ble_eq_true rfl⟩ rfl hl.1 (Nat.le_of_ble_eq_true rfl) dX6_put_118 ?_
          show W _ _ _ _ _ _ _ _ _ _ _ _ _ _ _ (F0 m 121 ls [va_rf r9])
          refine g_astore (r := r9) (lv' := [(7, va_rf r9), (6, .ref q1), (0, .ref x), (1, .int (nI i)), (2, .int xx), (3, .int yy), (4, .int zz), (5, .int ww)]) hx hb dX6_put_121 hl (by decide) rfl (fun ls hl => ?_)
          refine g_aload (r := r9) hx hb dX6_put_123 (lv_at hl 0 rfl) ?_
          refine g_ifnull (r := r9) (tgt := 147) hx hb dX6_put_125 (by decide) (fun c6 => ?_) (fun xc6 c6 => ?_)
          · have hfn : findG (ltA dt1) d q1 [] tc = none := by
              cases hfg : findG (ltA dt1) d q1 [] tc with
              | none => rfl
              | some q =>
                obtain ⟨a, ha⟩ := findG_rt hfg
                rw [hfg] at hr9
                rw [c6] at hr9
                exact absurd (hr9.trans ha) (by simp)
            have hpt : putG (ltA dt1) dd1 d q1 tc = (insG (ltA dt1) d q1 0 tc, 0, 0) := by unfold putG; rw [hfn]
            have hNT7 : NT K5 F7 x lb T row h ai ad J pts lens d (insG (ltA dt1) d q1 0 tc) (va_up nd i (some q1)) dt1 pl1 dd1 S lim lk bc bg bp := NT_mk hNT hK2 (fun b k j hb hk2 b1 b2 b3 _ => by
                refine (hf7 b j (fun z => ?_) (fun z => b3 z.1)).trans (F6e b j k hb b1 (fun z => b2 z.1))
                have := (hK2 _ _ hb).symm.trans z.1
                exact hk2 (Option.some.inj this)) (fun j h5 _ _ => hx7 j h5) (by rw [hg6, x7e]; exact F6x) ((hx7 7 (by decide)).trans x7) ((hx7 8 (by decide)).trans x8) (fun j hj => (hf7 T j (fun z => kne (hK2 _ _ kT) z.1 (by decide) rfl) (fun z => by omega)).trans (hT6 j)) h72 ((hf7 T 3 (fun z => kne (hK2 _ _ kT) z.1 (by decide) rfl) (fun z => by omega)).trans ((hT6 3).trans t3)) hC7 (fun j hj => (hf7 lb j (fun z => kne (hK2 _ _ klb) z.1 (by decide) rfl) (fun z => kne klb kT (by decide) z.1)).trans (F6r j hj)) (NDs_sub hND7 (fun a ha => hp7.mem_iff.mp ha)) (NTq.p (hq6.perm hp7.symm) (by rw [insG_sz, hg6]; omega) (by rw [hg6]; omega))
            refine lv_aload_n hx hb dX6_put_147 rfl (lv_at hl 2 rfl) ?_
            refine g_get (C := RX6) (T := TX6) (N := 9) hx hb hts hi6 hown hN hW.1 (hK2 _ _ kx) rfl (by decide) 5 (by decide) hfX6_66 (v := .int (nI ((gLive nd 100).length + 1))) ((x7e 5).trans F6x) dX6_put_148 ?_
            exact hret (some (.int (nI ((gLive nd 100).length + 1)))) _ _ _ _ _ _ _ _ (Nat.le_of_ble_eq_true rfl) (Nat.le_of_ble_eq_true rfl) hW (⟨i, q1, q2, hi, rfl, c3, c4, c5, hqt, by rw [← hdt1, ← hdd1, ← hpl1, hpt]; exact hNT7, rfl⟩) (rt_i dX6_put_151)
          · obtain ⟨cx, st9, hfs, hold⟩ : ∃ cx st9, findG (ltA dt1) d q1 [] tc = some (cx, st9) ∧ tRt st9 = some xc6 := by
              cases hfg : findG (ltA dt1) d q1 [] tc with
              | none => rw [hfg, c6] at hr9; exact absurd hr9 (by simp)
              | some q => rw [hfg, c6] at hr9; exact ⟨q.1, q.2, rfl, hr9.symm⟩
            have hplg : plug cx st9 = insG (ltA dt1) d q1 0 tc := findG_plug _ _ _ _ _ _ _ hfs
            have hpt : putG (ltA dt1) dd1 d q1 tc = (plug cx (bldG (ltA dt1) d 60 cx.length (alv dd1 (tPre st9))), 1, (alv dd1 (tPre st9)).length) := by unfold putG; rw [hfs]; rfl
            rw [← hplg] at h72 hC7 hp7
            have hq7 : NTq (tPre st9 ++ cAd cx) (va_up nd i (some q1)) dt1 dd1 := hq6.perm (hp7.symm.trans (plug_perm cx st9))
            have hal : (alv dd1 (tPre st9)).length ≤ 60 := by
              have q := hq7.2.2.2.1
              rw [hg6] at q
              have q2 : (alv dd1 (tPre st9 ++ cAd cx)).length = (alv dd1 (tPre st9)).length + (alv dd1 (cAd cx)).length := by simp [alv, List.filter_append]
              omega
            have hsz7 : tSz (plug cx st9) = tSz tc + 1 := by rw [hplg, insG_sz]
            have hperm8 : (tPre (plug cx (bldG (ltA dt1) d 60 cx.length (alv dd1 (tPre st9))))).Perm (alv dd1 (tPre st9) ++ cAd cx) := (plug_perm _ _).trans ((bldG_perm (ltA dt1) d 60 cx.length (alv dd1 (tPre st9)) hal).append_right _)
            rw [c6] at hl
            have hl : lv_has ls 8 [(7, .ref xc6), (6, .ref q1), (0, .ref x), (1, .int (nI i)), (2, .int xx), (3, .int yy), (4, .int zz), (5, .int ww)] := hl
            refine lv_aload_n hx hb dX6_put_128 rfl (lv_at hl 2 rfl) ?_
            refine lv_dup hx hb dX6_put_129 rfl ?_
            refine g_get (C := RX6) (T := TX6) (N := 9) hx hb hts hi6 hown hN hW.1 (hK2 _ _ kx) rfl (by decide) 7 (by decide) hfX6_90 (v := .int (nI bc)) ((hx7 7 (by decide)).trans x7) dX6_put_130 ?_
            refine lv_iconst (v := nI 1) hx hb dX6_put_133 (by decide) ?_
            refine lv_iadd hx hb dX6_put_134 ?_
            refine g_asi (show _ = nI (bc + 1) from (nI_add _ _).trans (by rfl)) ?_
            refine g_put (C := RX6) (T := TX6) (N := 9) hx hb hts hi6 tyX6 tyX6_ok nmX6 hown hN hW (hK2 _ _ kx) rfl (by decide) 7 (by decide) hfX6_90 rfl rfl rfl dX6_put_135 (fun H locs hW => ?_)
            generalize hF8 : (gU F7 x 7 (.int (nI (bc + 1)))) = F8 at hW
            have F8f : ∀ b j, ¬ (b = x ∧ j = 7) → F8 b j = F7 b j := fun b j hb => by rw [← hF8, gU_ne hb]
            have F8T : ∀ j, F8 T j = F7 T j := fun j => F8f T j (fun z => kne kT kx (by decide) z.1)
            have F8x7 : F8 x 7 = .int (nI (bc + 1)) := by rw [← hF8]; exact gU_self
            have hC8 : CT F8 d (plug cx st9) none 0 := CT_congr (fun a ha j _ => F8f a j (fun z => kne (hND7 a (hp7.mem_iff.mp ha)).1.1 (hK2 _ _ kx) (by decide) z.1)) hC7
            have hND8 : NDs K5 F8 dt1 pl1 dd1 (q1 :: tPre tc) := NDs_congr (fun b j hb => F8f b j (fun z => by
              rcases hb with hb | hb
              · exact kne hb.1 (hK2 _ _ kx) (by decide) z.1
              · exact kne hb (hK2 _ _ kx) (by decide) z.1)) hND7
            have hT7 : ∀ j, j ≠ 2 → F7 T j = F T j := fun j hj => (hf7 T j (fun z => kne (hK2 _ _ kT) z.1 (by decide) rfl) (fun z => hj z.2)).trans (hT6 j)
            refine lv_aload_n hx hb dX6_put_138 rfl (lv_at hl 2 rfl) ?_
            refine g_get (C := RX6) (T := TX6) (N := 9) hx hb hts hi6 hown hN hW.1 (hK2 _ _ kx) rfl (by decide) 2 (by decide) hfX6_33 (v := .ref T) ((F8f x 2 (fun z => absurd z.2 (by decide))).trans ((hx7 2 (by decide)).trans x2)) dX6_put_139 ?_
            refine lv_aload hx hb dX6_put_142 (lv_at hl 0 rfl) ?_
            refine g_mV (As := [.ref xc6]) (b := T) (rest := []) hx hb hml hown hts hN hW (c_buildAnew l Γ K5 F8 H.size T xc6 row d bp cx st9 dt1 pl1 dd1 (hK2 _ _ kT) (hK2 _ _ krow) ((F8T 0).trans ((hT7 0 (by decide)).trans t0)) ((F8T 1).trans ((hT7 1 (by decide)).trans t1)) ((F8T 2).trans h72) ((F8T 3).trans ((hT7 3 (by decide)).trans t3)) hC8 hold (NDs_sub hND8 (fun a ha => hp7.mem_iff.mp ha)) (hp7.symm.nodup_iff.mp hq6.1) (by rw [hsz7]; omega) hal hd1 hd4) gX6_put_X5_buildAnew rfl (hK2 _ _ kT) (by decide) rfl (na := 1) rfl (by decide +kernel) ⟨by decide, by decide⟩ ⟨Nat.le_of_ble_eq_true rfl, Nat.le_of_ble_eq_true rfl⟩ rfl hl.1 (Nat.le_of_ble_eq_true rfl) dX6_put_144 (fun v K' F9 H locs hp hW hsz' => ?_)
            obtain ⟨rfl, hK9, hC9, h92, h93, hf9⟩ := hp
            subst K'
            show W _ _ _ _ _ _ _ _ _ _ _ _ _ _ _ (F0 m 147 ls [])
            have x9e : ∀ j, F9 x j = F8 x j := fun j => hf9 x j (fun z => kne (hK2 _ _ kx) z.1 (by decide) rfl) (fun z => kne kx kT (by decide) z.1) (kne kx krow (by decide))
            have hND9 : NDs K5 F9 dt1 pl1 dd1 (q1 :: tPre tc) := NDs_congr (fun b j hb => by
              refine hf9 b j (fun z => ?_) (fun z => ?_) (fun z => ?_)
              · rcases hb with hb | hb
                · omega
                · rw [hb] at z; cases z.1
              · rcases hb with hb | hb
                · exact kne hb.1 (hK2 _ _ kT) (by decide) z.1
                · exact kne hb (hK2 _ _ kT) (by decide) z.1
              · rcases hb with hb | hb
                · exact kne hb.1 (hK2 _ _ krow) (by decide) z
                · exact kne hb (hK2 _ _ krow) (by decide) z) hND8
            have hNT9 : NT K5 F9 x lb T row h ai ad J pts lens d (plug cx (bldG (ltA dt1) d 60 cx.length (alv dd1 (tPre st9)))) (va_up nd i (some q1)) dt1 pl1 dd1 S lim lk (bc + 1) bg (bp + (alv dd1 (tPre st9)).length) := NT_mk hNT hK2 (fun b k j hb hk2 b1 b2 b3 b4 => by
                have n2 : ¬ (K5 b = some (2, 0) ∧ 3 ≤ j) := fun z => hk2 (Option.some.inj ((hK2 _ _ hb).symm.trans z.1))
                exact (hf9 b j n2 (fun z => b3 z.1) b4).trans ((F8f b j (fun z => b2 z.1)).trans ((hf7 b j n2 (fun z => b3 z.1)).trans (F6e b j k hb b1 (fun z => b2 z.1))))) (fun j h5 h7 _ => (x9e j).trans ((F8f x j (fun z => h7 z.2)).trans (hx7 j h5))) (by rw [hg6, x9e, F8f x 5 (fun z => absurd z.2 (by decide)), x7e]; exact F6x) ((x9e 7).trans F8x7) ((x9e 8).trans ((F8f x 8 (fun z => absurd z.2 (by decide))).trans ((hx7 8 (by decide)).trans x8))) (fun j hj => (hf9 T j (fun z => kne (hK2 _ _ kT) z.1 (by decide) rfl) (fun z => by omega) (kne kT krow (by decide))).trans ((F8T j).trans (hT7 j (by omega)))) h92 h93 hC9 (fun j hj => (hf9 lb j (fun z => kne (hK2 _ _ klb) z.1 (by decide) rfl) (fun z => kne klb kT (by decide) z.1) (kne klb krow (by decide))).trans ((F8f lb j (fun z => kne klb kx (by decide) z.1)).trans ((hf7 lb j (fun z => kne (hK2 _ _ klb) z.1 (by decide) rfl) (fun z => kne klb kT (by decide) z.1)).trans (F6r j hj)))) (NDs_sub hND9 (fun a ha => by
                  have q := hperm8.mem_iff.mp ha
                  refine (hp7.symm.trans (plug_perm cx st9)).mem_iff.mpr (List.mem_append.mpr ((List.mem_append.mp q).imp (fun z => alv_sub z) (fun z => z))))) (NTq.p ((NTq.bld hq7).perm hperm8.symm) (by
                    rw [hg6, ← tPre_len, hperm8.length_eq, List.length_append]
                    have q1 := alv_len (dd := dd1) (L := tPre st9)
                    have q2 := plug_sz cx st9
                    rw [hsz7] at q2
                    rw [tPre_len] at q1
                    omega) (by rw [hg6]; omega))
            refine lv_aload_n hx hb dX6_put_147 rfl (lv_at hl 2 rfl) ?_
            refine g_get (C := RX6) (T := TX6) (N := 9) hx hb hts hi6 hown hN hW.1 (hK2 _ _ kx) rfl (by decide) 5 (by decide) hfX6_66 (v := .int (nI ((gLive nd 100).length + 1))) ((x9e 5).trans ((F8f x 5 (fun z => absurd z.2 (by decide))).trans ((x7e 5).trans F6x))) dX6_put_148 ?_
            exact hret (some (.int (nI ((gLive nd 100).length + 1)))) _ _ _ _ _ _ _ _ (Nat.le_of_ble_eq_true rfl) (Nat.le_of_ble_eq_true rfl) hW (⟨i, q1, q2, hi, rfl, c3, c4, c5, hqt, by rw [← hdt1, ← hdd1, ← hpl1, hpt]; exact hNT9, rfl⟩) (rt_i dX6_put_151)
        · have c5 : 60 ≤ (gLive nd 100).length := Nat.not_lt.mp (fun z => c5 ((nI_ltI (by omega) (by omega)).mpr z))
          exact hthr nISE "put: the id is live, or no more points can be" 69 71 73 48 _ _ ls (Or.inr ⟨rfl, ⟨c1, c3⟩, Or.inr c5⟩) x_ISE (show (71, "put: the id is live, or no more points can be") ∈ gStr by decide +kernel) (by decide +kernel) (by decide +kernel) (fun w h => List.mem_cons_of_mem _ (List.mem_append_right _ h)) dX6_put_48 dX6_put_51 dX6_put_52 dX6_put_54 dX6_put_57 (by decide) (by decide) (by decide) hW hl.1
    · have c3 : (okPl d xx yy zz ww) = false := bI_0.mp c3
      exact hthr nIAE "put: the id or a number that counts is out of range" 59 61 63 20 _ _ ls (Or.inl ⟨rfl, fun z => by rw [c3] at z; cases z.2⟩) x_IAE (show (61, "put: the id or a number that counts is out of range") ∈ gStr by decide +kernel) (by decide +kernel) (by decide +kernel) (fun w h => List.mem_cons_of_mem _ (List.mem_append_left _ (List.mem_append_right _ h))) dX6_put_20 dX6_put_23 dX6_put_24 dX6_put_26 dX6_put_29 (by decide) (by decide) (by decide) hW hl.1
