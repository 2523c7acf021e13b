theorem gLive_mem {nd : Nat → Option Nat} {k a : Nat} : a ∈ gLive nd k ↔ ∃ i, i < k ∧ nd i = some a := by
  simp [gLive, List.mem_filterMap]
theorem gLive_nodup {nd : Nat → Option Nat} {dt : Nat → gPt} (h : ∀ i a, i < 100 → nd i = some a → (dt a).1 = i) : ∀ k, k ≤ 100 → (gLive nd k).Nodup
  | 0, _ => List.nodup_nil
  | k + 1, hk => by
    have ih := gLive_nodup h k (by omega)
    cases e : nd k with
    | none => rw [gLive_none e]; exact ih
    | some a =>
      rw [gLive_some e, List.nodup_append]
      refine ⟨ih, by simp, fun x hx y hy => ?_⟩
      rw [List.mem_singleton.mp hy]
      intro exa
      obtain ⟨i, hi, hia⟩ := gLive_mem.mp hx
      have h1 := h i x (by omega) hia
      have h2 := h k a (by omega) e
      rw [exa] at h1
      omega
theorem NT_congr {K : gK} {F F' : gF} {x lb T row h ai ad J pts lens d : Nat} {tc : TT Nat} {nd : Nat → Option Nat} {dt : Nat → gPt} {pl : Nat → Nat} {dd : Nat → Bool} {S : List (Nat × Int64)} {lim lk bc bg bp : Nat} (hNT : NT K F x lb T row h ai ad J pts lens d tc nd dt pl dd S lim lk bc bg bp)
    (hf : ∀ b i, b ≠ pts → b ≠ lens → b ≠ row → ¬ (b = J ∧ 2 ≤ i) → F' b i = F b i) (hp : ∃ st, prR K F' J st) : NT K F' x lb T row h ai ad J pts lens d tc nd dt pl dd S lim lk bc bg bp := by
  obtain ⟨⟨kx, klb, kT, krow, kh, kai, kad, kJ, kpts, klens, krp⟩, hd, ⟨x0, x1, x2, x3, x4, x5, x6, x7, x8⟩, ⟨t0, t1, t2, t3, hC⟩, ⟨j0, j1, -⟩, hrN, hLS, hND, hp9⟩ := hNT
  have fx : ∀ i, F' x i = F x i := fun i => hf x i (kne kx kpts (by decide)) (kne kx klens (by decide)) (kne kx krow (by decide)) (fun z => kne kx kJ (by decide) z.1)
  have fT : ∀ i, F' T i = F T i := fun i => hf T i (kne kT kpts (by decide)) (kne kT klens (by decide)) (kne kT krow (by decide)) (fun z => kne kT kJ (by decide) z.1)
  have fh : ∀ i, F' h i = F h i := fun i => hf h i (kne kh kpts (by decide)) (kne kh klens (by decide)) (kne kh krow (by decide)) (fun z => kne kh kJ (by decide) z.1)
  have fai : ∀ i, F' ai i = F ai i := fun i => hf ai i (kne kai kpts (by decide)) (kne kai klens (by decide)) (kne kai krow (by decide)) (fun z => kne kai kJ (by decide) z.1)
  have fad : ∀ i, F' ad i = F ad i := fun i => hf ad i (kne kad kpts (by decide)) (kne kad klens (by decide)) (kne kad krow (by decide)) (fun z => kne kad kJ (by decide) z.1)
  have flb : ∀ i, F' lb i = F lb i := fun i => hf lb i (kne klb kpts (by decide)) (kne klb klens (by decide)) (kne klb krow (by decide)) (fun z => kne klb kJ (by decide) z.1)
  have fJ : ∀ i, i < 2 → F' J i = F J i := fun i hi => hf J i (kne kJ kpts (by decide)) (kne kJ klens (by decide)) (kne kJ krow (by decide)) (fun z => by omega)
  have fn : ∀ a i, K a = some (2, 0) → F' a i = F a i := fun a i ha => hf a i (kne ha kpts (by decide)) (kne ha klens (by decide)) (kne ha krow (by decide)) (fun z => kne ha kJ (by decide) z.1)
  have fp : ∀ a i, K a = some (3, 0) → F' a i = F a i := fun a i ha => hf a i (kne ha kpts (by decide)) (kne ha klens (by decide)) (kne ha krow (by decide)) (fun z => kne ha kJ (by decide) z.1)
  obtain ⟨l1, l2, l3, l4, l5, l6, l7, l8, l9, l10, l11, l12⟩ := hLS
  refine ⟨⟨kx, klb, kT, krow, kh, kai, kad, kJ, kpts, klens, krp⟩, hd, ⟨by rw [fx, x0], by rw [fx, x1], by rw [fx, x2], by rw [fx, x3], by rw [fx, x4], by rw [fx, x5], by rw [fx, x6], by rw [fx, x7], by rw [fx, x8]⟩, ⟨by rw [fT, t0], by rw [fT, t1], by rw [fT, t2], by rw [fT, t3], CT_congr (fun a ha k _ => fn a k (hND a ha).1.1) hC⟩, ⟨by rw [fJ 0 (by decide), j0], by rw [fJ 1 (by decide), j1], hp⟩, fun i hi => by rw [flb]; exact hrN i hi, ⟨l1, l2, l3, by rw [fh, l4], by rw [fh, l5], by rw [fh, l6], by rw [fh, l7], l8.keep (fun j _ _ => fai j), l9.keep (fun j _ _ => fad j), l10, l11, l12⟩, NDs_congr (fun b j q => q.elim (fun q => fn b j q.1) (fun q => fp b j q)) hND, hp9⟩
/-- where the first one stands that is meant -/
def locG {α : Type} (P : α → Bool) : TT α → cxT α → Option (cxT α × TT α × TT α)
  | .leaf, _ => none
  | .inner _ a _ l r, c => if P a then some (c, l, r) else match locG P l ((true, a, r) :: c) with
    | some q => some q
    | none => locG P r ((false, a, l) :: c)
theorem locG_some {α : Type} {P : α → Bool} : ∀ {t : TT α} {c : cxT α}, (∃ a ∈ tPre t, P a = true) → ∃ q, locG P t c = some q := by
  intro t
  induction t with
  | leaf => intro c h; obtain ⟨a, ha, -⟩ := h; cases ha
  | inner s b v l r ihl ihr =>
    intro c h
    unfold locG
    split
    · exact ⟨_, rfl⟩
    · next hb =>
      cases e : locG P l ((true, b, r) :: c) with
      | some q => exact ⟨q, rfl⟩
      | none =>
        obtain ⟨a, ha, hp⟩ := h
        rcases List.mem_cons.mp ha with q | q
        · rw [q] at hp; exact absurd hp hb
        · rcases List.mem_append.mp q with q | q
          · obtain ⟨z, hz⟩ := ihl (c := (true, b, r) :: c) ⟨a, q, hp⟩
            rw [hz] at e; cases e
          · exact ihr ⟨a, q, hp⟩
theorem locG_CT {F : gF} {d a : Nat} : ∀ {t : TT Nat} {c0 c : cxT Nat} {l r : TT Nat}, CT F d t (cTop c0) c0.length → PXr F d c0 (tRt t) → (tPre t ++ cAd c0).Nodup → locG (fun b => decide (b = a)) t c0 = some (c, l, r) → CT F d (tN l a r) (cTop c) c.length ∧ PXr F d c (some a) ∧ (a :: (tPre l ++ tPre r) ++ cAd c).Nodup ∧ ∀ z, z ∈ cPath c → z ∈ cPath c0 ∨ z ∈ tPre t := by
  intro t
  induction t with
  | leaf => intro c0 c l r _ _ _ h; cases h
  | inner s b v L R ihl ihr =>
    intro c0 c l r hC hP hn h
    unfold locG at h
    split at h
    · next hb =>
      have hb := of_decide_eq_true hb
      subst hb
      cases h
      exact ⟨hC, hP, hn, fun z hz => Or.inl hz⟩
    · obtain ⟨h1, h2, h3, h4, h5, h6, h7, h8⟩ := hC
      have hnl : (tPre L ++ cAd ((true, b, R) :: c0)).Nodup := by
        have hp : (tPre L ++ cAd ((true, b, R) :: c0)).Perm (b :: (tPre L ++ tPre R) ++ cAd c0) := by
          show (tPre L ++ b :: (tPre R ++ cAd c0)).Perm (b :: (tPre L ++ tPre R ++ cAd c0))
          rw [List.append_assoc]
          exact List.perm_middle
        exact hp.nodup_iff.mpr hn
      have hnr : (tPre R ++ cAd ((false, b, L) :: c0)).Nodup := by
        have hp : (tPre R ++ cAd ((false, b, L) :: c0)).Perm (b :: (tPre L ++ tPre R) ++ cAd c0) := by
          show (tPre R ++ b :: (tPre L ++ cAd c0)).Perm (b :: (tPre L ++ tPre R ++ cAd c0))
          refine List.perm_middle.trans (List.Perm.cons b ?_)
          rw [← List.append_assoc]
          exact List.Perm.append_right _ List.perm_append_comm
        exact hp.nodup_iff.mpr hn
      split at h
      · next q e =>
        cases h
        obtain ⟨g1, g2, g3, g4⟩ := ihl (c0 := (true, b, R) :: c0) h7 ⟨h1, h2, h4, h5, h6, h8, hP⟩ hnl e
        refine ⟨g1, g2, g3, fun z hz => ?_⟩
        rcases g4 z hz with q | q
        · rcases List.mem_cons.mp q with q | q
          · exact Or.inr (by rw [q]; exact List.mem_cons_self)
          · exact Or.inl q
        · exact Or.inr (List.mem_cons_of_mem _ (List.mem_append_left _ q))
      · obtain ⟨g1, g2, g3, g4⟩ := ihr (c0 := (false, b, L) :: c0) h8 ⟨h1, h2, h4, h5, h6, h7, hP⟩ hnr h
        refine ⟨g1, g2, g3, fun z hz => ?_⟩
        rcases g4 z hz with q | q
        · rcases List.mem_cons.mp q with q | q
          · exact Or.inr (by rw [q]; exact List.mem_cons_self)
          · exact Or.inl q
        · exact Or.inr (List.mem_cons_of_mem _ (List.mem_append_right _ q))
def nodeA {α : Type} (f : α → gPt × Bool) (q : cxT α × TT α × TT α) (w : Nat) : Int32 := if w = 0 then nI q.1.length else if w = 1 then nI (tSz q.2.1 + tSz q.2.2 + 1) else match q.1 with
  | [] => if w = 2 then -1 else 0
  | (b, a, _) :: _ => if w = 2 then nI (f a).1.1 else if w = 3 then bI (f a).2 else bI b
def walkA (y : gPt × Bool) : Int32 := if y.2 then nI y.1.1 - nI 100 else nI y.1.1
theorem i32_nI {x : Int32} {n : Nat} (hn : n < 2 ^ 31) (h0 : ¬ x < 0) (h : x < nI n) : ∃ i : Nat, i < n ∧ x = nI i := by
  obtain ⟨i, hi, e⟩ := nI_of h0
  exact ⟨i, (nI_ltI hi hn).mp (e ▸ h), e⟩

set_option maxHeartbeats 4000000 in
set_option maxRecDepth 100000 in
theorem c_walk (l : Launch) (hfl : l.stackTraces = false) (Γ : gG) (K : gK) (F : gF) (sz : Nat) (x lb T row h ai ad J pts lens d : Nat) (tc : TT Nat) (nd : Nat → Option Nat) (dt : Nat → gPt) (pl : Nat → Nat) (dd : Nat → Bool) (S : List (Nat × Int64)) (lim lk bc bg bp : Nat) (hNT : NT K F x lb T row h ai ad J pts lens d tc nd dt pl dd S lim lk bc bg bp) (k9 : Int32) : gMX l yX6_walk wsX6_walk 8 1 6 Γ K F sz [.ref x, .int k9] (fun v K' F' => K' = K ∧ F' = F ∧ ∃ k a, k9 = nI k ∧ (tPre tc)[k]? = some a ∧ v = some (.int (walkA (dt a, dd a)))) (fun E => E = nIOB ∧ ¬ (¬ k9 < 0 ∧ k9 < nI (tSz tc))) := by
  refine g_mX (cc := cX6_walk) (maxL := 3) (ret := (some .int)) hfl rfl (by decide) rfl (Nat.le_of_ble_eq_true rfl) ?_
  intro p e s m args below meth c ls Z hsz hx hb hts hown hml hN hW hret hthr hl
  have hl : lv_has ls 3 [(0, .ref x), (1, .int k9)] := hl
  have hown : s.vm.findClass RX6 = some m.cls := hown
  have hi2 : ∀ w ∈ wsX20, w ∈ wsX6_walk := by decide +kernel
  have hi5 : ∀ w ∈ wsX50, w ∈ wsX6_walk := by decide +kernel
  have hi6 : ∀ w ∈ wsX60, w ∈ wsX6_walk := by decide +kernel
  have hfX6_33 : Cond.fieldLink RX6 33 (TX6 2).1 (TX6 2).2.1 (TX6 2).2.2.1 ∈ wsX6_walk := by decide +kernel
  have hfX6_100 : Cond.fieldLink RX6 100 (TX2 2).1 (TX2 2).2.1 (TX2 2).2.2.1 ∈ wsX6_walk := by decide +kernel
  have hfX6_114 : Cond.fieldLink RX6 114 (TX5 2).1 (TX5 2).2.1 (TX5 2).2.2.1 ∈ wsX6_walk := by decide +kernel
  have hfX6_158 : Cond.fieldLink RX6 158 (TX2 0).1 (TX2 0).2.1 (TX2 0).2.2.1 ∈ wsX6_walk := by decide +kernel
  obtain ⟨⟨kx, klb, kT, krow, kh, kai, kad, kJ, kpts, klens, krp⟩, ⟨hd1, hd4⟩, ⟨x0, x1, x2, x3, x4, x5, x6, x7, x8⟩, ⟨t0, t1, t2, t3, hC⟩, ⟨j0, j1, stJ, hstJ⟩, hrN, hLS, hND, ⟨p1, p2, p3, p4, p5, p6, p7⟩⟩ := id hNT
  have hlive : ∀ i a, i < 100 → nd i = some a → ndD K F a (pl a) (dt a) ∧ F a 2 = .int (bI (dd a)) := fun i a hi ha => hND a (p2 i a hi ha).1
  refine lv_iload_n hx hb dX6_walk_0 rfl (lv_at hl 1 rfl) ?_
  refine lv_if_ge (tgt := 8) hx hb dX6_walk_1 (by decide) (fun c1 => ?_) (fun c1 => ?_)
  · obtain ⟨k, hk31, rfl⟩ := nI_of (Int32.not_lt.mpr c1)
    refine lv_aload_n hx hb dX6_walk_8 rfl (lv_at hl 0 rfl) ?_
    refine g_get (C := RX6) (T := TX6) (N := 9) hx hb hts hi6 hown hN hW.1 kx rfl (by decide) 2 (by decide) hfX6_33 (v := .ref T) x2 dX6_walk_9 ?_
    refine g_get (C := RX5) (T := TX5) (N := 4) hx hb hts hi5 hown hN hW.1 kT rfl (by decide) 2 (by decide) hfX6_114 (v := va_rf (tRt tc)) t2 dX6_walk_12 ?_
    refine lv_iload_n hx hb dX6_walk_15 rfl (lv_at hl 1 rfl) ?_
    refine g_cS (v := (some (va_rf ((tPre tc)[k]?)))) (As := [va_rf (tRt tc), .int (nI k)]) (rest := []) hx hb hml hown hts hN hW.1 (c_nodeOnWalk l Γ K F (tRt tc) tc d none 0 k ((tPre tc)[k]?) rfl hC (fun a ha => (hND a ha).1.1) (by omega) hk31 rfl) gX6_walk_X5_nodeOnWalk rfl (na := 2) rfl (by decide +kernel) ⟨by decide, by decide⟩ ⟨Nat.zero_le _, Nat.zero_le _⟩ rfl hl.1 (Nat.le_of_ble_eq_true rfl) dX6_walk_16 ?_
    show W _ _ _ _ _ _ _ _ _ _ _ _ _ _ _ (F0 m 19 ls [va_rf ((tPre tc)[k]?)])
    refine g_astore_n (r := (tPre tc)[k]?) (lv' := [(2, va_rf ((tPre tc)[k]?)), (0, .ref x), (1, .int (nI k))]) hx hb dX6_walk_19 rfl hl (by decide) rfl (fun ls hl => ?_)
    refine g_aload_n (r := (tPre tc)[k]?) hx hb dX6_walk_20 rfl (lv_at hl 0 rfl) ?_
    refine g_ifnonnull (r := (tPre tc)[k]?) (tgt := 34) hx hb dX6_walk_21 (by decide) (fun xc2 c2 => ?_) (fun c2 => ?_)
    · have q := hND xc2 (List.mem_of_getElem? c2)
      rw [c2] at hl
      have hl : lv_has ls 3 [(2, .ref xc2), (0, .ref x), (1, .int (nI k))] := hl
      refine lv_aload_n hx hb dX6_walk_34 rfl (lv_at hl 0 rfl) ?_
      refine g_get (C := RX2) (T := TX2) (N := 9) hx hb hts hi2 hown hN hW.1 q.1.1 rfl (by decide) 2 (by decide) hfX6_100 (v := .int (bI (dd xc2))) q.2 dX6_walk_35 ?_
      refine lv_if_eq (tgt := 51) hx hb dX6_walk_38 (by decide) (fun c3 => ?_) (fun c3 => ?_)
      · have c3 : (dd xc2) = false := bI_0.mp c3
        refine lv_aload_n hx hb dX6_walk_51 rfl (lv_at hl 0 rfl) ?_
        refine g_get (C := RX2) (T := TX2) (N := 9) hx hb hts hi2 hown hN hW.1 q.1.1 rfl (by decide) 0 (by decide) hfX6_158 (v := .int (nI (dt xc2).1)) q.1.2.2.1 dX6_walk_52 ?_
        exact hret (some (.int (nI (dt xc2).1))) _ _ _ _ _ _ _ _ (Nat.le_of_ble_eq_true rfl) (Nat.le_of_ble_eq_true rfl) hW (⟨rfl, rfl, k, xc2, rfl, c2, by rw [show walkA (dt xc2, dd xc2) = nI (dt xc2).1 from by simp [walkA, c3]]⟩) (rt_i dX6_walk_55)
      · have c3 : (dd xc2) = true := bI_n0.mp c3
        refine lv_aload_n hx hb dX6_walk_41 rfl (lv_at hl 0 rfl) ?_
        refine g_get (C := RX2) (T := TX2) (N := 9) hx hb hts hi2 hown hN hW.1 q.1.1 rfl (by decide) 0 (by decide) hfX6_158 (v := .int (nI (dt xc2).1)) q.1.2.2.1 dX6_walk_42 ?_
        refine lv_bipush (v := nI 100) hx hb dX6_walk_45 (by decide) ?_
        refine lv_isub hx hb dX6_walk_47 ?_
        refine lv_goto (tgt := 55) hx hb dX6_walk_48 (by decide) ?_
        exact hret (some (.int ((nI (dt xc2).1) - (nI 100)))) _ _ _ _ _ _ _ _ (Nat.le_of_ble_eq_true rfl) (Nat.le_of_ble_eq_true rfl) hW (⟨rfl, rfl, k, xc2, rfl, c2, by rw [show walkA (dt xc2, dd xc2) = nI (dt xc2).1 - nI 100 from by simp [walkA, c3]]⟩) (rt_i dX6_walk_55)
    · exact hthr nIOB "walk: no such node" 168 241 172 24 _ _ ls (⟨rfl, fun z => by
          have h1 := (nI_ltI hk31 (show tSz tc < 2 ^ 31 by omega)).mp z.2
          have h2 := List.getElem?_eq_none_iff.mp c2
          rw [tPre_len] at h2
          omega⟩) x_IOB (show (241, "walk: no such node") ∈ gStr by decide +kernel) (by decide +kernel) (by decide +kernel) (fun w h => List.mem_cons_of_mem _ (List.mem_append_right _ h)) dX6_walk_24 dX6_walk_27 dX6_walk_28 dX6_walk_30 dX6_walk_33 (by decide) (by decide) (by decide) hW hl.1
  · refine lv_null hx hb dX6_walk_4 ?_
    refine lv_goto (tgt := 19) hx hb dX6_walk_5 (by decide) ?_
    refine lv_astore_nN (lv' := [(2, .null), (0, .ref x), (1, .int k9)]) hx hb dX6_walk_19 rfl hl (by decide) rfl (fun ls hl => ?_)
    refine lv_aload_nN hx hb dX6_walk_20 rfl (lv_at hl 0 rfl) ?_
    refine lv_ifnonnullN hx hb dX6_walk_21 ?_
    exact hthr nIOB "walk: no such node" 168 241 172 24 _ _ ls (⟨rfl, fun z => c1 (Int32.not_lt.mp z.1)⟩) x_IOB (show (241, "walk: no such node") ∈ gStr by decide +kernel) (by decide +kernel) (by decide +kernel) (fun w h => List.mem_cons_of_mem _ (List.mem_append_right _ h)) dX6_walk_24 dX6_walk_27 dX6_walk_28 dX6_walk_30 dX6_walk_33 (by decide) (by decide) (by decide) hW hl.1

def cntA (d lc : Nat) (t : TT Nat) (bc bg bp : Nat) (k : Nat) : Int32 := if k = 0 then nI d else if k = 1 then nI lc else if k = 2 then nI (tSz t) else if k = 3 then nI (tSz t) - nI lc else if k = 4 then nI (lvls (tDp t 0)) else if k = 5 then nI bc else if k = 6 then nI bg else nI bp

set_option maxHeartbeats 4000000 in
set_option maxRecDepth 100000 in
theorem c_count (l : Launch) (hfl : l.stackTraces = false) (Γ : gG) (K : gK) (F : gF) (sz : Nat) (x lb T row h ai ad J pts lens d : Nat) (tc : TT Nat) (nd : Nat → Option Nat) (dt : Nat → gPt) (pl : Nat → Nat) (dd : Nat → Bool) (S : List (Nat × Int64)) (lim lk bc bg bp : Nat) (hNT : NT K F x lb T row h ai ad J pts lens d tc nd dt pl dd S lim lk bc bg bp) (w9 : Int32) : gMX l yX6_count wsX6_count 8 1 6 Γ K F sz [.ref x, .int w9] (fun v K' F' => K' = K ∧ F' = F ∧ ∃ k, k < 8 ∧ w9 = nI k ∧ v = some (.int (cntA d (gLive nd 100).length tc bc bg bp k))) (fun E => E = nIAE ∧ ¬ (¬ w9 < 0 ∧ w9 < nI 8)) := by
  refine g_mX (cc := cX6_count) (maxL := 2) (ret := (some .int)) hfl rfl (by decide) rfl (Nat.le_of_ble_eq_true rfl) ?_
  intro p e s m args below meth c ls Z hsz hx hb hts hown hml hN hW hret hthr hl
  have hl : lv_has ls 2 [(0, .ref x), (1, .int w9)] := hl
  have hown : s.vm.findClass RX6 = some m.cls := hown
  have hi5 : ∀ w ∈ wsX50, w ∈ wsX6_count := by decide +kernel
  have hi6 : ∀ w ∈ wsX60, w ∈ wsX6_count := by decide +kernel
  have hfX6_18 : Cond.fieldLink RX6 18 (TX6 0).1 (TX6 0).2.1 (TX6 0).2.2.1 ∈ wsX6_count := by decide +kernel
  have hfX6_33 : Cond.fieldLink RX6 33 (TX6 2).1 (TX6 2).2.1 (TX6 2).2.2.1 ∈ wsX6_count := by decide +kernel
  have hfX6_66 : Cond.fieldLink RX6 66 (TX6 5).1 (TX6 5).2.1 (TX6 5).2.2.1 ∈ wsX6_count := by decide +kernel
  have hfX6_90 : Cond.fieldLink RX6 90 (TX6 7).1 (TX6 7).2.1 (TX6 7).2.2.1 ∈ wsX6_count := by decide +kernel
  have hfX6_111 : Cond.fieldLink RX6 111 (TX6 8).1 (TX6 8).2.1 (TX6 8).2.2.1 ∈ wsX6_count := by decide +kernel
  have hfX6_246 : Cond.fieldLink RX6 246 (TX5 3).1 (TX5 3).2.1 (TX5 3).2.2.1 ∈ wsX6_count := by decide +kernel
  obtain ⟨⟨kx, klb, kT, krow, kh, kai, kad, kJ, kpts, klens, krp⟩, ⟨hd1, hd4⟩, ⟨x0, x1, x2, x3, x4, x5, x6, x7, x8⟩, ⟨t0, t1, t2, t3, hC⟩, ⟨j0, j1, stJ, hstJ⟩, hrN, hLS, hND, ⟨p1, p2, p3, p4, p5, p6, p7⟩⟩ := id hNT
  have hlive : ∀ i a, i < 100 → nd i = some a → ndD K F a (pl a) (dt a) ∧ F a 2 = .int (bI (dd a)) := fun i a hi ha => hND a (p2 i a hi ha).1
  by_cases hq : ¬ w9 < 0 ∧ w9 < nI 8
  · obtain ⟨k, hk8, rfl⟩ := i32_nI (by decide) hq.1 hq.2
    rcases (show k = 0 ∨ k = 1 ∨ k = 2 ∨ k = 3 ∨ k = 4 ∨ k = 5 ∨ k = 6 ∨ k = 7 by omega) with rfl | rfl | rfl | rfl | rfl | rfl | rfl | rfl
    · refine lv_iload_n hx hb dX6_count_0 rfl (lv_at hl 1 rfl) ?_
      refine lv_tableIn (tgt := 48) hx hb dX6_count_1 (by decide) (by decide) (off := 47) (by decide) (by decide) ?_
      refine lv_aload_n hx hb dX6_count_48 rfl (lv_at hl 0 rfl) ?_
      refine g_get (C := RX6) (T := TX6) (N := 9) hx hb hts hi6 hown hN hW.1 kx rfl (by decide) 0 (by decide) hfX6_18 (v := .int (nI d)) x0 dX6_count_49 ?_
      exact hret (some (.int (nI d))) _ _ _ _ _ _ _ _ (Nat.le_of_ble_eq_true rfl) (Nat.le_of_ble_eq_true rfl) hW (⟨rfl, rfl, 0, by decide, rfl, rfl⟩) (rt_i dX6_count_52)
    · refine lv_iload_n hx hb dX6_count_0 rfl (lv_at hl 1 rfl) ?_
      refine lv_tableIn (tgt := 53) hx hb dX6_count_1 (by decide) (by decide) (off := 52) (by decide) (by decide) ?_
      refine lv_aload_n hx hb dX6_count_53 rfl (lv_at hl 0 rfl) ?_
      refine g_get (C := RX6) (T := TX6) (N := 9) hx hb hts hi6 hown hN hW.1 kx rfl (by decide) 5 (by decide) hfX6_66 (v := .int (nI (gLive nd 100).length)) x5 dX6_count_54 ?_
      exact hret (some (.int (nI (gLive nd 100).length))) _ _ _ _ _ _ _ _ (Nat.le_of_ble_eq_true rfl) (Nat.le_of_ble_eq_true rfl) hW (⟨rfl, rfl, 1, by decide, rfl, rfl⟩) (rt_i dX6_count_57)
    · refine lv_iload_n hx hb dX6_count_0 rfl (lv_at hl 1 rfl) ?_
      refine lv_tableIn (tgt := 58) hx hb dX6_count_1 (by decide) (by decide) (off := 57) (by decide) (by decide) ?_
      refine lv_aload_n hx hb dX6_count_58 rfl (lv_at hl 0 rfl) ?_
      refine g_get (C := RX6) (T := TX6) (N := 9) hx hb hts hi6 hown hN hW.1 kx rfl (by decide) 2 (by decide) hfX6_33 (v := .ref T) x2 dX6_count_59 ?_
      refine g_cV (v := (some (.int (nI (tSz tc))))) (As := []) (b := T) (rest := []) hx hb hml hown hts hN hW.1 (c_nodeCount l Γ K F T d tc kT t2 hC (fun a ha => (hND a ha).1.1)) gX6_count_X5_nodeCount rfl kT (by decide) rfl (na := 0) rfl (by decide +kernel) ⟨by decide, by decide⟩ ⟨Nat.zero_le _, Nat.zero_le _⟩ rfl hl.1 (Nat.le_of_ble_eq_true rfl) dX6_count_62 ?_
      show W _ _ _ _ _ _ _ _ _ _ _ _ _ _ _ (F0 m 65 ls [.int (nI (tSz tc))])
      exact hret (some (.int (nI (tSz tc)))) _ _ _ _ _ _ _ _ (Nat.le_of_ble_eq_true rfl) (Nat.le_of_ble_eq_true rfl) hW (⟨rfl, rfl, 2, by decide, rfl, rfl⟩) (rt_i dX6_count_65)
    · refine lv_iload_n hx hb dX6_count_0 rfl (lv_at hl 1 rfl) ?_
      refine lv_tableIn (tgt := 66) hx hb dX6_count_1 (by decide) (by decide) (off := 65) (by decide) (by decide) ?_
      refine lv_aload_n hx hb dX6_count_66 rfl (lv_at hl 0 rfl) ?_
      refine g_cV (v := (some (.int (nI (tSz tc) - nI (gLive nd 100).length)))) (As := []) (b := x) (rest := []) hx hb hml hown hts hN hW.1 (c_deadCount l Γ K F x lb T row h ai ad J pts lens d tc nd dt pl dd S lim lk bc bg bp hNT) gX6_count_X6_deadCount rfl kx (by decide) rfl (na := 0) rfl (by decide +kernel) ⟨by decide, by decide⟩ ⟨Nat.zero_le _, Nat.zero_le _⟩ rfl hl.1 (Nat.le_of_ble_eq_true rfl) dX6_count_67 ?_
      show W _ _ _ _ _ _ _ _ _ _ _ _ _ _ _ (F0 m 70 ls [.int (nI (tSz tc) - nI (gLive nd 100).length)])
      exact hret (some (.int (nI (tSz tc) - nI (gLive nd 100).length))) _ _ _ _ _ _ _ _ (Nat.le_of_ble_eq_true rfl) (Nat.le_of_ble_eq_true rfl) hW (⟨rfl, rfl, 3, by decide, rfl, rfl⟩) (rt_i dX6_count_70)
    · refine lv_iload_n hx hb dX6_count_0 rfl (lv_at hl 1 rfl) ?_
      refine lv_tableIn (tgt := 71) hx hb dX6_count_1 (by decide) (by decide) (off := 70) (by decide) (by decide) ?_
      refine lv_aload_n hx hb dX6_count_71 rfl (lv_at hl 0 rfl) ?_
      refine g_get (C := RX6) (T := TX6) (N := 9) hx hb hts hi6 hown hN hW.1 kx rfl (by decide) 2 (by decide) hfX6_33 (v := .ref T) x2 dX6_count_72 ?_
      refine g_cV (v := (some (.int (nI (lvls (tDp tc 0)))))) (As := []) (b := T) (rest := []) hx hb hml hown hts hN hW.1 (c_levels l Γ K F T d tc kT t2 hC (fun a ha => (hND a ha).1.1) (by omega)) gX6_count_X5_levels rfl kT (by decide) rfl (na := 0) rfl (by decide +kernel) ⟨by decide, by decide⟩ ⟨Nat.zero_le _, Nat.zero_le _⟩ rfl hl.1 (Nat.le_of_ble_eq_true rfl) dX6_count_75 ?_
      show W _ _ _ _ _ _ _ _ _ _ _ _ _ _ _ (F0 m 78 ls [.int (nI (lvls (tDp tc 0)))])
      exact hret (some (.int (nI (lvls (tDp tc 0))))) _ _ _ _ _ _ _ _ (Nat.le_of_ble_eq_true rfl) (Nat.le_of_ble_eq_true rfl) hW (⟨rfl, rfl, 4, by decide, rfl, rfl⟩) (rt_i dX6_count_78)
    · refine lv_iload_n hx hb dX6_count_0 rfl (lv_at hl 1 rfl) ?_
      refine lv_tableIn (tgt := 79) hx hb dX6_count_1 (by decide) (by decide) (off := 78) (by decide) (by decide) ?_
      refine lv_aload_n hx hb dX6_count_79 rfl (lv_at hl 0 rfl) ?_
      refine g_get (C := RX6) (T := TX6) (N := 9) hx hb hts hi6 hown hN hW.1 kx rfl (by decide) 7 (by decide) hfX6_90 (v := .int (nI bc)) x7 dX6_count_80 ?_
      exact hret (some (.int (nI bc))) _ _ _ _ _ _ _ _ (Nat.le_of_ble_eq_true rfl) (Nat.le_of_ble_eq_true rfl) hW (⟨rfl, rfl, 5, by decide, rfl, rfl⟩) (rt_i dX6_count_83)
    · refine lv_iload_n hx hb dX6_count_0 rfl (lv_at hl 1 rfl) ?_
      refine lv_tableIn (tgt := 84) hx hb dX6_count_1 (by decide) (by decide) (off := 83) (by decide) (by decide) ?_
      refine lv_aload_n hx hb dX6_count_84 rfl (lv_at hl 0 rfl) ?_
      refine g_get (C := RX6) (T := TX6) (N := 9) hx hb hts hi6 hown hN hW.1 kx rfl (by decide) 8 (by decide) hfX6_111 (v := .int (nI bg)) x8 dX6_count_85 ?_
      exact hret (some (.int (nI bg))) _ _ _ _ _ _ _ _ (Nat.le_of_ble_eq_true rfl) (Nat.le_of_ble_eq_true rfl) hW (⟨rfl, rfl, 6, by decide, rfl, rfl⟩) (rt_i dX6_count_88)
    · refine lv_iload_n hx hb dX6_count_0 rfl (lv_at hl 1 rfl) ?_
      refine lv_tableIn (tgt := 89) hx hb dX6_count_1 (by decide) (by decide) (off := 88) (by decide) (by decide) ?_
      refine lv_aload_n hx hb dX6_count_89 rfl (lv_at hl 0 rfl) ?_
      refine g_get (C := RX6) (T := TX6) (N := 9) hx hb hts hi6 hown hN hW.1 kx rfl (by decide) 2 (by decide) hfX6_33 (v := .ref T) x2 dX6_count_90 ?_
      refine g_get (C := RX5) (T := TX5) (N := 4) hx hb hts hi5 hown hN hW.1 kT rfl (by decide) 3 (by decide) hfX6_246 (v := .int (nI bp)) t3 dX6_count_93 ?_
      exact hret (some (.int (nI bp))) _ _ _ _ _ _ _ _ (Nat.le_of_ble_eq_true rfl) (Nat.le_of_ble_eq_true rfl) hW (⟨rfl, rfl, 7, by decide, rfl, rfl⟩) (rt_i dX6_count_96)
  · refine lv_iload_n hx hb dX6_count_0 rfl (lv_at hl 1 rfl) ?_
    have hout : w9.toInt < 0 ∨ 7 < w9.toInt := by
      rcases Int.lt_or_le w9.toInt 0 with q | q
      · exact Or.inl q
      · refine Or.inr ?_
        have h8 : ¬ w9 < nI 8 := fun z => hq ⟨fun y => by have := Int32.lt_iff_toInt_lt.mp y; rw [Int32.toInt_zero] at this; omega, z⟩
        have := Int32.le_iff_toInt_le.mp (Int32.not_lt.mp h8)
        rw [show (nI 8).toInt = 8 from by decide] at this
        omega
    refine lv_tableOut (tgt := 97) hx hb dX6_count_1 hout (by decide) ?_
    exact hthr nIAE "count: what is out of range" 59 249 63 97 _ _ ls (⟨rfl, hq⟩) x_IAE (show (249, "count: what is out of range") ∈ gStr by decide +kernel) (by decide +kernel) (by decide +kernel) (fun w h => List.mem_cons_of_mem _ (List.mem_append_right _ h)) dX6_count_97 dX6_count_100 dX6_count_101 dX6_count_103 dX6_count_106 (by decide) (by decide) (by decide) hW hl.1

set_option maxHeartbeats 4000000 in
set_option maxRecDepth 100000 in
theorem c_node (l : Launch) (hfl : l.stackTraces = false) (Γ : gG) (K : gK) (F : gF) (sz : Nat) (x lb T row h ai ad J pts lens d : Nat) (tc : TT Nat) (nd : Nat → Option Nat) (dt : Nat → gPt) (pl : Nat → Nat) (dd : Nat → Bool) (S : List (Nat × Int64)) (lim lk bc bg bp : Nat) (hNT : NT K F x lb T row h ai ad J pts lens d tc nd dt pl dd S lim lk bc bg bp) (d9 w9 : Int32) : gMX l yX6_node wsX6_node 8 1 6 Γ K F sz [.ref x, .int d9, .int w9] (fun v K' F' => K' = K ∧ F' = F ∧ ∃ i w a q, i < 100 ∧ w < 5 ∧ d9 = nI i ∧ w9 = nI w ∧ nd i = some a ∧ locG (fun b => decide (b = a)) tc [] = some q ∧ v = some (.int (nodeA (fun a => (dt a, dd a)) q w))) (fun E => (E = nIAE ∧ ¬ (okId d9 = true ∧ ¬ w9 < 0 ∧ w9 ≤ nI 4)) ∨ (E = nISE ∧ (okId d9 = true ∧ ¬ w9 < 0 ∧ w9 ≤ nI 4) ∧ ∀ i, d9 = nI i → i < 100 → nd i = none)) := by
  refine g_mX (cc := cX6_node) (maxL := 5) (ret := (some .int)) hfl rfl (by decide) rfl (Nat.le_of_ble_eq_true rfl) ?_
  intro p e s m args below meth c ls Z hsz hx hb hts hown hml hN hW hret hthr hl
  have hl : lv_has ls 5 [(0, .ref x), (1, .int d9), (2, .int w9)] := hl
  have hown : s.vm.findClass RX6 = some m.cls := hown
  have hi2 : ∀ w ∈ wsX20, w ∈ wsX6_node := by decide +kernel
  have hi6 : ∀ w ∈ wsX60, w ∈ wsX6_node := by decide +kernel
  have hfX6_24 : Cond.fieldLink RX6 24 (TX6 1).1 (TX6 1).2.1 (TX6 1).2.2.1 ∈ wsX6_node := by decide +kernel
  have hfX6_100 : Cond.fieldLink RX6 100 (TX2 2).1 (TX2 2).2.1 (TX2 2).2.2.1 ∈ wsX6_node := by decide +kernel
  have hfX6_158 : Cond.fieldLink RX6 158 (TX2 0).1 (TX2 0).2.1 (TX2 0).2.2.1 ∈ wsX6_node := by decide +kernel
  have hfX6_227 : Cond.fieldLink RX6 227 (TX2 6).1 (TX2 6).2.1 (TX2 6).2.2.1 ∈ wsX6_node := by decide +kernel
  have hfX6_230 : Cond.fieldLink RX6 230 (TX2 3).1 (TX2 3).2.1 (TX2 3).2.2.1 ∈ wsX6_node := by decide +kernel
  have hfX6_233 : Cond.fieldLink RX6 233 (TX2 5).1 (TX2 5).2.1 (TX2 5).2.2.1 ∈ wsX6_node := by decide +kernel
  have hfX6_234 : Cond.fieldLink RX6 234 (TX2 7).1 (TX2 7).2.1 (TX2 7).2.2.1 ∈ wsX6_node := by decide +kernel
  obtain ⟨⟨kx, klb, kT, krow, kh, kai, kad, kJ, kpts, klens, krp⟩, ⟨hd1, hd4⟩, ⟨x0, x1, x2, x3, x4, x5, x6, x7, x8⟩, ⟨t0, t1, t2, t3, hC⟩, ⟨j0, j1, stJ, hstJ⟩, hrN, hLS, hND, ⟨p1, p2, p3, p4, p5, p6, p7⟩⟩ := id hNT
  have hlive : ∀ i a, i < 100 → nd i = some a → ndD K F a (pl a) (dt a) ∧ F a 2 = .int (bI (dd a)) := fun i a hi ha => hND a (p2 i a hi ha).1
  refine lv_iload_n hx hb dX6_node_0 rfl (lv_at hl 1 rfl) ?_
  refine g_cS (v := (some (.int (bI (okId d9))))) (As := [.int d9]) (rest := []) hx hb hml hown hts hN hW.1 (c_isId l Γ K F d9) gX6_node_X6_isId rfl (na := 1) rfl (by decide +kernel) ⟨by decide, by decide⟩ ⟨Nat.zero_le _, Nat.zero_le _⟩ rfl hl.1 (Nat.le_of_ble_eq_true rfl) dX6_node_1 ?_
  show W _ _ _ _ _ _ _ _ _ _ _ _ _ _ _ (F0 m 4 ls [.int (bI (okId d9))])
  refine lv_if_eq (tgt := 16) hx hb dX6_node_4 (by decide) (fun c1 => ?_) (fun c1 => ?_)
  · have c1 : (okId d9) = false := bI_0.mp c1
    exact hthr nIAE "node: the id or what is out of range" 59 223 63 16 _ _ ls (Or.inl ⟨rfl, fun z => by rw [c1] at z; cases z.1⟩) x_IAE (show (223, "node: the id or what is out of range") ∈ gStr by decide +kernel) (by decide +kernel) (by decide +kernel) (fun w h => List.mem_cons_of_mem _ (List.mem_append_left _ (List.mem_append_right _ h))) dX6_node_16 dX6_node_19 dX6_node_20 dX6_node_22 dX6_node_25 (by decide) (by decide) (by decide) hW hl.1
  · have c1 : (okId d9) = true := bI_n0.mp c1
    refine lv_iload_n hx hb dX6_node_7 rfl (lv_at hl 2 rfl) ?_
    refine lv_if_lt (tgt := 16) hx hb dX6_node_8 (by decide) (fun c2 => ?_) (fun c2 => ?_)
    · exact hthr nIAE "node: the id or what is out of range" 59 223 63 16 _ _ ls (Or.inl ⟨rfl, fun z => z.2.1 c2⟩) x_IAE (show (223, "node: the id or what is out of range") ∈ gStr by decide +kernel) (by decide +kernel) (by decide +kernel) (fun w h => List.mem_cons_of_mem _ (List.mem_append_left _ (List.mem_append_right _ h))) dX6_node_16 dX6_node_19 dX6_node_20 dX6_node_22 dX6_node_25 (by decide) (by decide) (by decide) hW hl.1
    · refine lv_iload_n hx hb dX6_node_11 rfl (lv_at hl 2 rfl) ?_
      refine lv_iconst (v := nI 4) hx hb dX6_node_12 (by decide) ?_
      refine lv_icmp_le (tgt := 26) hx hb dX6_node_13 (by decide) (fun c3 => ?_) (fun c3 => ?_)
      · obtain ⟨i, hi, rfl⟩ := okId_nI c1
        obtain ⟨w, hw, rfl⟩ : ∃ w : Nat, w < 5 ∧ w9 = nI w := by
          obtain ⟨w, hw, e⟩ := nI_of c2
          rw [e] at c3
          have := (nI_leI hw (by decide)).mp c3
          exact ⟨w, by omega, e⟩
        refine lv_aload_n hx hb dX6_node_26 rfl (lv_at hl 0 rfl) ?_
        refine g_get (C := RX6) (T := TX6) (N := 9) hx hb hts hi6 hown hN hW.1 kx rfl (by decide) 1 (by decide) hfX6_24 (v := .ref lb) x1 dX6_node_27 ?_
        refine lv_iload_n hx hb dX6_node_30 rfl (lv_at hl 1 rfl) ?_
        refine g_aald (j := i) hx hb hN hW.1 klb (by decide) (show _ = nI i from rfl) hi (v := va_rf (nd i)) (hrN i hi) dX6_node_31 ?_
        refine g_astore_n (r := nd i) (lv' := [(3, va_rf (nd i)), (0, .ref x), (1, .int (nI i)), (2, .int (nI w))]) hx hb dX6_node_32 rfl hl (by decide) rfl (fun ls hl => ?_)
        refine g_aload_n (r := nd i) hx hb dX6_node_33 rfl (lv_at hl 0 rfl) ?_
        refine g_ifnonnull (r := nd i) (tgt := 47) hx hb dX6_node_34 (by decide) (fun xc4 c4 => ?_) (fun c4 => ?_)
        · have ha := p2 i xc4 hi c4
          obtain ⟨⟨cx, l9, r9⟩, hq9⟩ := locG_some (P := fun b => decide (b = xc4)) (c := []) ⟨xc4, ha.1, by simp⟩
          obtain ⟨hC9, hP9, hn9, hs9⟩ := locG_CT (c0 := []) hC trivial (by simpa [cAd] using p1) hq9
          obtain ⟨g3, g4, g5, g6, g7, g8, -, -⟩ := id hC9
          have hka := (hND xc4 ha.1).1.1
          rw [c4] at hl
          have hl : lv_has ls 5 [(3, .ref xc4), (0, .ref x), (1, .int (nI i)), (2, .int (nI w))] := hl
          refine lv_aload_n hx hb dX6_node_47 rfl (lv_at hl 0 rfl) ?_
          refine g_get (C := RX2) (T := TX2) (N := 9) hx hb hts hi2 hown hN hW.1 hka rfl (by decide) 6 (by decide) hfX6_227 (v := va_rf (cTop cx)) g6 dX6_node_48 ?_
          refine g_astore (r := cTop cx) (lv' := [(4, va_rf (cTop cx)), (3, .ref xc4), (0, .ref x), (1, .int (nI i)), (2, .int (nI w))]) hx hb dX6_node_51 hl (by decide) rfl (fun ls hl => ?_)
          refine lv_iload_n hx hb dX6_node_53 rfl (lv_at hl 4 rfl) ?_
          rcases (show w = 0 ∨ w = 1 ∨ w = 2 ∨ w = 3 ∨ w = 4 by omega) with rfl | rfl | rfl | rfl | rfl
          · refine lv_tableIn (tgt := 84) hx hb dX6_node_54 (by decide) (by decide) (off := 30) (by decide) (by decide) ?_
            refine lv_aload_n hx hb dX6_node_84 rfl (lv_at hl 1 rfl) ?_
            refine g_get (C := RX2) (T := TX2) (N := 9) hx hb hts hi2 hown hN hW.1 hka rfl (by decide) 3 (by decide) hfX6_230 (v := .int (nI cx.length)) g3 dX6_node_85 ?_
            exact hret (some (.int (nI cx.length))) _ _ _ _ _ _ _ _ (Nat.le_of_ble_eq_true rfl) (Nat.le_of_ble_eq_true rfl) hW (⟨rfl, rfl, i, 0, xc4, _, hi, by decide, rfl, rfl, c4, hq9, rfl⟩) (rt_i dX6_node_88)
          · refine lv_tableIn (tgt := 89) hx hb dX6_node_54 (by decide) (by decide) (off := 35) (by decide) (by decide) ?_
            refine lv_aload_n hx hb dX6_node_89 rfl (lv_at hl 1 rfl) ?_
            refine g_get (C := RX2) (T := TX2) (N := 9) hx hb hts hi2 hown hN hW.1 hka rfl (by decide) 5 (by decide) hfX6_233 (v := .int (nI (tSz l9 + tSz r9 + 1))) g5 dX6_node_90 ?_
            exact hret (some (.int (nI (tSz l9 + tSz r9 + 1)))) _ _ _ _ _ _ _ _ (Nat.le_of_ble_eq_true rfl) (Nat.le_of_ble_eq_true rfl) hW (⟨rfl, rfl, i, 1, xc4, _, hi, by decide, rfl, rfl, c4, hq9, rfl⟩) (rt_i dX6_node_93)
          · refine lv_tableIn (tgt := 94) hx hb dX6_node_54 (by decide) (by decide) (off := 40) (by decide) (by decide) ?_
            rcases cx with _ | ⟨⟨bo, b, o⟩, cx⟩
            · have hl : lv_has ls 5 [(4, .null), (3, .ref xc4), (0, .ref x), (1, .int (nI i)), (2, .int (nI 2))] := hl
              refine lv_aloadN hx hb dX6_node_94 (lv_at hl 0 rfl) ?_
              refine lv_ifnonnullN hx hb dX6_node_96 ?_
              refine lv_iconst (v := (-1)) hx hb dX6_node_99 (by decide) ?_
              refine lv_goto (tgt := 108) hx hb dX6_node_100 (by decide) ?_
              exact hret (some (.int (-1))) _ _ _ _ _ _ _ _ (Nat.le_of_ble_eq_true rfl) (Nat.le_of_ble_eq_true rfl) hW (⟨rfl, rfl, i, 2, xc4, _, hi, by decide, rfl, rfl, c4, hq9, rfl⟩) (rt_i dX6_node_108)
            · have hl : lv_has ls 5 [(4, .ref b), (3, .ref xc4), (0, .ref x), (1, .int (nI i)), (2, .int (nI 2))] := hl
              have hbt : b ∈ tPre tc := (hs9 b List.mem_cons_self).elim (fun z => by cases z) (fun z => z)
              have qb := hND b hbt
              refine lv_aload hx hb dX6_node_94 (lv_at hl 0 rfl) ?_
              refine lv_ifnonnull (tgt := 103) hx hb dX6_node_96 (by decide) ?_
              refine lv_aload hx hb dX6_node_103 (lv_at hl 0 rfl) ?_
              refine g_get (C := RX2) (T := TX2) (N := 9) hx hb hts hi2 hown hN hW.1 qb.1.1 rfl (by decide) 0 (by decide) hfX6_158 (v := .int (nI (dt b).1)) qb.1.2.2.1 dX6_node_105 ?_
              exact hret (some (.int (nI (dt b).1))) _ _ _ _ _ _ _ _ (Nat.le_of_ble_eq_true rfl) (Nat.le_of_ble_eq_true rfl) hW (⟨rfl, rfl, i, 2, xc4, _, hi, by decide, rfl, rfl, c4, hq9, rfl⟩) (rt_i dX6_node_108)
          · refine lv_tableIn (tgt := 109) hx hb dX6_node_54 (by decide) (by decide) (off := 55) (by decide) (by decide) ?_
            rcases cx with _ | ⟨⟨bo, b, o⟩, cx⟩
            · have hl : lv_has ls 5 [(4, .null), (3, .ref xc4), (0, .ref x), (1, .int (nI i)), (2, .int (nI 3))] := hl
              refine lv_aloadN hx hb dX6_node_109 (lv_at hl 0 rfl) ?_
              refine lv_ifnullN (tgt := 126) hx hb dX6_node_111 (by decide) ?_
              refine lv_iconst (v := nI 0) hx hb dX6_node_126 (by decide) ?_
              exact hret (some (.int (nI 0))) _ _ _ _ _ _ _ _ (Nat.le_of_ble_eq_true rfl) (Nat.le_of_ble_eq_true rfl) hW (⟨rfl, rfl, i, 3, xc4, _, hi, by decide, rfl, rfl, c4, hq9, rfl⟩) (rt_i dX6_node_127)
            · have hl : lv_has ls 5 [(4, .ref b), (3, .ref xc4), (0, .ref x), (1, .int (nI i)), (2, .int (nI 3))] := hl
              have hbt : b ∈ tPre tc := (hs9 b List.mem_cons_self).elim (fun z => by cases z) (fun z => z)
              have qb := hND b hbt
              refine lv_aload hx hb dX6_node_109 (lv_at hl 0 rfl) ?_
              refine lv_ifnull hx hb dX6_node_111 ?_
              refine lv_aload hx hb dX6_node_114 (lv_at hl 0 rfl) ?_
              refine g_get (C := RX2) (T := TX2) (N := 9) hx hb hts hi2 hown hN hW.1 qb.1.1 rfl (by decide) 2 (by decide) hfX6_100 (v := .int (bI (dd b))) qb.2 dX6_node_116 ?_
              refine lv_if_eq (tgt := 126) hx hb dX6_node_119 (by decide) (fun c5 => ?_) (fun c5 => ?_)
              · have c5 : (dd b) = false := bI_0.mp c5
                refine lv_iconst (v := nI 0) hx hb dX6_node_126 (by decide) ?_
                exact hret (some (.int (nI 0))) _ _ _ _ _ _ _ _ (Nat.le_of_ble_eq_true rfl) (Nat.le_of_ble_eq_true rfl) hW (⟨rfl, rfl, i, 3, xc4, _, hi, by decide, rfl, rfl, c4, hq9, by show _ = some (Value.int (bI (dd b))); rw [c5]; rfl⟩) (rt_i dX6_node_127)
              · have c5 : (dd b) = true := bI_n0.mp c5
                refine lv_iconst (v := nI 1) hx hb dX6_node_122 (by decide) ?_
                refine lv_goto (tgt := 127) hx hb dX6_node_123 (by decide) ?_
                exact hret (some (.int (nI 1))) _ _ _ _ _ _ _ _ (Nat.le_of_ble_eq_true rfl) (Nat.le_of_ble_eq_true rfl) hW (⟨rfl, rfl, i, 3, xc4, _, hi, by decide, rfl, rfl, c4, hq9, by show _ = some (Value.int (bI (dd b))); rw [c5]; rfl⟩) (rt_i dX6_node_127)
          · refine lv_tableOut (tgt := 128) hx hb dX6_node_54 (by decide) (by decide) ?_
            rcases cx with _ | ⟨⟨bo, b, o⟩, cx⟩
            · have hl : lv_has ls 5 [(4, .null), (3, .ref xc4), (0, .ref x), (1, .int (nI i)), (2, .int (nI 4))] := hl
              refine lv_aloadN hx hb dX6_node_128 (lv_at hl 0 rfl) ?_
              refine lv_ifnullN (tgt := 146) hx hb dX6_node_130 (by decide) ?_
              refine lv_iconst (v := nI 0) hx hb dX6_node_146 (by decide) ?_
              exact hret (some (.int (nI 0))) _ _ _ _ _ _ _ _ (Nat.le_of_ble_eq_true rfl) (Nat.le_of_ble_eq_true rfl) hW (⟨rfl, rfl, i, 4, xc4, _, hi, by decide, rfl, rfl, c4, hq9, rfl⟩) (rt_i dX6_node_147)
            · have hl : lv_has ls 5 [(4, .ref b), (3, .ref xc4), (0, .ref x), (1, .int (nI i)), (2, .int (nI 4))] := hl
              have hbt : b ∈ tPre tc := (hs9 b List.mem_cons_self).elim (fun z => by cases z) (fun z => z)
              have qb := hND b hbt
              refine lv_aload hx hb dX6_node_128 (lv_at hl 0 rfl) ?_
              refine lv_ifnull hx hb dX6_node_130 ?_
              cases bo
              · refine lv_aload hx hb dX6_node_133 (lv_at hl 0 rfl) ?_
                refine g_get (C := RX2) (T := TX2) (N := 9) hx hb hts hi2 hown hN hW.1 qb.1.1 rfl (by decide) 7 (by decide) hfX6_234 (v := va_rf (tRt o)) hP9.2.2.2.1 dX6_node_135 ?_
                refine lv_aload_n hx hb dX6_node_138 rfl (lv_at hl 1 rfl) ?_
                refine lv_acmp_ne (rx := tRt o) (ry := (some xc4)) (tgt := 146) hx hb dX6_node_139 (by decide) (fun c5 => ?_) (fun c5 => ?_)
                · refine lv_iconst (v := nI 0) hx hb dX6_node_146 (by decide) ?_
                  exact hret (some (.int (nI 0))) _ _ _ _ _ _ _ _ (Nat.le_of_ble_eq_true rfl) (Nat.le_of_ble_eq_true rfl) hW (⟨rfl, rfl, i, 4, xc4, _, hi, by decide, rfl, rfl, c4, hq9, rfl⟩) (rt_i dX6_node_147)
                · exact absurd (tRt_mem c5) (fun z => (List.nodup_append.mp hn9).2.2 xc4 List.mem_cons_self xc4 (List.mem_cons_of_mem _ (List.mem_append_left _ z)) rfl)
              · refine lv_aload hx hb dX6_node_133 (lv_at hl 0 rfl) ?_
                refine g_get (C := RX2) (T := TX2) (N := 9) hx hb hts hi2 hown hN hW.1 qb.1.1 rfl (by decide) 7 (by decide) hfX6_234 (v := va_rf (some xc4)) hP9.2.2.2.1 dX6_node_135 ?_
                refine lv_aload_n hx hb dX6_node_138 rfl (lv_at hl 1 rfl) ?_
                refine lv_acmp_ne (rx := some xc4) (ry := (some xc4)) (tgt := 146) hx hb dX6_node_139 (by decide) (fun c5 => ?_) (fun c5 => ?_)
                · exact absurd rfl c5
                · refine lv_iconst (v := nI 1) hx hb dX6_node_142 (by decide) ?_
                  refine lv_goto (tgt := 147) hx hb dX6_node_143 (by decide) ?_
                  exact hret (some (.int (nI 1))) _ _ _ _ _ _ _ _ (Nat.le_of_ble_eq_true rfl) (Nat.le_of_ble_eq_true rfl) hW (⟨rfl, rfl, i, 4, xc4, _, hi, by decide, rfl, rfl, c4, hq9, rfl⟩) (rt_i dX6_node_147)
        · exact hthr nISE "node: the id is not live" 69 225 73 37 _ _ ls (Or.inr ⟨rfl, ⟨c1, c2, c3⟩, fun i2 e2 h2 => by rw [(nI_eq (by omega) (by omega)).mp e2] at c4; exact c4⟩) x_ISE (show (225, "node: the id is not live") ∈ gStr by decide +kernel) (by decide +kernel) (by decide +kernel) (fun w h => List.mem_cons_of_mem _ (List.mem_append_right _ h)) dX6_node_37 dX6_node_40 dX6_node_41 dX6_node_43 dX6_node_46 (by decide) (by decide) (by decide) hW hl.1
      · exact hthr nIAE "node: the id or what is out of range" 59 223 63 16 _ _ ls (Or.inl ⟨rfl, fun z => c3 z.2.2⟩) x_IAE (show (223, "node: the id or what is out of range") ∈ gStr by decide +kernel) (by decide +kernel) (by decide +kernel) (fun w h => List.mem_cons_of_mem _ (List.mem_append_left _ (List.mem_append_right _ h))) dX6_node_16 dX6_node_19 dX6_node_20 dX6_node_22 dX6_node_25 (by decide) (by decide) (by decide) hW hl.1
