theorem hang_step {F1 : gF} {d s a : Nat} {v : Unit} {l r : TT Nat} {c : cxT Nat} (hC : CT F1 d (.inner s a v l r) (cTop c) c.length) (hPr : PXr F1 d c (some a)) (hPz : PXz F1 c (tSz l + tSz r + 1 + 1)) (hnd : (a :: (tPre l ++ tPre r) ++ cAd c).Nodup) :
    (CT (gU F1 a 5 (.int (nI (tSz l + tSz r + 1 + 1)))) d l (some a) (c.length + 1) ∧ PXr (gU F1 a 5 (.int (nI (tSz l + tSz r + 1 + 1)))) d ((true, a, r) :: c) (tRt l) ∧ PXz (gU F1 a 5 (.int (nI (tSz l + tSz r + 1 + 1)))) ((true, a, r) :: c) (tSz l + 1)) ∧
    (CT (gU F1 a 5 (.int (nI (tSz l + tSz r + 1 + 1)))) d r (some a) (c.length + 1) ∧ PXr (gU F1 a 5 (.int (nI (tSz l + tSz r + 1 + 1)))) d ((false, a, l) :: c) (tRt r) ∧ PXz (gU F1 a 5 (.int (nI (tSz l + tSz r + 1 + 1)))) ((false, a, l) :: c) (tSz r + 1)) := by
  obtain ⟨h1, h2, h3, h4, h5, h6, h7, h8⟩ := hC
  have hn := List.nodup_cons.mp (show (a :: ((tPre l ++ tPre r) ++ cAd c)).Nodup from hnd)
  have na : ∀ z, z ∈ tPre l ∨ z ∈ tPre r ∨ z ∈ cAd c → z ≠ a := fun z hz e => hn.1 (by rw [← e]; simpa [or_assoc] using hz)
  have hcn : (cAd c).Nodup := (List.nodup_append.mp hn.2).2.1
  have cl : CT (gU F1 a 5 (.int (nI (tSz l + tSz r + 1 + 1)))) d l (some a) (c.length + 1) := CT_congr (fun z hz k _ => gU_a (na z (Or.inl hz))) h7
  have cr : CT (gU F1 a 5 (.int (nI (tSz l + tSz r + 1 + 1)))) d r (some a) (c.length + 1) := CT_congr (fun z hz k _ => gU_a (na z (Or.inr (Or.inl hz)))) h8
  have pr : PXr (gU F1 a 5 (.int (nI (tSz l + tSz r + 1 + 1)))) d c (some a) := PXr_congr (fun z hz k _ _ => gU_a (na z (Or.inr (Or.inr hz)))) hcn hPr
  have pz : PXz (gU F1 a 5 (.int (nI (tSz l + tSz r + 1 + 1)))) c (tSz l + tSz r + 1 + 1) := PXz_congr (fun z hz => gU_a (na z (Or.inr (Or.inr (cPath_sub hz))))) hPz
  have k : ∀ j, j ≠ 5 → gU F1 a 5 (.int (nI (tSz l + tSz r + 1 + 1))) a j = F1 a j := fun j hj => gU_k hj
  refine ⟨⟨cl, ⟨by rw [k 3 (by decide), h1], by rw [k 4 (by decide), h2], by rw [k 6 (by decide), h4], by rw [k 7 (by decide), h5]; rfl, by rw [k 8 (by decide), h6]; rfl, cr, pr⟩, ?_⟩, cr, ⟨by rw [k 3 (by decide), h1], by rw [k 4 (by decide), h2], by rw [k 6 (by decide), h4], by rw [k 7 (by decide), h5]; rfl, by rw [k 8 (by decide), h6]; rfl, cl, pr⟩, ?_⟩
  · rw [PXz, show tSz l + 1 + tSz r + 1 = tSz l + tSz r + 1 + 1 by omega]
    exact ⟨gU_self, pz⟩
  · rw [PXz, show tSz r + 1 + tSz l + 1 = tSz l + tSz r + 1 + 1 by omega]
    exact ⟨gU_self, pz⟩
theorem hang_end {F1 F' : gF} {d a x : Nat} {b : Bool} {o : TT Nat} {c : cxT Nat} (hPr : PXr F1 d ((b, a, o) :: c) none) (hPz : PXz F1 ((b, a, o) :: c) 1) (hnd : (cAd ((b, a, o) :: c)).Nodup)
    (ho : ∀ z k, z ≠ x → z ≠ a → F' z k = F1 z k) (ha : ∀ k, k ≠ 7 → k ≠ 8 → F' a k = F1 a k) (h7 : F' a 7 = if b then .ref x else F1 a 7) (h8 : F' a 8 = if b then F1 a 8 else .ref x) (hx : x ∉ cAd ((b, a, o) :: c))
    (x3 : F' x 3 = .int (nI (c.length + 1))) (x4 : F' x 4 = .int (nI ((c.length + 1) % d))) (x5 : F' x 5 = .int (nI 1)) (x6 : F' x 6 = .ref a) (x7 : F' x 7 = .null) (x8 : F' x 8 = .null) : CT F' d (plug ((b, a, o) :: c) (tN tL x tL)) none 0 := by
  obtain ⟨h1, h2, h4, h5, h6, h9, h10⟩ := hPr
  obtain ⟨z1, z2⟩ := hPz
  have hn := List.nodup_cons.mp (show (a :: (tPre o ++ cAd c)).Nodup from hnd)
  have na : ∀ z, z ∈ tPre o ++ cAd c → z ≠ x ∧ z ≠ a := fun z hz => ⟨fun e => hx (by rw [← e]; exact List.mem_cons_of_mem _ hz), fun e => hn.1 (by rw [← e]; exact hz)⟩
  refine CT_plug.mpr ⟨⟨x3, x4, x5, x6, x7, x8, trivial, trivial⟩, ⟨by rw [ha 3 (by decide) (by decide), h1], by rw [ha 4 (by decide) (by decide), h2], by rw [ha 6 (by decide) (by decide), h4], ?_, ?_, CT_congr (fun z hz k _ => ho z k (na z (List.mem_append_left _ hz)).1 (na z (List.mem_append_left _ hz)).2) h9, PXr_congr (fun z hz k _ _ => ho z k (na z (List.mem_append_right _ hz)).1 (na z (List.mem_append_right _ hz)).2) (List.nodup_append.mp hn.2).2.1 h10⟩, ⟨by rw [ha 5 (by decide) (by decide), z1]; rfl, PXz_congr (fun z hz => ho z 5 (na z (List.mem_append_right _ (cPath_sub hz))).1 (na z (List.mem_append_right _ (cPath_sub hz))).2) z2⟩⟩
  · rw [h7]
    cases b
    · exact h5
    · rfl
  · rw [h8]
    cases b
    · rfl
    · exact h6

theorem insG_root {α : Type} {lt : Nat → α → α → Bool} {d dep : Nat} {x : α} {t : TT α} (h : t ≠ tL) : tRt t = tRt (insG lt d x dep t) := by
  cases t with
  | leaf => exact absurd rfl h
  | inner s a v l r =>
    unfold insG
    split <;> rfl

set_option maxHeartbeats 4000000 in
set_option maxRecDepth 100000 in
theorem c_hang (l : Launch) (Γ : gG) (K : gK) (F : gF) (sz : Nat) (T x d : Nat) (tc : TT Nat) (dt : Nat → gPt) (pl : Nat → Nat) (dd : Nat → Bool) (hk : K T = some (5, 0)) (h0 : F T 0 = .int (nI d)) (h2 : F T 2 = va_rf (tRt tc)) (hC : CT F d tc none 0) (hND : NDs K F dt pl dd (x :: tPre tc)) (hxt : x ∉ tPre tc) (hnd : (tPre tc).Nodup) (i3 : F x 3 = .int (nI 0)) (i4 : F x 4 = .int (nI 0)) (i5 : F x 5 = .int (nI 1)) (i6 : F x 6 = .null) (i7 : F x 7 = .null) (i8 : F x 8 = .null) (hd1 : 0 < d) (hd4 : d ≤ 4) : gMM l yX5_hang wsX5_hang 3 0 0 Γ K F sz [.ref T, .ref x] (fun v K' F' => v = none ∧ K' = K ∧ F' T 2 = va_rf (tRt (insG (ltA dt) d x 0 tc)) ∧ CT F' d (insG (ltA dt) d x 0 tc) none 0 ∧ ∀ b j, ¬ (K b = some (2, 0) ∧ 3 ≤ j) → ¬ (b = T ∧ j = 2) → F' b j = F b j) := by
  refine g_mM (cc := cX5_hang) (maxL := 4) (ret := none) (by decide) rfl (Nat.le_of_ble_eq_true rfl) ?_
  intro p e s m args below meth c ls Z hsz hx hb hts hown hml hnm hN hW hret hl
  have hl : lv_has ls 4 [(0, .ref T), (1, .ref x)] := hl
  have hown : s.vm.findClass RX5 = some m.cls := hown
  have hi2 : ∀ w ∈ wsX20, w ∈ wsX5_hang := by decide +kernel
  have hi5 : ∀ w ∈ wsX50, w ∈ wsX5_hang := by decide +kernel
  have hfX5_21 : Cond.fieldLink RX5 21 (TX5 2).1 (TX5 2).2.1 (TX5 2).2.2.1 ∈ wsX5_hang := by decide +kernel
  have hfX5_29 : Cond.fieldLink RX5 29 (TX2 5).1 (TX2 5).2.1 (TX2 5).2.2.1 ∈ wsX5_hang := by decide +kernel
  have hfX5_36 : Cond.fieldLink RX5 36 (TX2 6).1 (TX2 6).2.1 (TX2 6).2.2.1 ∈ wsX5_hang := by decide +kernel
  have hfX5_39 : Cond.fieldLink RX5 39 (TX2 3).1 (TX2 3).2.1 (TX2 3).2.2.1 ∈ wsX5_hang := by decide +kernel
  have hfX5_42 : Cond.fieldLink RX5 42 (TX2 4).1 (TX2 4).2.1 (TX2 4).2.2.1 ∈ wsX5_hang := by decide +kernel
  have hfX5_53 : Cond.fieldLink RX5 53 (TX2 7).1 (TX2 7).2.1 (TX2 7).2.2.1 ∈ wsX5_hang := by decide +kernel
  have hfX5_56 : Cond.fieldLink RX5 56 (TX2 8).1 (TX2 8).2.1 (TX2 8).2.2.1 ∈ wsX5_hang := by decide +kernel
  have hkx : K x = some (2, 0) := (hND x List.mem_cons_self).1.1
  have hroot : ∀ (b : Bool) (a : Nat) (o : TT Nat) (c : cxT Nat), insG (ltA dt) d x 0 tc = plug ((b, a, o) :: c) (tN tL x tL) → tRt tc = tRt (plug ((b, a, o) :: c) (tN tL x tL)) := by
    intro b a o c e
    rw [← e]
    exact insG_root (by
      intro h
      have := congrArg tSz e
      rw [insG_sz, plug_sz, h] at this
      simp [tSz, cAd] at this)
  have loop : ∀ (t : TT Nat) (c0 : cxT Nat) (F1 : gF) (H : Heap) (locs : List Loc) (ls : Array Slot), insG (ltA dt) d x 0 tc = plug c0 (insG (ltA dt) d x c0.length t) → CT F1 d t (cTop c0) c0.length → PXr F1 d c0 (tRt t) → PXz F1 c0 (tSz t + 1) → (∀ b a o c', c0 = (b, a, o) :: c' → b = ltA dt (c'.length % d) x a) → (tPre t ++ cAd c0).Nodup → (∀ z ∈ tPre t ++ cAd c0, z ∈ tPre tc) → (∀ b j, ¬ (b ∈ tPre tc ∧ j = 5) → F1 b j = F b j) → gW Γ (gA K sz) s.heap K F1 H locs → lv_has ls 4 [(3, va_rf (tRt t)), (2, va_rf (cTop c0)), (0, .ref T), (1, .ref x)] → W p l e (gRm 3 0 0) s m args below meth c H locs 0 0 Z (F0 m 7 ls []) := by
    intro t
    induction t with
    | leaf =>
      intro c0 F1 H locs ls hins hC1 hPr hPz hbb hnd1 hsub hfr hW hl
      have ndF : ∀ L', (∀ z ∈ L', z ∈ x :: tPre tc) → ∀ F2 : gF, (∀ b j, ¬ (K b = some (2, 0) ∧ 3 ≤ j) → ¬ (b = T ∧ j = 2) → F2 b j = F b j) → NDs K F2 dt pl dd L' := fun L' h F2 h2 => NDs_congr (fun b j hbj => h2 b j (fun z => hbj.elim (fun q => absurd z.2 (by omega)) (fun q => absurd (q.symm.trans z.1) (by simp))) (fun z => hbj.elim (fun q => kne q.1 hk (by decide) z.1) (fun q => kne q hk (by decide) z.1))) (NDs_sub hND h)
      have hl : lv_has ls 4 [(3, .null), (2, va_rf (cTop c0)), (0, .ref T), (1, .ref x)] := hl
      refine lv_aload_nN hx hb dX5_hang_7 rfl (lv_at hl 0 rfl) ?_
      refine lv_ifnullN (tgt := 32) hx hb dX5_hang_8 (by decide) ?_
      rcases c0 with _ | ⟨⟨b, a, o⟩, c1⟩
      · have hl : lv_has ls 4 [(3, .null), (2, .null), (0, .ref T), (1, .ref x)] := hl
        refine lv_aload_nN hx hb dX5_hang_32 rfl (lv_at hl 1 rfl) ?_
        refine lv_ifnonnullN hx hb dX5_hang_33 ?_
        refine lv_aload_n hx hb dX5_hang_36 rfl (lv_at hl 2 rfl) ?_
        refine lv_aload_n hx hb dX5_hang_37 rfl (lv_at hl 3 rfl) ?_
        refine g_put (C := RX5) (T := TX5) (N := 4) hx hb hts hi5 tyX5 tyX5_ok nmX5 hown hN hW hk rfl (by decide) 2 (by decide) hfX5_21 rfl rfl rfl dX5_hang_38 (fun H locs hW => ?_)
        have xk : ∀ j, gU F1 T 2 (.ref x) x j = F x j := fun j => by rw [gU_a (kne hkx hk (by decide)), hfr x j (fun z => hxt z.1)]
        exact hret none _ _ _ _ _ _ hW (⟨rfl, rfl, by rw [hins]; exact gU_self, by rw [hins]; exact ⟨by rw [xk]; exact i3, by rw [xk, i4, Nat.zero_mod], by rw [xk]; exact i5, by rw [xk]; exact i6, by rw [xk]; exact i7, by rw [xk]; exact i8, trivial, trivial⟩, fun b j b1 b2 => by rw [gU_ne b2]; exact hfr b j (fun z => b1 ⟨(hND b (List.mem_cons_of_mem _ z.1)).1.1, by omega⟩)⟩) (rt_v dX5_hang_41)
      · have hl : lv_has ls 4 [(3, .null), (2, .ref a), (0, .ref T), (1, .ref x)] := hl
        have hat : a ∈ tPre tc := hsub a (List.mem_append_right _ List.mem_cons_self)
        have hka : K a = some (2, 0) := (hND a (List.mem_cons_of_mem _ hat)).1.1
        have hax : a ≠ x := fun e => hxt (e ▸ hat)
        have hbe := hbb b a o c1 rfl
        have xk1 : ∀ j, F1 x j = F x j := fun j => hfr x j (fun z => hxt z.1)
        have p1 : F1 a 3 = .int (nI c1.length) := hPr.1
        have p2 : F1 a 4 = .int (nI (c1.length % d)) := hPr.2.1
        have p0 : F1 T 0 = .int (nI d) := (hfr T 0 (fun z => absurd z.2 (by decide))).trans h0
        have hmd := Nat.mod_lt c1.length hd1
        refine lv_aload_n hx hb dX5_hang_32 rfl (lv_at hl 1 rfl) ?_
        refine lv_ifnonnull (tgt := 42) hx hb dX5_hang_33 (by decide) ?_
        refine lv_aload_n hx hb dX5_hang_42 rfl (lv_at hl 3 rfl) ?_
        refine lv_aload_n hx hb dX5_hang_43 rfl (lv_at hl 1 rfl) ?_
        refine g_put (C := RX2) (T := TX2) (N := 9) hx hb hts hi2 tyX2 tyX2_ok nmX2 hown hN hW (hND x List.mem_cons_self).1.1 rfl (by decide) 6 (by decide) hfX5_36 rfl rfl rfl dX5_hang_44 (fun H locs hW => ?_)
        refine lv_aload_n hx hb dX5_hang_47 rfl (lv_at hl 3 rfl) ?_
        refine lv_aload_n hx hb dX5_hang_48 rfl (lv_at hl 1 rfl) ?_
        refine g_get (C := RX2) (T := TX2) (N := 9) hx hb hts hi2 hown hN hW.1 hka rfl (by decide) 3 (by decide) hfX5_39 (v := .int (nI c1.length)) ((gU_k (by decide)).trans p1) dX5_hang_49 ?_
        refine lv_iconst (v := nI 1) hx hb dX5_hang_52 (by decide) ?_
        refine lv_iadd hx hb dX5_hang_53 ?_
        refine g_asi (show _ = nI (c1.length + 1) from (nI_add _ _).trans (by rfl)) ?_
        refine g_put (C := RX2) (T := TX2) (N := 9) hx hb hts hi2 tyX2 tyX2_ok nmX2 hown hN hW (hND x List.mem_cons_self).1.1 rfl (by decide) 3 (by decide) hfX5_39 rfl rfl rfl dX5_hang_54 (fun H locs hW => ?_)
        refine lv_aload_n hx hb dX5_hang_57 rfl (lv_at hl 3 rfl) ?_
        refine lv_aload_n hx hb dX5_hang_58 rfl (lv_at hl 2 rfl) ?_
        refine lv_aload_n hx hb dX5_hang_59 rfl (lv_at hl 1 rfl) ?_
        refine g_get (C := RX2) (T := TX2) (N := 9) hx hb hts hi2 hown hN hW.1 hka rfl (by decide) 4 (by decide) hfX5_42 (v := .int (nI (c1.length % d))) ((gU_k (by decide)).trans ((gU_k (by decide)).trans p2)) dX5_hang_60 ?_
        refine g_cV (v := (some (.int (nI ((c1.length % d + 1) % d))))) (As := [.int (nI (c1.length % d))]) (b := T) (rest := [.ref x]) hx hb hml hown hts hN hW.1 (c_axisBehind l Γ K _ T d (c1.length % d) hk ((gU_k (by decide)).trans ((gU_k (by decide)).trans p0)) hmd hd4) gX5_hang_X5_axisBehind rfl hk (by decide) rfl (na := 1) rfl (by decide +kernel) ⟨by decide, by decide⟩ ⟨Nat.zero_le _, Nat.zero_le _⟩ rfl hl.1 (Nat.le_of_ble_eq_true rfl) dX5_hang_63 ?_
        show W _ _ _ _ _ _ _ _ _ _ _ _ _ _ _ (F0 m 66 ls [.int (nI ((c1.length % d + 1) % d)), .ref x])
        refine g_asi (show _ = nI ((c1.length + 1) % d) from by rw [Nat.mod_add_mod]) ?_
        refine g_put (C := RX2) (T := TX2) (N := 9) hx hb hts hi2 tyX2 tyX2_ok nmX2 hown hN hW (hND x List.mem_cons_self).1.1 rfl (by decide) 4 (by decide) hfX5_42 rfl rfl rfl dX5_hang_66 (fun H locs hW => ?_)
        obtain ⟨F2, hF2⟩ : ∃ F2, F2 = (gU (gU (gU F1 x 6 (.ref a)) x 3 (.int (nI (c1.length + 1)))) x 4 (.int (nI ((c1.length + 1) % d)))) := ⟨_, rfl⟩
        rw [← hF2] at hW
        have n2 : ∀ b j, b ≠ x → F2 b j = F1 b j := fun b j hb => by rw [hF2, gU_a hb, gU_a hb, gU_a hb]
        have nx : ∀ j, j < 3 ∨ j = 5 ∨ 7 ≤ j → F2 x j = F x j := fun j hj => by rw [hF2, gU_k (by omega), gU_k (by omega), gU_k (by omega), xk1]
        have nd2 := ndF (x :: tPre tc) (fun _ h => h) F2 (fun b j b1 b2 => by
          rcases Nat.decEq b x with e | e
          · rw [n2 b j e]; exact hfr b j (fun z => b1 ⟨(hND b (List.mem_cons_of_mem _ z.1)).1.1, by omega⟩)
          · subst e; exact nx j (Or.inl (Nat.not_le.mp (fun z => b1 ⟨hkx, z⟩))))
        refine lv_aload_n hx hb dX5_hang_69 rfl (lv_at hl 3 rfl) ?_
        refine lv_aload_n hx hb dX5_hang_70 rfl (lv_at hl 1 rfl) ?_
        refine lv_aload_n hx hb dX5_hang_71 rfl (lv_at hl 1 rfl) ?_
        refine g_get (C := RX2) (T := TX2) (N := 9) hx hb hts hi2 hown hN hW.1 hka rfl (by decide) 4 (by decide) hfX5_42 (v := .int (nI (c1.length % d))) ((n2 a 4 hax).trans p2) dX5_hang_72 ?_
        refine g_cV (v := (some (.int (bI (ltA dt (c1.length % d) x a))))) (As := [.ref a, .int (nI (c1.length % d))]) (b := x) (rest := []) hx hb hml hown hts hN hW.1 (c_isLess l Γ K F2 x a (pl x) (pl a) (dt x) (dt a) (c1.length % d) (nd2 x List.mem_cons_self).1 (nd2 a (List.mem_cons_of_mem _ hat)).1 (by omega)) gX5_hang_X2_isLess rfl (hND x List.mem_cons_self).1.1 (by decide) rfl (na := 2) rfl (by decide +kernel) ⟨by decide, by decide⟩ ⟨Nat.zero_le _, Nat.zero_le _⟩ rfl hl.1 (Nat.le_of_ble_eq_true rfl) dX5_hang_75 ?_
        show W _ _ _ _ _ _ _ _ _ _ _ _ _ _ _ (F0 m 78 ls [.int (bI (ltA dt (c1.length % d) x a))])
        refine lv_if_eq (tgt := 89) hx hb dX5_hang_78 (by decide) (fun cz => ?_) (fun cz => ?_)
        · have cz : (ltA dt (c1.length % d) x a) = false := bI_0.mp cz
          rw [cz] at hbe
          subst hbe
          refine lv_aload_n hx hb dX5_hang_89 rfl (lv_at hl 1 rfl) ?_
          refine lv_aload_n hx hb dX5_hang_90 rfl (lv_at hl 3 rfl) ?_
          refine g_put (C := RX2) (T := TX2) (N := 9) hx hb hts hi2 tyX2 tyX2_ok nmX2 hown hN hW hka rfl (by decide) 8 (by decide) hfX5_56 rfl rfl rfl dX5_hang_91 (fun H locs hW => ?_)
          obtain ⟨F3, hF3⟩ : ∃ F3, F3 = (gU F2 a 8 (.ref x)) := ⟨_, rfl⟩
          rw [← hF3] at hW
          have n3 : ∀ b j, ¬ (b = a ∧ j = 8) → F3 b j = F2 b j := fun b j h => by rw [hF3, gU_ne h]
          have hE : CT F3 d (plug ((false, a, o) :: c1) (tN tL x tL)) none 0 := by
            refine hang_end hPr hPz (List.nodup_append.mp hnd1).2.1 (fun z k z1 z2 => by rw [n3 z k (fun q => z2 q.1), n2 z k z1]) (fun k k7 k8 => by rw [n3 a k (fun q => k8 q.2), n2 a k hax]) ?_ ?_ (fun h => hxt (hsub x (List.mem_append_right _ h))) ?_ ?_ ?_ ?_ ?_ ?_
            · rw [n3 a 7 (fun q => absurd q.2 (by decide)), n2 a 7 hax]; rfl
            · rw [hF3, gU_self]; rfl
            · rw [n3 x 3 (fun q => hax q.1.symm), hF2, gU_k (by decide), gU_self]
            · rw [n3 x 4 (fun q => hax q.1.symm), hF2, gU_self]
            · rw [n3 x 5 (fun q => hax q.1.symm), nx 5 (by omega), i5]
            · rw [n3 x 6 (fun q => hax q.1.symm), hF2, gU_k (by decide), gU_k (by decide), gU_self]
            · rw [n3 x 7 (fun q => hax q.1.symm), nx 7 (by omega), i7]
            · rw [n3 x 8 (fun q => hax q.1.symm), nx 8 (by omega), i8]
          exact hret none _ _ _ _ _ _ hW (by
              rw [hins]
              refine ⟨rfl, rfl, ?_, hE, fun b j b1 b2 => ?_⟩
              · rw [n3 T 2 (fun q => kne hk hka (by decide) q.1), n2 T 2 (kne hk hkx (by decide)), hfr T 2 (fun q => absurd q.2 (by decide)), h2, hroot _ _ _ _ hins]; rfl
              · rw [n3 b j (fun q => b1 ⟨by rw [q.1]; exact hka, by omega⟩)]
                rcases Nat.decEq b x with e | e
                · rw [n2 b j e]; exact hfr b j (fun z => b1 ⟨(hND b (List.mem_cons_of_mem _ z.1)).1.1, by omega⟩)
                · subst e; exact nx j (Or.inl (Nat.not_le.mp (fun z => b1 ⟨hkx, z⟩)))) (rt_v dX5_hang_94)
        · have cz : (ltA dt (c1.length % d) x a) = true := bI_n0.mp cz
          rw [cz] at hbe
          subst hbe
          refine lv_aload_n hx hb dX5_hang_81 rfl (lv_at hl 1 rfl) ?_
          refine lv_aload_n hx hb dX5_hang_82 rfl (lv_at hl 3 rfl) ?_
          refine g_put (C := RX2) (T := TX2) (N := 9) hx hb hts hi2 tyX2 tyX2_ok nmX2 hown hN hW hka rfl (by decide) 7 (by decide) hfX5_53 rfl rfl rfl dX5_hang_83 (fun H locs hW => ?_)
          refine lv_goto (tgt := 94) hx hb dX5_hang_86 (by decide) ?_
          obtain ⟨F3, hF3⟩ : ∃ F3, F3 = (gU F2 a 7 (.ref x)) := ⟨_, rfl⟩
          rw [← hF3] at hW
          have n3 : ∀ b j, ¬ (b = a ∧ j = 7) → F3 b j = F2 b j := fun b j h => by rw [hF3, gU_ne h]
          have hE : CT F3 d (plug ((true, a, o) :: c1) (tN tL x tL)) none 0 := by
            refine hang_end hPr hPz (List.nodup_append.mp hnd1).2.1 (fun z k z1 z2 => by rw [n3 z k (fun q => z2 q.1), n2 z k z1]) (fun k k7 k8 => by rw [n3 a k (fun q => k7 q.2), n2 a k hax]) ?_ ?_ (fun h => hxt (hsub x (List.mem_append_right _ h))) ?_ ?_ ?_ ?_ ?_ ?_
            · rw [hF3, gU_self]; rfl
            · rw [n3 a 8 (fun q => absurd q.2 (by decide)), n2 a 8 hax]; rfl
            · rw [n3 x 3 (fun q => hax q.1.symm), hF2, gU_k (by decide), gU_self]
            · rw [n3 x 4 (fun q => hax q.1.symm), hF2, gU_self]
            · rw [n3 x 5 (fun q => hax q.1.symm), nx 5 (by omega), i5]
            · rw [n3 x 6 (fun q => hax q.1.symm), hF2, gU_k (by decide), gU_k (by decide), gU_self]
            · rw [n3 x 7 (fun q => hax q.1.symm), nx 7 (by omega), i7]
            · rw [n3 x 8 (fun q => hax q.1.symm), nx 8 (by omega), i8]
          exact hret none _ _ _ _ _ _ hW (by
              rw [hins]
              refine ⟨rfl, rfl, ?_, hE, fun b j b1 b2 => ?_⟩
              · rw [n3 T 2 (fun q => kne hk hka (by decide) q.1), n2 T 2 (kne hk hkx (by decide)), hfr T 2 (fun q => absurd q.2 (by decide)), h2, hroot _ _ _ _ hins]; rfl
              · rw [n3 b j (fun q => b1 ⟨by rw [q.1]; exact hka, by omega⟩)]
                rcases Nat.decEq b x with e | e
                · rw [n2 b j e]; exact hfr b j (fun z => b1 ⟨(hND b (List.mem_cons_of_mem _ z.1)).1.1, by omega⟩)
                · subst e; exact nx j (Or.inl (Nat.not_le.mp (fun z => b1 ⟨hkx, z⟩)))) (rt_v dX5_hang_94)
    | inner s9 a v9 L R ihl ihr =>
      intro c0 F1 H locs ls hins hC1 hPr hPz hbb hnd1 hsub hfr hW hl
      have ndF : ∀ L', (∀ z ∈ L', z ∈ x :: tPre tc) → ∀ F2 : gF, (∀ b j, ¬ (K b = some (2, 0) ∧ 3 ≤ j) → ¬ (b = T ∧ j = 2) → F2 b j = F b j) → NDs K F2 dt pl dd L' := fun L' h F2 h2 => NDs_congr (fun b j hbj => h2 b j (fun z => hbj.elim (fun q => absurd z.2 (by omega)) (fun q => absurd (q.symm.trans z.1) (by simp))) (fun z => hbj.elim (fun q => kne q.1 hk (by decide) z.1) (fun q => kne q hk (by decide) z.1))) (NDs_sub hND h)
      have hl : lv_has ls 4 [(3, .ref a), (2, va_rf (cTop c0)), (0, .ref T), (1, .ref x)] := hl
      have hat : a ∈ tPre tc := hsub a (List.mem_append_left _ List.mem_cons_self)
      have hka : K a = some (2, 0) := (hND a (List.mem_cons_of_mem _ hat)).1.1
      have hax : a ≠ x := fun e => hxt (e ▸ hat)
      have hst := hang_step hC1 hPr hPz hnd1
      have hmd := Nat.mod_lt c0.length hd1
      have p5 : F1 a 5 = .int (nI (tSz L + tSz R + 1)) := hC1.2.2.1
      refine lv_aload_n hx hb dX5_hang_7 rfl (lv_at hl 0 rfl) ?_
      refine lv_ifnull hx hb dX5_hang_8 ?_
      refine lv_aload_n hx hb dX5_hang_11 rfl (lv_at hl 0 rfl) ?_
      refine lv_astore_n (lv' := [(2, .ref a), (3, .ref a), (0, .ref T), (1, .ref x)]) hx hb dX5_hang_12 rfl hl (by decide) rfl (fun ls hl => ?_)
      refine lv_aload_n hx hb dX5_hang_13 rfl (lv_at hl 0 rfl) ?_
      refine lv_dup hx hb dX5_hang_14 rfl ?_
      refine g_get (C := RX2) (T := TX2) (N := 9) hx hb hts hi2 hown hN hW.1 hka rfl (by decide) 5 (by decide) hfX5_29 (v := .int (nI (tSz L + tSz R + 1))) p5 dX5_hang_15 ?_
      refine lv_iconst (v := nI 1) hx hb dX5_hang_18 (by decide) ?_
      refine lv_iadd hx hb dX5_hang_19 ?_
      refine g_asi (show _ = nI ((tSz L + tSz R + 1) + 1) from (nI_add _ _).trans (by rfl)) ?_
      refine g_put (C := RX2) (T := TX2) (N := 9) hx hb hts hi2 tyX2 tyX2_ok nmX2 hown hN hW hka rfl (by decide) 5 (by decide) hfX5_29 rfl rfl rfl dX5_hang_20 (fun H locs hW => ?_)
      obtain ⟨F2, hF2⟩ : ∃ F2, F2 = (gU F1 a 5 (.int (nI ((tSz L + tSz R + 1) + 1)))) := ⟨_, rfl⟩
      rw [← hF2] at hW hst
      have nfr : ∀ b j, ¬ (b ∈ tPre tc ∧ j = 5) → F2 b j = F b j := fun b j h => by rw [hF2, gU_ne (fun z => h ⟨by rw [z.1]; exact hat, z.2⟩)]; exact hfr b j h
      have nd2 := ndF (x :: tPre tc) (fun _ h => h) F2 (fun b j b1 b2 => nfr b j (fun z => b1 ⟨(hND b (List.mem_cons_of_mem _ z.1)).1.1, by omega⟩))
      have q4 : F2 a 4 = .int (nI (c0.length % d)) := by rw [hF2, gU_k (by decide)]; exact hC1.2.1
      have q7 : F2 a 7 = va_rf (tRt L) := by rw [hF2, gU_k (by decide)]; exact hC1.2.2.2.2.1
      have q8 : F2 a 8 = va_rf (tRt R) := by rw [hF2, gU_k (by decide)]; exact hC1.2.2.2.2.2.1
      refine lv_aload_n hx hb dX5_hang_23 rfl (lv_at hl 0 rfl) ?_
      refine lv_aload_n hx hb dX5_hang_24 rfl (lv_at hl 3 rfl) ?_
      refine g_cV (v := (some (va_rf (if pLess (c0.length % d) (dt x) (dt a) then tRt L else tRt R)))) (As := [.ref x]) (b := a) (rest := []) hx hb hml hown hts hN hW.1 (c_sideOf l Γ K F2 a x (pl a) (pl x) (dt a) (dt x) (c0.length % d) (tRt L) (tRt R) (nd2 a (List.mem_cons_of_mem _ hat)).1 (nd2 x List.mem_cons_self).1 (by omega) q4 q7 q8) gX5_hang_X2_sideOf rfl hka (by decide) rfl (na := 1) rfl (by decide +kernel) ⟨by decide, by decide⟩ ⟨Nat.zero_le _, Nat.zero_le _⟩ rfl hl.1 (Nat.le_of_ble_eq_true rfl) dX5_hang_25 ?_
      show W _ _ _ _ _ _ _ _ _ _ _ _ _ _ _ (F0 m 28 ls [va_rf (if pLess (c0.length % d) (dt x) (dt a) then tRt L else tRt R)])
      refine g_astore_n (r := if pLess (c0.length % d) (dt x) (dt a) then tRt L else tRt R) (lv' := [(3, va_rf (if pLess (c0.length % d) (dt x) (dt a) then tRt L else tRt R)), (2, .ref a), (0, .ref T), (1, .ref x)]) hx hb dX5_hang_28 rfl hl (by decide) rfl (fun ls hl => ?_)
      refine lv_goto (tgt := 7) hx hb dX5_hang_29 (by decide) ?_
      by_cases hq : pLess (c0.length % d) (dt x) (dt a) = true
      · rw [if_pos hq] at hl
        refine ihl ((true, a, R) :: c0) F2 H locs ls ?_ hst.1.1 hst.1.2.1 hst.1.2.2 (fun b a9 o c9 e => by cases e; exact hq.symm) ?_ ?_ nfr hW (lv_sub hl [0, 1, 2, 3] rfl)
        · rw [hins, insG, if_pos (show ltA dt (c0.length % d) x a = true from hq)]; rfl
        · have hp : (tPre L ++ cAd ((true, a, R) :: c0)).Perm (a :: (tPre L ++ tPre R) ++ cAd c0) := by
            show (tPre L ++ a :: (tPre R ++ cAd c0)).Perm (a :: (tPre L ++ tPre R ++ cAd c0))
            rw [List.append_assoc]
            exact List.perm_middle
          exact hp.nodup_iff.mpr hnd1
        · intro z hz
          refine hsub z ?_
          simp only [cAd, tPre, List.mem_append, List.mem_cons] at hz ⊢
          rcases hz with h | h | h | h <;> simp [h]
      · rw [if_neg hq] at hl
        refine ihr ((false, a, L) :: c0) F2 H locs ls ?_ hst.2.1 hst.2.2.1 hst.2.2.2 (fun b a9 o c9 e => by cases e; exact (Bool.not_eq_true _ ▸ hq : pLess _ _ _ = false).symm) ?_ ?_ nfr hW (lv_sub hl [0, 1, 2, 3] rfl)
        · rw [hins, insG, if_neg (show ¬ ltA dt (c0.length % d) x a = true from hq)]; rfl
        · have hp : (tPre R ++ cAd ((false, a, L) :: c0)).Perm (a :: (tPre L ++ tPre R) ++ cAd c0) := by
            show (tPre R ++ a :: (tPre L ++ cAd c0)).Perm (a :: (tPre L ++ tPre R ++ cAd c0))
            refine List.perm_middle.trans (List.Perm.cons a ?_)
            rw [← List.append_assoc]
            exact List.Perm.append_right _ List.perm_append_comm
          exact hp.nodup_iff.mpr hnd1
        · intro z hz
          refine hsub z ?_
          simp only [cAd, tPre, List.mem_append, List.mem_cons] at hz ⊢
          rcases hz with h | h | h | h <;> simp [h]
  refine lv_null hx hb dX5_hang_0 ?_
  refine lv_astore_nN (lv' := [(2, .null), (0, .ref T), (1, .ref x)]) hx hb dX5_hang_1 rfl hl (by decide) rfl (fun ls hl => ?_)
  refine lv_aload_n hx hb dX5_hang_2 rfl (lv_at hl 1 rfl) ?_
  refine g_get (C := RX5) (T := TX5) (N := 4) hx hb hts hi5 hown hN hW.1 hk rfl (by decide) 2 (by decide) hfX5_21 (v := va_rf (tRt tc)) h2 dX5_hang_3 ?_
  refine g_astore_n (r := tRt tc) (lv' := [(3, va_rf (tRt tc)), (2, .null), (0, .ref T), (1, .ref x)]) hx hb dX5_hang_6 rfl hl (by decide) rfl (fun ls hl => ?_)
  exact loop tc [] F _ _ ls rfl hC trivial trivial (fun _ _ _ _ e => by cases e) (by simpa [cAd] using hnd) (fun z hz => by simpa [cAd] using hz) (fun _ _ _ => rfl) hW (lv_sub hl [0, 1, 2, 3] rfl)
