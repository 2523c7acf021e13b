theorem plug_root {α : Type} : ∀ (c : cxT α) (q : Bool × α × TT α) (t t' : TT α), tRt (plug (q :: c) t) = tRt (plug (q :: c) t')
  | [], (b, a, o), t, t' => by cases b <;> rfl
  | q' :: c, (b, a, o), t, t' => plug_root c q' _ _
theorem alv_sub {dd : Nat → Bool} {L : List Nat} {a : Nat} (h : a ∈ alv dd L) : a ∈ L := (List.mem_filter.mp h).1
theorem alv_len {dd : Nat → Bool} {L : List Nat} : (alv dd L).length ≤ L.length := List.length_filter_le _ _
def PXu (F : gF) : cxT Nat → Prop
  | [] => True
  | (_, a, _) :: c => F a 6 = va_rf (cTop c) ∧ PXu F c
theorem PXr.u {F : gF} {d : Nat} : ∀ {c : cxT Nat} {r : Option Nat}, PXr F d c r → PXu F c
  | [], _, _ => trivial
  | (_, _, _) :: _, _, H => ⟨H.2.2.1, PXr.u H.2.2.2.2.2.2⟩
theorem PXu_congr {F F' : gF} : ∀ {c : cxT Nat}, (∀ a ∈ cPath c, F' a 6 = F a 6) → PXu F c → PXu F' c
  | [], _, _ => trivial
  | (_, a, _) :: c, h, H => ⟨by rw [h a List.mem_cons_self]; exact H.1, PXu_congr (fun q hq => h q (List.mem_cons_of_mem _ hq)) H.2⟩
theorem cPath_nd : ∀ {c : cxT Nat}, (cAd c).Nodup → (cPath c).Nodup
  | [], _ => List.nodup_nil
  | (_, a, o) :: c, h => by
    have h1 := List.nodup_cons.mp (show (a :: (tPre o ++ cAd c)).Nodup from h)
    exact List.nodup_cons.mpr ⟨fun q => h1.1 (List.mem_append_right _ (cPath_sub q)), cPath_nd (List.nodup_append.mp h1.2).2.1⟩

set_option maxHeartbeats 4000000 in
set_option maxRecDepth 100000 in
theorem c_buildAnew (l : Launch) (Γ : gG) (K : gK) (F : gF) (sz : Nat) (T old row d bp : Nat) (c0 : cxT Nat) (t : TT Nat) (dt : Nat → gPt) (pl : Nat → Nat) (dd : Nat → Bool) (hk : K T = some (5, 0)) (hkr : K row = some (11, 60)) (h0 : F T 0 = .int (nI d)) (h1 : F T 1 = .ref row) (h2 : F T 2 = va_rf (tRt (plug c0 t))) (h3 : F T 3 = .int (nI bp)) (hC : CT F d (plug c0 t) none 0) (hold : tRt t = some old) (hND : NDs K F dt pl dd (tPre (plug c0 t))) (hnd : (tPre (plug c0 t)).Nodup) (hs : tSz (plug c0 t) ≤ 120) (h60 : (alv dd (tPre t)).length ≤ 60) (hd1 : 0 < d) (hd4 : d ≤ 4) : gMM l yX5_buildAnew wsX5_buildAnew 70 0 0 Γ K F sz [.ref T, .ref old] (fun v K' F' => v = none ∧ K' = K ∧ CT F' d (plug c0 (bldG (ltA dt) d 60 c0.length (alv dd (tPre t)))) none 0 ∧ F' T 2 = va_rf (tRt (plug c0 (bldG (ltA dt) d 60 c0.length (alv dd (tPre t))))) ∧ F' T 3 = .int (nI (bp + (alv dd (tPre t)).length)) ∧ ∀ b j, ¬ (K b = some (2, 0) ∧ 3 ≤ j) → ¬ (b = T ∧ 2 ≤ j) → b ≠ row → F' b j = F b j) := by
  refine g_mM (cc := cX5_buildAnew) (maxL := 8) (ret := none) (by decide) rfl (Nat.le_of_ble_eq_true rfl) ?_
  intro p e s m args below meth c ls Z hsz hx hb hts hown hml hnm hN hW hret hl
  have hl : lv_has ls 8 [(0, .ref T), (1, .ref old)] := hl
  have hown : s.vm.findClass RX5 = some m.cls := hown
  have hi2 : ∀ w ∈ wsX20, w ∈ wsX5_buildAnew := by decide +kernel
  have hi5 : ∀ w ∈ wsX50, w ∈ wsX5_buildAnew := by decide +kernel
  have hfX5_21 : Cond.fieldLink RX5 21 (TX5 2).1 (TX5 2).2.1 (TX5 2).2.2.1 ∈ wsX5_buildAnew := by decide +kernel
  have hfX5_29 : Cond.fieldLink RX5 29 (TX2 5).1 (TX2 5).2.1 (TX2 5).2.2.1 ∈ wsX5_buildAnew := by decide +kernel
  have hfX5_36 : Cond.fieldLink RX5 36 (TX2 6).1 (TX2 6).2.1 (TX2 6).2.2.1 ∈ wsX5_buildAnew := by decide +kernel
  have hfX5_39 : Cond.fieldLink RX5 39 (TX2 3).1 (TX2 3).2.1 (TX2 3).2.2.1 ∈ wsX5_buildAnew := by decide +kernel
  have hfX5_42 : Cond.fieldLink RX5 42 (TX2 4).1 (TX2 4).2.1 (TX2 4).2.2.1 ∈ wsX5_buildAnew := by decide +kernel
  have hfX5_53 : Cond.fieldLink RX5 53 (TX2 7).1 (TX2 7).2.1 (TX2 7).2.2.1 ∈ wsX5_buildAnew := by decide +kernel
  have hfX5_56 : Cond.fieldLink RX5 56 (TX2 8).1 (TX2 8).2.1 (TX2 8).2.2.1 ∈ wsX5_buildAnew := by decide +kernel
  have hfX5_70 : Cond.fieldLink RX5 70 (TX5 3).1 (TX5 3).2.1 (TX5 3).2.2.1 ∈ wsX5_buildAnew := by decide +kernel
  obtain ⟨hCs, hPr, hPz⟩ := CT_plug.mp hC
  rw [hold] at hPr
  have hperm := plug_perm c0 t
  have hnd2 : (tPre t ++ cAd c0).Nodup := hperm.nodup_iff.mp hnd
  have hND2 : ∀ a, a ∈ tPre t ∨ a ∈ cAd c0 → ndD K F a (pl a) (dt a) ∧ F a 2 = .int (bI (dd a)) := fun a ha => hND a (hperm.mem_iff.mpr (List.mem_append.mpr ha))
  have hot := tRt_mem hold
  have hko : K old = some (2, 0) := (hND2 old (Or.inl hot)).1.1
  have hsz2 := plug_sz c0 t
  have hcl := cAd_len c0
  have hLl : (alv dd (tPre t)).length ≤ tSz t := by rw [← tPre_len]; exact alv_len
  have hdis : ∀ a, a ∈ tPre t → a ∉ cAd c0 := fun a h1 h2 => (List.nodup_append.mp hnd2).2.2 a h1 a h2 rfl
  have hcn : (cAd c0).Nodup := (List.nodup_append.mp hnd2).2.1
  have hrT : T ≠ row := kne hk hkr (by decide)
  have hnT : ∀ a, K a = some (2, 0) → a ≠ T := fun a h => kne h hk (by decide)
  have hnr : ∀ a, K a = some (2, 0) → a ≠ row := fun a h => kne h hkr (by decide)
  generalize hBe : bldG (ltA dt) d 60 c0.length (alv dd (tPre t)) = B at hret
  have hBs : tSz B = (alv dd (tPre t)).length := by rw [← hBe]; exact bldG_sz _ _ _ _ _ h60
  have hBp : ∀ a, a ∈ tPre B → a ∈ alv dd (tPre t) := fun a h => (bldG_perm (ltA dt) d 60 c0.length _ h60).mem_iff.mp (by rw [hBe]; exact h)
  generalize hlv : (alv dd (tPre t)).length = lv at hret hBs hLl h60
  have loop : ∀ (c2 : cxT Nat) (n : Nat) (F3 : gF) (H : Heap) (locs : List Loc) (ls : Array Slot), PXz F3 c2 n → PXu F3 c2 → (∀ a ∈ cPath c2, K a = some (2, 0)) → (cPath c2).Nodup → tSz t ≤ n → n + (cAd c2).length ≤ 1000 → gW Γ (gA K sz) s.heap K F3 H locs → lv_has ls 8 [(7, va_rf (cTop c2)), (4, .int (nI (tSz t))), (5, .int (nI lv)), (0, .ref T)] →
        (∀ (F4 : gF) (H : Heap) (locs : List Loc) (ls : Array Slot), PXz F4 c2 (n - (tSz t - lv)) → (∀ b j, ¬ (j = 5 ∧ b ∈ cPath c2) → F4 b j = F3 b j) → gW Γ (gA K sz) s.heap K F4 H locs → lv_has ls 8 [(5, .int (nI lv)), (0, .ref T)] → W p l e (gRm 70 0 0) s m args below meth c H locs 0 0 Z (F0 m 124 ls [])) → W p l e (gRm 70 0 0) s m args below meth c H locs 0 0 Z (F0 m 94 ls []) := by
    intro c2
    induction c2 with
    | nil =>
      intro n F3 H locs ls hz hp hka9 hnd9 hn1 hn2 hW hl kk
      have hl : lv_has ls 8 [(7, .null), (4, .int (nI (tSz t))), (5, .int (nI lv)), (0, .ref T)] := hl
      refine lv_aloadN hx hb dX5_buildAnew_94 (lv_at hl 0 rfl) ?_
      refine lv_ifnullN (tgt := 124) hx hb dX5_buildAnew_96 (by decide) ?_
      exact kk F3 H locs ls trivial (fun _ _ _ => rfl) hW (lv_sub hl [2, 3] rfl)
    | cons q c2 ih =>
      obtain ⟨b, a, o⟩ := q
      intro n F3 H locs ls hz hp hka9 hnd9 hn1 hn2 hW hl kk
      have hl : lv_has ls 8 [(7, .ref a), (4, .int (nI (tSz t))), (5, .int (nI lv)), (0, .ref T)] := hl
      have hka := hka9 a List.mem_cons_self
      have hnc := List.nodup_cons.mp hnd9
      have p5 : F3 a 5 = .int (nI (n + tSz o + 1)) := hz.1
      have p6 : F3 a 6 = va_rf (cTop c2) := hp.1
      have hn3 : n + (tSz o + (cAd c2).length + 1) ≤ 1000 := by
        have : (cAd ((b, a, o) :: c2)).length = tSz o + (cAd c2).length + 1 := by simp only [cAd, List.length_cons, List.length_append, tPre_len]
        omega
      refine lv_aload hx hb dX5_buildAnew_94 (lv_at hl 0 rfl) ?_
      refine lv_ifnull hx hb dX5_buildAnew_96 ?_
      refine lv_aload hx hb dX5_buildAnew_99 (lv_at hl 0 rfl) ?_
      refine lv_dup hx hb dX5_buildAnew_101 rfl ?_
      refine g_get (C := RX2) (T := TX2) (N := 9) hx hb hts hi2 hown hN hW.1 hka rfl (by decide) 5 (by decide) hfX5_29 (v := .int (nI (n + tSz o + 1))) p5 dX5_buildAnew_102 ?_
      refine lv_iload hx hb dX5_buildAnew_105 (lv_at hl 1 rfl) ?_
      refine lv_iload hx hb dX5_buildAnew_107 (lv_at hl 2 rfl) ?_
      refine lv_isub hx hb dX5_buildAnew_109 ?_
      refine g_asi (show _ = nI ((tSz t) - lv) from pk_sub (by omega)) ?_
      refine lv_isub hx hb dX5_buildAnew_110 ?_
      refine g_asi (show _ = nI ((n + tSz o + 1) - ((tSz t) - lv)) from pk_sub (by omega)) ?_
      refine g_put (C := RX2) (T := TX2) (N := 9) hx hb hts hi2 tyX2 tyX2_ok nmX2 hown hN hW hka rfl (by decide) 5 (by decide) hfX5_29 rfl rfl rfl dX5_buildAnew_111 (fun H locs hW => ?_)
      refine lv_aload hx hb dX5_buildAnew_114 (lv_at hl 0 rfl) ?_
      refine g_get (C := RX2) (T := TX2) (N := 9) hx hb hts hi2 hown hN hW.1 hka rfl (by decide) 6 (by decide) hfX5_36 (v := va_rf (cTop c2)) ((gU_k (by decide)).trans p6) dX5_buildAnew_116 ?_
      refine g_astore (r := cTop c2) (lv' := [(7, va_rf (cTop c2)), (4, .int (nI (tSz t))), (5, .int (nI lv)), (0, .ref T)]) hx hb dX5_buildAnew_119 hl (by decide) rfl (fun ls hl => ?_)
      refine lv_goto (tgt := 94) hx hb dX5_buildAnew_121 (by decide) ?_
      exact ih (n + tSz o + 1) _ H locs ls (PXz_congr (fun z hz => gU_a (fun e => hnc.1 (by rw [← e]; exact hz))) hz.2) (PXu_congr (fun z hz => gU_a (fun e => hnc.1 (by rw [← e]; exact hz))) hp.2) (fun z hz => hka9 z (List.mem_cons_of_mem _ hz)) hnc.2 (by omega) (by omega) hW (lv_sub hl [0, 1, 2, 3] rfl) (fun F4 H locs ls hz4 hfr4 hW hl => by
        refine kk F4 H locs ls ⟨?_, ?_⟩ (fun b j h => ?_) hW hl
        · rw [hfr4 a 5 (fun q => hnc.1 q.2), gU_self]
          congr 2
          omega
        · rw [show n - (tSz t - lv) + tSz o + 1 = n + tSz o + 1 - (tSz t - lv) by omega]
          exact hz4
        · rw [hfr4 b j (fun q => h ⟨q.1, List.mem_cons_of_mem _ q.2⟩), gU_ne (fun q => h ⟨q.2, by rw [q.1]; exact List.mem_cons_self⟩)])
  have tail : ∀ (F3 : gF) (H : Heap) (locs : List Loc) (ls : Array Slot), PXr F3 d c0 (tRt B) → PXz F3 c0 (tSz t) → CT F3 d B (cTop c0) c0.length → F3 T 2 = va_rf (tRt (plug c0 B)) → F3 T 3 = .int (nI bp) → (∀ b j, ¬ (K b = some (2, 0) ∧ 3 ≤ j) → ¬ (b = T ∧ 2 ≤ j) → b ≠ row → F3 b j = F b j) → gW Γ (gA K sz) s.heap K F3 H locs → lv_has ls 8 [(2, va_rf (cTop c0)), (4, .int (nI (tSz t))), (5, .int (nI lv)), (0, .ref T)] → W p l e (gRm 70 0 0) s m args below meth c H locs 0 0 Z (F0 m 91 ls []) := by
    intro F3 H locs ls r1 r2 r3 r4 r5 hfr hW hl
    refine g_aload_n (r := cTop c0) hx hb dX5_buildAnew_91 rfl (lv_at hl 0 rfl) ?_
    refine g_astore (r := cTop c0) (lv' := [(7, va_rf (cTop c0)), (2, va_rf (cTop c0)), (4, .int (nI (tSz t))), (5, .int (nI lv)), (0, .ref T)]) hx hb dX5_buildAnew_92 hl (by decide) rfl (fun ls hl => ?_)
    refine loop c0 (tSz t) F3 H locs ls r2 r1.u (fun a ha => (hND2 a (Or.inr (cPath_sub ha))).1.1) (cPath_nd hcn) (Nat.le_refl _) (by omega) hW (lv_sub hl [0, 2, 3, 4] rfl) (fun F4 H locs ls hz4 hfr4 hW hl => ?_)
    have hTp : ∀ j, F4 T j = F3 T j := fun j => hfr4 T j (fun q => hnT T (hND2 T (Or.inr (cPath_sub q.2))).1.1 rfl)
    have q3 : F4 T 3 = .int (nI bp) := (hTp 3).trans r5
    refine lv_aload_n hx hb dX5_buildAnew_124 rfl (lv_at hl 1 rfl) ?_
    refine lv_dup hx hb dX5_buildAnew_125 rfl ?_
    refine g_get (C := RX5) (T := TX5) (N := 4) hx hb hts hi5 hown hN hW.1 hk rfl (by decide) 3 (by decide) hfX5_70 (v := .int (nI bp)) q3 dX5_buildAnew_126 ?_
    refine lv_iload hx hb dX5_buildAnew_129 (lv_at hl 0 rfl) ?_
    refine lv_iadd hx hb dX5_buildAnew_131 ?_
    refine g_asi (show _ = nI (bp + lv) from (nI_add _ _).trans (by rfl)) ?_
    refine g_put (C := RX5) (T := TX5) (N := 4) hx hb hts hi5 tyX5 tyX5_ok nmX5 hown hN hW hk rfl (by decide) 3 (by decide) hfX5_70 rfl rfl rfl dX5_buildAnew_132 (fun H locs hW => ?_)
    have ne : ∀ b j, b ≠ T → ¬ (j = 5 ∧ b ∈ cPath c0) → gU F4 T 3 (.int (nI (bp + lv))) b j = F3 b j := fun b j h1 h2 => by rw [gU_a h1, hfr4 b j h2]
    have hz5 : PXz F4 c0 (tSz B) := by rw [hBs]; rw [show tSz t - (tSz t - lv) = lv by omega] at hz4; exact hz4
    exact hret none _ _ _ _ _ _ hW (by
        refine ⟨rfl, rfl, CT_plug.mpr ⟨CT_congr (fun a ha k _ => ?_) r3, PXr_congr (fun a ha k hk3 hor => ?_) hcn r1, PXz_congr (fun a ha => ?_) hz5⟩, ?_, ?_, fun b j b1 b2 b3 => ?_⟩
        · have hat := alv_sub (hBp a ha)
          exact ne a k (hnT a (hND2 a (Or.inl hat)).1.1) (fun q => hdis a hat (cPath_sub q.2))
        · exact ne a k (hnT a (hND2 a (Or.inr ha)).1.1) (fun q => hor.elim (fun h => h q.1) (fun h => h q.2))
        · exact gU_a (hnT a (hND2 a (Or.inr (cPath_sub ha))).1.1)
        · rw [gU_k (by decide), hTp 2]; exact r4
        · exact gU_self
        · rw [gU_ne (fun q => b2 ⟨q.1, by omega⟩), hfr4 b j (fun q => b1 ⟨(hND2 b (Or.inr (cPath_sub q.2))).1.1, by omega⟩)]
          exact hfr b j b1 b2 b3) (rt_v dX5_buildAnew_135)
  refine lv_aload_n hx hb dX5_buildAnew_0 rfl (lv_at hl 1 rfl) ?_
  refine lv_ifnonnull (tgt := 5) hx hb dX5_buildAnew_1 (by decide) ?_
  have old3 : F old 3 = .int (nI c0.length) ∧ F old 4 = .int (nI (c0.length % d)) ∧ F old 6 = va_rf (cTop c0) := by
    cases t with
    | leaf => cases hold
    | inner s9 a v9 l9 r9 => cases hold; exact ⟨hCs.1, hCs.2.1, hCs.2.2.2.1⟩
  refine lv_aload_n hx hb dX5_buildAnew_5 rfl (lv_at hl 1 rfl) ?_
  refine g_get (C := RX2) (T := TX2) (N := 9) hx hb hts hi2 hown hN hW.1 hko rfl (by decide) 6 (by decide) hfX5_36 (v := va_rf (cTop c0)) old3.2.2 dX5_buildAnew_6 ?_
  refine g_astore_n (r := cTop c0) (lv' := [(2, va_rf (cTop c0)), (0, .ref T), (1, .ref old)]) hx hb dX5_buildAnew_9 rfl hl (by decide) rfl (fun ls hl => ?_)
  rcases c0 with _ | ⟨⟨b, a, o⟩, c1⟩
  · have hl : lv_has ls 8 [(2, .null), (0, .ref T), (1, .ref old)] := hl
    refine lv_aload_nN hx hb dX5_buildAnew_10 rfl (lv_at hl 0 rfl) ?_
    refine lv_ifnullN (tgt := 26) hx hb dX5_buildAnew_11 (by decide) ?_
    refine lv_iconst (v := nI 0) hx hb dX5_buildAnew_26 (by decide) ?_
    refine lv_istore_n (lv' := [(3, .int (nI 0)), (2, .null), (0, .ref T), (1, .ref old)]) hx hb dX5_buildAnew_27 rfl hl (by decide) rfl (fun ls hl => ?_)
    refine lv_aload_n hx hb dX5_buildAnew_28 rfl (lv_at hl 3 rfl) ?_
    refine g_get (C := RX2) (T := TX2) (N := 9) hx hb hts hi2 hown hN hW.1 hko rfl (by decide) 5 (by decide) hfX5_29 (v := .int (nI (tSz t))) (CT_root hCs hold) dX5_buildAnew_29 ?_
    refine lv_istore (lv' := [(4, .int (nI (tSz t))), (3, .int (nI 0)), (2, .null), (0, .ref T), (1, .ref old)]) hx hb dX5_buildAnew_32 hl (by decide) rfl (fun ls hl => ?_)
    refine lv_aload_n hx hb dX5_buildAnew_34 rfl (lv_at hl 3 rfl) ?_
    refine lv_aload_n hx hb dX5_buildAnew_35 rfl (lv_at hl 4 rfl) ?_
    refine g_mV (As := [.ref old]) (b := T) (rest := []) hx hb hml hown hts hN hW (c_gatherLive l Γ K F _ T old row d t _ _ dt pl dd hk hko hkr h1 hCs hold (fun a ha => hND2 a (Or.inl ha)) (by omega) (by rw [hlv]; exact h60)) gX5_buildAnew_X5_gatherLive rfl hk (by decide) rfl (na := 1) rfl (by decide +kernel) ⟨by decide, by decide⟩ ⟨Nat.le_of_ble_eq_true rfl, Nat.le_of_ble_eq_true rfl⟩ rfl hl.1 (Nat.le_of_ble_eq_true rfl) dX5_buildAnew_36 (fun v K' F1 H locs hp hW hsz' => ?_)
    obtain ⟨rfl, hK9, hrow1, hfr1⟩ := hp
    subst K'
    show W _ _ _ _ _ _ _ _ _ _ _ _ _ _ _ (F0 m 39 ls [.int (nI (alv dd (tPre t)).length)])
    refine g_asi (show _ = nI lv from by rw [hlv]) ?_
    have t0 : F1 T 0 = .int (nI d) := (hfr1 T 0 hrT).trans h0
    have t1 : F1 T 1 = .ref row := (hfr1 T 1 hrT).trans h1
    have nd1 : NDs K F1 dt pl dd (alv dd (tPre t)) := NDs_congr (fun b j hbj => hfr1 b j (hbj.elim (fun q => hnr b q.1) (fun q => kne q hkr (by decide)))) (fun z hz => hND2 z (Or.inl (alv_sub hz)))
    have o3 : F1 old 3 = .int (nI (([] : cxT Nat)).length) := (hfr1 old 3 (hnr old hko)).trans old3.1
    have o4 : F1 old 4 = .int (nI ((([] : cxT Nat)).length % d)) := (hfr1 old 4 (hnr old hko)).trans old3.2.1
    refine lv_istore (lv' := [(5, .int (nI lv)), (4, .int (nI (tSz t))), (3, .int (nI 0)), (2, .null), (0, .ref T), (1, .ref old)]) hx hb dX5_buildAnew_39 hl (by decide) rfl (fun ls hl => ?_)
    refine lv_aload_n hx hb dX5_buildAnew_41 rfl (lv_at hl 4 rfl) ?_
    refine lv_iconst (v := nI 0) hx hb dX5_buildAnew_42 (by decide) ?_
    refine lv_iload hx hb dX5_buildAnew_43 (lv_at hl 0 rfl) ?_
    refine lv_aload_n hx hb dX5_buildAnew_45 rfl (lv_at hl 5 rfl) ?_
    refine g_get (C := RX2) (T := TX2) (N := 9) hx hb hts hi2 hown hN hW.1 hko rfl (by decide) 3 (by decide) hfX5_39 (v := .int (nI (([] : cxT Nat)).length)) o3 dX5_buildAnew_46 ?_
    refine lv_aload_n hx hb dX5_buildAnew_49 rfl (lv_at hl 5 rfl) ?_
    refine g_get (C := RX2) (T := TX2) (N := 9) hx hb hts hi2 hown hN hW.1 hko rfl (by decide) 4 (by decide) hfX5_42 (v := .int (nI ((([] : cxT Nat)).length % d))) o4 dX5_buildAnew_50 ?_
    refine lv_aload_nN hx hb dX5_buildAnew_53 rfl (lv_at hl 3 rfl) ?_
    refine g_mV (As := [.int (nI 0), .int (nI lv), .int (nI (([] : cxT Nat)).length), .int (nI ((([] : cxT Nat)).length % d)), .null]) (b := T) (rest := []) hx hb hml hown hts hN hW (by
        have q := c_build l Γ K T row d dt pl dd hk hkr hd1 hd4 60 F1 H.size (alv dd (tPre t)) 0 (([] : cxT Nat)).length (cTop (([] : cxT Nat))) (by rw [hlv]; exact h60) (by rw [hlv]; omega) (by rw [hlv]; omega) t0 t1 hrow1 nd1 (List.Pairwise.filter _ (List.nodup_append.mp hnd2).1)
        rw [hlv, Nat.zero_add, hBe] at q
        exact q) gX5_buildAnew_X5_build rfl hk (by decide) rfl (na := 5) rfl (by decide +kernel) ⟨by decide, by decide⟩ ⟨Nat.le_of_ble_eq_true rfl, Nat.le_of_ble_eq_true rfl⟩ rfl hl.1 (Nat.le_of_ble_eq_true rfl) dX5_buildAnew_54 (fun v K' F2 H locs hp hW hsz' => ?_)
    obtain ⟨rfl, hK9, hCB, hfr2⟩ := hp
    subst K'
    show W _ _ _ _ _ _ _ _ _ _ _ _ _ _ _ (F0 m 57 ls [va_rf (tRt B)])
    have n2 : ∀ b j, b ≠ row → ¬ (b ∈ alv dd (tPre t) ∧ 3 ≤ j) → F2 b j = F b j := fun b j h1 h2 => by rw [hfr2 b j (fun q => h1 q.1) h2, hfr1 b j h1]
    have nL : ∀ b, b ∈ alv dd (tPre t) → K b = some (2, 0) := fun b hb => (hND2 b (Or.inl (alv_sub hb))).1.1
    have nT : ∀ j, F2 T j = F T j := fun j => n2 T j hrT (fun q => hnT T (nL T q.1) rfl)
    have nc : ∀ z j, z ∈ cAd (([] : cxT Nat)) → F2 z j = F z j := fun z j hz => n2 z j (hnr z (hND2 z (Or.inr hz)).1.1) (fun q => hdis z (alv_sub q.1) hz)
    have nfr : ∀ b j, ¬ (K b = some (2, 0) ∧ 3 ≤ j) → b ≠ row → F2 b j = F b j := fun b j h1 h2 => n2 b j h2 (fun q => h1 ⟨nL b q.1, q.2⟩)
    refine g_astore (r := tRt B) (lv' := [(6, va_rf (tRt B)), (5, .int (nI lv)), (4, .int (nI (tSz t))), (3, .int (nI 0)), (2, .null), (0, .ref T), (1, .ref old)]) hx hb dX5_buildAnew_57 hl (by decide) rfl (fun ls hl => ?_)
    refine lv_aload_nN hx hb dX5_buildAnew_59 rfl (lv_at hl 4 rfl) ?_
    refine lv_ifnonnullN hx hb dX5_buildAnew_60 ?_
    refine lv_aload_n hx hb dX5_buildAnew_63 rfl (lv_at hl 5 rfl) ?_
    refine g_aload (r := tRt B) hx hb dX5_buildAnew_64 (lv_at hl 0 rfl) ?_
    refine g_put (C := RX5) (T := TX5) (N := 4) hx hb hts hi5 tyX5 tyX5_ok nmX5 hown hN hW hk rfl (by decide) 2 (by decide) hfX5_21 rfl (va_rf_nar _ _) (va_rf_fit _ _) dX5_buildAnew_66 (fun H locs hW => ?_)
    refine lv_goto (tgt := 91) hx hb dX5_buildAnew_69 (by decide) ?_
    refine tail _ H locs ls trivial trivial ?_ gU_self ?_ (fun b j b1 b2 b3 => ?_) hW (lv_sub hl [4, 2, 1, 5] rfl)
    · exact CT_congr (fun z hz k _ => gU_a (hnT z (nL z (hBp z hz)))) hCB
    · rw [gU_k (by decide), nT 3]; exact h3
    · rw [gU_ne (fun q => b2 ⟨q.1, by omega⟩)]; exact nfr b j b1 b3
  · have hl : lv_has ls 8 [(2, .ref a), (0, .ref T), (1, .ref old)] := hl
    obtain ⟨p3, p4, p6, p7, p8, pC, pR⟩ := id hPr
    have hac : a ∈ cAd ((b, a, o) :: c1) := List.mem_cons_self
    have hka : K a = some (2, 0) := (hND2 a (Or.inr hac)).1.1
    have hno : ∀ z, z ∈ tPre o → z ∈ cAd ((b, a, o) :: c1) := fun z hz => List.mem_cons_of_mem _ (List.mem_append_left _ hz)
    refine lv_aload_n hx hb dX5_buildAnew_10 rfl (lv_at hl 0 rfl) ?_
    refine lv_ifnull hx hb dX5_buildAnew_11 ?_
    cases b
    · refine lv_aload_n hx hb dX5_buildAnew_14 rfl (lv_at hl 0 rfl) ?_
      refine g_get (C := RX2) (T := TX2) (N := 9) hx hb hts hi2 hown hN hW.1 hka rfl (by decide) 7 (by decide) hfX5_53 (v := va_rf (tRt o)) p7 dX5_buildAnew_15 ?_
      refine lv_aload_n hx hb dX5_buildAnew_18 rfl (lv_at hl 2 rfl) ?_
      refine lv_acmp_ne (rx := tRt o) (ry := (some old)) (tgt := 26) hx hb dX5_buildAnew_19 (by decide) (fun cb => ?_) (fun cb => ?_)
      · refine lv_iconst (v := nI 0) hx hb dX5_buildAnew_26 (by decide) ?_
        refine lv_istore_n (lv' := [(3, .int (nI 0)), (2, .ref a), (0, .ref T), (1, .ref old)]) hx hb dX5_buildAnew_27 rfl hl (by decide) rfl (fun ls hl => ?_)
        refine lv_aload_n hx hb dX5_buildAnew_28 rfl (lv_at hl 3 rfl) ?_
        refine g_get (C := RX2) (T := TX2) (N := 9) hx hb hts hi2 hown hN hW.1 hko rfl (by decide) 5 (by decide) hfX5_29 (v := .int (nI (tSz t))) (CT_root hCs hold) dX5_buildAnew_29 ?_
        refine lv_istore (lv' := [(4, .int (nI (tSz t))), (3, .int (nI 0)), (2, .ref a), (0, .ref T), (1, .ref old)]) hx hb dX5_buildAnew_32 hl (by decide) rfl (fun ls hl => ?_)
        refine lv_aload_n hx hb dX5_buildAnew_34 rfl (lv_at hl 3 rfl) ?_
        refine lv_aload_n hx hb dX5_buildAnew_35 rfl (lv_at hl 4 rfl) ?_
        refine g_mV (As := [.ref old]) (b := T) (rest := []) hx hb hml hown hts hN hW (c_gatherLive l Γ K F _ T old row d t _ _ dt pl dd hk hko hkr h1 hCs hold (fun a ha => hND2 a (Or.inl ha)) (by omega) (by rw [hlv]; exact h60)) gX5_buildAnew_X5_gatherLive rfl hk (by decide) rfl (na := 1) rfl (by decide +kernel) ⟨by decide, by decide⟩ ⟨Nat.le_of_ble_eq_true rfl, Nat.le_of_ble_eq_true rfl⟩ rfl hl.1 (Nat.le_of_ble_eq_true rfl) dX5_buildAnew_36 (fun v K' F1 H locs hp hW hsz' => ?_)
        obtain ⟨rfl, hK9, hrow1, hfr1⟩ := hp
        subst K'
        show W _ _ _ _ _ _ _ _ _ _ _ _ _ _ _ (F0 m 39 ls [.int (nI (alv dd (tPre t)).length)])
        refine g_asi (show _ = nI lv from by rw [hlv]) ?_
        have t0 : F1 T 0 = .int (nI d) := (hfr1 T 0 hrT).trans h0
        have t1 : F1 T 1 = .ref row := (hfr1 T 1 hrT).trans h1
        have nd1 : NDs K F1 dt pl dd (alv dd (tPre t)) := NDs_congr (fun b j hbj => hfr1 b j (hbj.elim (fun q => hnr b q.1) (fun q => kne q hkr (by decide)))) (fun z hz => hND2 z (Or.inl (alv_sub hz)))
        have o3 : F1 old 3 = .int (nI (((false, a, o) :: c1)).length) := (hfr1 old 3 (hnr old hko)).trans old3.1
        have o4 : F1 old 4 = .int (nI ((((false, a, o) :: c1)).length % d)) := (hfr1 old 4 (hnr old hko)).trans old3.2.1
        refine lv_istore (lv' := [(5, .int (nI lv)), (4, .int (nI (tSz t))), (3, .int (nI 0)), (2, .ref a), (0, .ref T), (1, .ref old)]) hx hb dX5_buildAnew_39 hl (by decide) rfl (fun ls hl => ?_)
        refine lv_aload_n hx hb dX5_buildAnew_41 rfl (lv_at hl 4 rfl) ?_
        refine lv_iconst (v := nI 0) hx hb dX5_buildAnew_42 (by decide) ?_
        refine lv_iload hx hb dX5_buildAnew_43 (lv_at hl 0 rfl) ?_
        refine lv_aload_n hx hb dX5_buildAnew_45 rfl (lv_at hl 5 rfl) ?_
        refine g_get (C := RX2) (T := TX2) (N := 9) hx hb hts hi2 hown hN hW.1 hko rfl (by decide) 3 (by decide) hfX5_39 (v := .int (nI (((false, a, o) :: c1)).length)) o3 dX5_buildAnew_46 ?_
        refine lv_aload_n hx hb dX5_buildAnew_49 rfl (lv_at hl 5 rfl) ?_
        refine g_get (C := RX2) (T := TX2) (N := 9) hx hb hts hi2 hown hN hW.1 hko rfl (by decide) 4 (by decide) hfX5_42 (v := .int (nI ((((false, a, o) :: c1)).length % d))) o4 dX5_buildAnew_50 ?_
        refine lv_aload_n hx hb dX5_buildAnew_53 rfl (lv_at hl 3 rfl) ?_
        refine g_mV (As := [.int (nI 0), .int (nI lv), .int (nI (((false, a, o) :: c1)).length), .int (nI ((((false, a, o) :: c1)).length % d)), .ref a]) (b := T) (rest := []) hx hb hml hown hts hN hW (by
            have q := c_build l Γ K T row d dt pl dd hk hkr hd1 hd4 60 F1 H.size (alv dd (tPre t)) 0 (((false, a, o) :: c1)).length (cTop (((false, a, o) :: c1))) (by rw [hlv]; exact h60) (by rw [hlv]; omega) (by rw [hlv]; omega) t0 t1 hrow1 nd1 (List.Pairwise.filter _ (List.nodup_append.mp hnd2).1)
            rw [hlv, Nat.zero_add, hBe] at q
            exact q) gX5_buildAnew_X5_build rfl hk (by decide) rfl (na := 5) rfl (by decide +kernel) ⟨by decide, by decide⟩ ⟨Nat.le_of_ble_eq_true rfl, Nat.le_of_ble_eq_true rfl⟩ rfl hl.1 (Nat.le_of_ble_eq_true rfl) dX5_buildAnew_54 (fun v K' F2 H locs hp hW hsz' => ?_)
        obtain ⟨rfl, hK9, hCB, hfr2⟩ := hp
        subst K'
        show W _ _ _ _ _ _ _ _ _ _ _ _ _ _ _ (F0 m 57 ls [va_rf (tRt B)])
        have n2 : ∀ b j, b ≠ row → ¬ (b ∈ alv dd (tPre t) ∧ 3 ≤ j) → F2 b j = F b j := fun b j h1 h2 => by rw [hfr2 b j (fun q => h1 q.1) h2, hfr1 b j h1]
        have nL : ∀ b, b ∈ alv dd (tPre t) → K b = some (2, 0) := fun b hb => (hND2 b (Or.inl (alv_sub hb))).1.1
        have nT : ∀ j, F2 T j = F T j := fun j => n2 T j hrT (fun q => hnT T (nL T q.1) rfl)
        have nc : ∀ z j, z ∈ cAd (((false, a, o) :: c1)) → F2 z j = F z j := fun z j hz => n2 z j (hnr z (hND2 z (Or.inr hz)).1.1) (fun q => hdis z (alv_sub q.1) hz)
        have nfr : ∀ b j, ¬ (K b = some (2, 0) ∧ 3 ≤ j) → b ≠ row → F2 b j = F b j := fun b j h1 h2 => n2 b j h2 (fun q => h1 ⟨nL b q.1, q.2⟩)
        refine g_astore (r := tRt B) (lv' := [(6, va_rf (tRt B)), (5, .int (nI lv)), (4, .int (nI (tSz t))), (3, .int (nI 0)), (2, .ref a), (0, .ref T), (1, .ref old)]) hx hb dX5_buildAnew_57 hl (by decide) rfl (fun ls hl => ?_)
        refine lv_aload_n hx hb dX5_buildAnew_59 rfl (lv_at hl 4 rfl) ?_
        refine lv_ifnonnull (tgt := 72) hx hb dX5_buildAnew_60 (by decide) ?_
        refine lv_iload_n hx hb dX5_buildAnew_72 rfl (lv_at hl 3 rfl) ?_
        refine lv_if_eq (tgt := 85) hx hb dX5_buildAnew_73 (by decide) (fun cd => ?_) (fun cd => ?_)
        · have cd : 0 = 0 := (nI_eq0 (by omega)).mp cd
          refine lv_aload_n hx hb dX5_buildAnew_85 rfl (lv_at hl 4 rfl) ?_
          refine g_aload (r := tRt B) hx hb dX5_buildAnew_86 (lv_at hl 0 rfl) ?_
          refine g_put (C := RX2) (T := TX2) (N := 9) hx hb hts hi2 tyX2 tyX2_ok nmX2 hown hN hW hka rfl (by decide) 8 (by decide) hfX5_56 rfl (va_rf_nar _ _) (va_rf_fit _ _) dX5_buildAnew_88 (fun H locs hW => ?_)
          have hax : ∀ z, z ∈ tPre o ++ cAd c1 → z ≠ a := fun z hz e => (List.nodup_cons.mp (show (a :: (tPre o ++ cAd c1)).Nodup from hcn)).1 (e ▸ hz)
          have ga : ∀ j, j ≠ 8 → gU F2 a 8 (va_rf (tRt B)) a j = F a j := fun j hj => by rw [gU_k hj, nc a j hac]
          have gn : ∀ z j, z ∈ tPre o ++ cAd c1 → gU F2 a 8 (va_rf (tRt B)) z j = F z j := fun z j hz => by rw [gU_a (hax z hz), nc z j (List.mem_cons_of_mem _ hz)]
          refine tail _ H locs ls ⟨(ga 3 (by decide)).trans p3, (ga 4 (by decide)).trans p4, (ga 6 (by decide)).trans p6, ?_, ?_, CT_congr (fun z hz k _ => gn z k (List.mem_append_left _ hz)) pC, PXr_congr (fun z hz k _ _ => gn z k (List.mem_append_right _ hz)) (List.nodup_append.mp (List.nodup_cons.mp (show (a :: (tPre o ++ cAd c1)).Nodup from hcn)).2).2.1 pR⟩ ⟨(ga 5 (by decide)).trans hPz.1, PXz_congr (fun z hz => gn z 5 (List.mem_append_right _ (cPath_sub hz))) hPz.2⟩ ?_ ?_ ?_ (fun b j b1 b2 b3 => ?_) hW (lv_sub hl [4, 2, 1, 5] rfl)
          · exact (ga 7 (by decide)).trans p7
          · exact gU_self
          · exact CT_congr (fun z hz k _ => gU_a (fun e => hdis z (alv_sub (hBp z hz)) (by rw [e]; exact hac))) hCB
          · rw [gU_a (Ne.symm (hnT a hka)), nT 2, h2, plug_root c1 _ t B]
          · rw [gU_a (Ne.symm (hnT a hka)), nT 3]; exact h3
          · rw [gU_ne (fun q => b1 ⟨by rw [q.1]; exact hka, by omega⟩)]; exact nfr b j b1 b3
        · have cd : ¬ 0 = 0 := fun z => cd ((nI_eq0 (by omega)).mpr z)
          exact absurd cd (by decide)
      · exact absurd (tRt_mem cb) (fun h => hdis old hot (hno old h))
    · refine lv_aload_n hx hb dX5_buildAnew_14 rfl (lv_at hl 0 rfl) ?_
      refine g_get (C := RX2) (T := TX2) (N := 9) hx hb hts hi2 hown hN hW.1 hka rfl (by decide) 7 (by decide) hfX5_53 (v := va_rf (some old)) p7 dX5_buildAnew_15 ?_
      refine lv_aload_n hx hb dX5_buildAnew_18 rfl (lv_at hl 2 rfl) ?_
      refine lv_acmp_ne (rx := some old) (ry := (some old)) (tgt := 26) hx hb dX5_buildAnew_19 (by decide) (fun cb => ?_) (fun cb => ?_)
      · exact absurd rfl cb
      · refine lv_iconst (v := nI 1) hx hb dX5_buildAnew_22 (by decide) ?_
        refine lv_goto (tgt := 27) hx hb dX5_buildAnew_23 (by decide) ?_
        refine lv_istore_n (lv' := [(3, .int (nI 1)), (2, .ref a), (0, .ref T), (1, .ref old)]) hx hb dX5_buildAnew_27 rfl hl (by decide) rfl (fun ls hl => ?_)
        refine lv_aload_n hx hb dX5_buildAnew_28 rfl (lv_at hl 3 rfl) ?_
        refine g_get (C := RX2) (T := TX2) (N := 9) hx hb hts hi2 hown hN hW.1 hko rfl (by decide) 5 (by decide) hfX5_29 (v := .int (nI (tSz t))) (CT_root hCs hold) dX5_buildAnew_29 ?_
        refine lv_istore (lv' := [(4, .int (nI (tSz t))), (3, .int (nI 1)), (2, .ref a), (0, .ref T), (1, .ref old)]) hx hb dX5_buildAnew_32 hl (by decide) rfl (fun ls hl => ?_)
        refine lv_aload_n hx hb dX5_buildAnew_34 rfl (lv_at hl 3 rfl) ?_
        refine lv_aload_n hx hb dX5_buildAnew_35 rfl (lv_at hl 4 rfl) ?_
        refine g_mV (As := [.ref old]) (b := T) (rest := []) hx hb hml hown hts hN hW (c_gatherLive l Γ K F _ T old row d t _ _ dt pl dd hk hko hkr h1 hCs hold (fun a ha => hND2 a (Or.inl ha)) (by omega) (by rw [hlv]; exact h60)) gX5_buildAnew_X5_gatherLive rfl hk (by decide) rfl (na := 1) rfl (by decide +kernel) ⟨by decide, by decide⟩ ⟨Nat.le_of_ble_eq_true rfl, Nat.le_of_ble_eq_true rfl⟩ rfl hl.1 (Nat.le_of_ble_eq_true rfl) dX5_buildAnew_36 (fun v K' F1 H locs hp hW hsz' => ?_)
        obtain ⟨rfl, hK9, hrow1, hfr1⟩ := hp
        subst K'
        show W _ _ _ _ _ _ _ _ _ _ _ _ _ _ _ (F0 m 39 ls [.int (nI (alv dd (tPre t)).length)])
        refine g_asi (show _ = nI lv from by rw [hlv]) ?_
        have t0 : F1 T 0 = .int (nI d) := (hfr1 T 0 hrT).trans h0
        have t1 : F1 T 1 = .ref row := (hfr1 T 1 hrT).trans h1
        have nd1 : NDs K F1 dt pl dd (alv dd (tPre t)) := NDs_congr (fun b j hbj => hfr1 b j (hbj.elim (fun q => hnr b q.1) (fun q => kne q hkr (by decide)))) (fun z hz => hND2 z (Or.inl (alv_sub hz)))
        have o3 : F1 old 3 = .int (nI (((true, a, o) :: c1)).length) := (hfr1 old 3 (hnr old hko)).trans old3.1
        have o4 : F1 old 4 = .int (nI ((((true, a, o) :: c1)).length % d)) := (hfr1 old 4 (hnr old hko)).trans old3.2.1
        refine lv_istore (lv' := [(5, .int (nI lv)), (4, .int (nI (tSz t))), (3, .int (nI 1)), (2, .ref a), (0, .ref T), (1, .ref old)]) hx hb dX5_buildAnew_39 hl (by decide) rfl (fun ls hl => ?_)
        refine lv_aload_n hx hb dX5_buildAnew_41 rfl (lv_at hl 4 rfl) ?_
        refine lv_iconst (v := nI 0) hx hb dX5_buildAnew_42 (by decide) ?_
        refine lv_iload hx hb dX5_buildAnew_43 (lv_at hl 0 rfl) ?_
        refine lv_aload_n hx hb dX5_buildAnew_45 rfl (lv_at hl 5 rfl) ?_
        refine g_get (C := RX2) (T := TX2) (N := 9) hx hb hts hi2 hown hN hW.1 hko rfl (by decide) 3 (by decide) hfX5_39 (v := .int (nI (((true, a, o) :: c1)).length)) o3 dX5_buildAnew_46 ?_
        refine lv_aload_n hx hb dX5_buildAnew_49 rfl (lv_at hl 5 rfl) ?_
        refine g_get (C := RX2) (T := TX2) (N := 9) hx hb hts hi2 hown hN hW.1 hko rfl (by decide) 4 (by decide) hfX5_42 (v := .int (nI ((((true, a, o) :: c1)).length % d))) o4 dX5_buildAnew_50 ?_
        refine lv_aload_n hx hb dX5_buildAnew_53 rfl (lv_at hl 3 rfl) ?_
        refine g_mV (As := [.int (nI 0), .int (nI lv), .int (nI (((true, a, o) :: c1)).length), .int (nI ((((true, a, o) :: c1)).length % d)), .ref a]) (b := T) (rest := []) hx hb hml hown hts hN hW (by
            have q := c_build l Γ K T row d dt pl dd hk hkr hd1 hd4 60 F1 H.size (alv dd (tPre t)) 0 (((true, a, o) :: c1)).length (cTop (((true, a, o) :: c1))) (by rw [hlv]; exact h60) (by rw [hlv]; omega) (by rw [hlv]; omega) t0 t1 hrow1 nd1 (List.Pairwise.filter _ (List.nodup_append.mp hnd2).1)
            rw [hlv, Nat.zero_add, hBe] at q
            exact q) gX5_buildAnew_X5_build rfl hk (by decide) rfl (na := 5) rfl (by decide +kernel) ⟨by decide, by decide⟩ ⟨Nat.le_of_ble_eq_true rfl, Nat.le_of_ble_eq_true rfl⟩ rfl hl.1 (Nat.le_of_ble_eq_true rfl) dX5_buildAnew_54 (fun v K' F2 H locs hp hW hsz' => ?_)
        obtain ⟨rfl, hK9, hCB, hfr2⟩ := hp
        subst K'
        show W _ _ _ _ _ _ _ _ _ _ _ _ _ _ _ (F0 m 57 ls [va_rf (tRt B)])
        have n2 : ∀ b j, b ≠ row → ¬ (b ∈ alv dd (tPre t) ∧ 3 ≤ j) → F2 b j = F b j := fun b j h1 h2 => by rw [hfr2 b j (fun q => h1 q.1) h2, hfr1 b j h1]
        have nL : ∀ b, b ∈ alv dd (tPre t) → K b = some (2, 0) := fun b hb => (hND2 b (Or.inl (alv_sub hb))).1.1
        have nT : ∀ j, F2 T j = F T j := fun j => n2 T j hrT (fun q => hnT T (nL T q.1) rfl)
        have nc : ∀ z j, z ∈ cAd (((true, a, o) :: c1)) → F2 z j = F z j := fun z j hz => n2 z j (hnr z (hND2 z (Or.inr hz)).1.1) (fun q => hdis z (alv_sub q.1) hz)
        have nfr : ∀ b j, ¬ (K b = some (2, 0) ∧ 3 ≤ j) → b ≠ row → F2 b j = F b j := fun b j h1 h2 => n2 b j h2 (fun q => h1 ⟨nL b q.1, q.2⟩)
        refine g_astore (r := tRt B) (lv' := [(6, va_rf (tRt B)), (5, .int (nI lv)), (4, .int (nI (tSz t))), (3, .int (nI 1)), (2, .ref a), (0, .ref T), (1, .ref old)]) hx hb dX5_buildAnew_57 hl (by decide) rfl (fun ls hl => ?_)
        refine lv_aload_n hx hb dX5_buildAnew_59 rfl (lv_at hl 4 rfl) ?_
        refine lv_ifnonnull (tgt := 72) hx hb dX5_buildAnew_60 (by decide) ?_
        refine lv_iload_n hx hb dX5_buildAnew_72 rfl (lv_at hl 3 rfl) ?_
        refine lv_if_eq (tgt := 85) hx hb dX5_buildAnew_73 (by decide) (fun cd => ?_) (fun cd => ?_)
        · have cd : 1 = 0 := (nI_eq0 (by omega)).mp cd
          exact absurd cd (by decide)
        · have cd : ¬ 1 = 0 := fun z => cd ((nI_eq0 (by omega)).mpr z)
          refine lv_aload_n hx hb dX5_buildAnew_76 rfl (lv_at hl 4 rfl) ?_
          refine g_aload (r := tRt B) hx hb dX5_buildAnew_77 (lv_at hl 0 rfl) ?_
          refine g_put (C := RX2) (T := TX2) (N := 9) hx hb hts hi2 tyX2 tyX2_ok nmX2 hown hN hW hka rfl (by decide) 7 (by decide) hfX5_53 rfl (va_rf_nar _ _) (va_rf_fit _ _) dX5_buildAnew_79 (fun H locs hW => ?_)
          refine lv_goto (tgt := 91) hx hb dX5_buildAnew_82 (by decide) ?_
          have hax : ∀ z, z ∈ tPre o ++ cAd c1 → z ≠ a := fun z hz e => (List.nodup_cons.mp (show (a :: (tPre o ++ cAd c1)).Nodup from hcn)).1 (e ▸ hz)
          have ga : ∀ j, j ≠ 7 → gU F2 a 7 (va_rf (tRt B)) a j = F a j := fun j hj => by rw [gU_k hj, nc a j hac]
          have gn : ∀ z j, z ∈ tPre o ++ cAd c1 → gU F2 a 7 (va_rf (tRt B)) z j = F z j := fun z j hz => by rw [gU_a (hax z hz), nc z j (List.mem_cons_of_mem _ hz)]
          refine tail _ H locs ls ⟨(ga 3 (by decide)).trans p3, (ga 4 (by decide)).trans p4, (ga 6 (by decide)).trans p6, ?_, ?_, CT_congr (fun z hz k _ => gn z k (List.mem_append_left _ hz)) pC, PXr_congr (fun z hz k _ _ => gn z k (List.mem_append_right _ hz)) (List.nodup_append.mp (List.nodup_cons.mp (show (a :: (tPre o ++ cAd c1)).Nodup from hcn)).2).2.1 pR⟩ ⟨(ga 5 (by decide)).trans hPz.1, PXz_congr (fun z hz => gn z 5 (List.mem_append_right _ (cPath_sub hz))) hPz.2⟩ ?_ ?_ ?_ (fun b j b1 b2 b3 => ?_) hW (lv_sub hl [4, 2, 1, 5] rfl)
          · exact gU_self
          · exact (ga 8 (by decide)).trans p8
          · exact CT_congr (fun z hz k _ => gU_a (fun e => hdis z (alv_sub (hBp z hz)) (by rw [e]; exact hac))) hCB
          · rw [gU_a (Ne.symm (hnT a hka)), nT 2, h2, plug_root c1 _ t B]
          · rw [gU_a (Ne.symm (hnT a hka)), nT 3]; exact h3
          · rw [gU_ne (fun q => b1 ⟨by rw [q.1]; exact hka, by omega⟩)]; exact nfr b j b1 b3
