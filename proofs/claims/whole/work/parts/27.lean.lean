theorem insG_sub1 {lt : Nat → Nat → Nat → Bool} {d x dep b s a : Nat} {v : Unit} {L R tc : TT Nat} : ∀ {t : TT Nat}, b ∈ tPre t → ((∀ z ∈ tPre (Std.DTreeMap.Internal.Impl.inner s a v L R), z ∈ tPre tc) ∧ x ∈ x :: tPre tc) → (t = L ∨ t = insG lt d x dep L) → b ∈ x :: tPre tc := by
  intro t hb h ht
  rcases ht with rfl | rfl
  · exact List.mem_cons_of_mem _ (h.1 b (List.mem_cons_of_mem _ (List.mem_append_left _ hb)))
  · rcases List.mem_cons.mp ((insG_perm lt d x L dep).mem_iff.mp hb) with e | e
    · rw [e]; exact List.mem_cons_self
    · exact List.mem_cons_of_mem _ (h.1 b (List.mem_cons_of_mem _ (List.mem_append_left _ e)))
theorem insG_sub2 {lt : Nat → Nat → Nat → Bool} {d x dep b s a : Nat} {v : Unit} {L R tc : TT Nat} : ∀ {t : TT Nat}, b ∈ tPre t → ((∀ z ∈ tPre (Std.DTreeMap.Internal.Impl.inner s a v L R), z ∈ tPre tc) ∧ x ∈ x :: tPre tc) → (t = R ∨ t = insG lt d x dep R) → b ∈ x :: tPre tc := by
  intro t hb h ht
  rcases ht with rfl | rfl
  · exact List.mem_cons_of_mem _ (h.1 b (List.mem_cons_of_mem _ (List.mem_append_right _ hb)))
  · rcases List.mem_cons.mp ((insG_perm lt d x R dep).mem_iff.mp hb) with e | e
    · rw [e]; exact List.mem_cons_self
    · exact List.mem_cons_of_mem _ (h.1 b (List.mem_cons_of_mem _ (List.mem_append_right _ e)))

set_option maxHeartbeats 4000000 in
set_option maxRecDepth 100000 in
theorem c_firstLeaningAbove (l : Launch) (Γ : gG) (K : gK) (F : gF) (T x d : Nat) (tc : TT Nat) (dt : Nat → gPt) (pl : Nat → Nat) (dd : Nat → Bool) (hk : K T = some (5, 0)) (h2 : F T 2 = va_rf (tRt (insG (ltA dt) d x 0 tc))) (hC : CT F d (insG (ltA dt) d x 0 tc) none 0) (hND : NDs K F dt pl dd (x :: tPre tc)) (hxt : x ∉ tPre tc) (hs : tSz tc ≤ 1000) (hd1 : 0 < d) (hd4 : d ≤ 4) : gMR l yX5_firstLeaningAbove wsX5_firstLeaningAbove 3 Γ K F [.ref T, .ref x] (some (va_rf ((findG (ltA dt) d x [] tc).bind (fun q => tRt q.2)))) := by
  refine g_mR (cc := cX5_firstLeaningAbove) (maxL := 3) (ret := (some (.object "NearTree$Node"))) (by decide) rfl (Nat.le_of_ble_eq_true rfl) ?_
  intro p e s m args below meth c ls Z hx hb hts hown hml hN hP hret hl
  have hl : lv_has ls 3 [(0, .ref T), (1, .ref x)] := hl
  have hown : s.vm.findClass RX5 = some m.cls := hown
  have hi5 : ∀ w ∈ wsX50, w ∈ wsX5_firstLeaningAbove := by decide +kernel
  have hfX5_21 : Cond.fieldLink RX5 21 (TX5 2).1 (TX5 2).2.1 (TX5 2).2.2.1 ∈ wsX5_firstLeaningAbove := by decide +kernel
  have hkx : K x = some (2, 0) := (hND x List.mem_cons_self).1.1
  have hkx2 : x ∈ x :: tPre tc := List.mem_cons_self
  have hall : ∀ b, b ∈ x :: tPre tc → K b = some (2, 0) := fun b hb => (hND b hb).1.1
  generalize hv9 : (findG (ltA dt) d x [] tc).bind (fun q => tRt q.2) = v at hret
  have loop : ∀ (t : TT Nat) (c0 : cxT Nat) (up : Option Nat) (ls : Array Slot), CT F d (insG (ltA dt) d x c0.length t) up c0.length → (∀ z ∈ tPre t, z ∈ tPre tc) → tSz t ≤ 1000 → (findG (ltA dt) d x c0 t).bind (fun q => tRt q.2) = v → lv_has ls 3 [(2, va_rf (tRt (insG (ltA dt) d x c0.length t))), (0, .ref T), (1, .ref x)] → W p l e (gRm 3 0 0) s m args below meth c s.heap [] 0 0 Z (F0 m 5 ls []) := by
    intro t
    induction t with
    | leaf =>
      intro c0 up ls hC1 hsub hs hv hl
      have hl : lv_has ls 3 [(2, .ref x), (0, .ref T), (1, .ref x)] := hl
      refine lv_aload_n hx hb dX5_firstLeaningAbove_5 rfl (lv_at hl 0 rfl) ?_
      refine lv_ifnull hx hb dX5_firstLeaningAbove_6 ?_
      refine lv_aload_n hx hb dX5_firstLeaningAbove_9 rfl (lv_at hl 0 rfl) ?_
      refine lv_aload_n hx hb dX5_firstLeaningAbove_10 rfl (lv_at hl 2 rfl) ?_
      refine lv_acmp_eq (rx := (some x)) (ry := (some x)) (tgt := 32) hx hb dX5_firstLeaningAbove_11 (by decide) (fun c1 => ?_) (fun c1 => ?_)
      · refine lv_null hx hb dX5_firstLeaningAbove_32 ?_
        exact hret (some (va_rf none)) _ _ (by rw [← hv]; rfl) (rt_a dX5_firstLeaningAbove_33)
      · exact absurd rfl c1
    | inner s9 a v9 L R ihl ihr =>
      intro c0 up ls hC1 hsub hs hv hl
      have hat : a ∈ tPre tc := hsub a List.mem_cons_self
      have hka : K a = some (2, 0) := (hND a (List.mem_cons_of_mem _ hat)).1.1
      have hax : a ≠ x := fun e => hxt (e ▸ hat)
      have hmd := Nat.mod_lt c0.length hd1
      have hs : tSz L + tSz R + 1 ≤ 1000 := hs
      by_cases hq : ltA dt (c0.length % d) x a = true
      · rw [insG, if_pos hq] at hC1 hl
        rw [findG, if_pos hq] at hv
        have hl : lv_has ls 3 [(2, .ref a), (0, .ref T), (1, .ref x)] := hl
        obtain ⟨q1, q2, q3, q4, q5, q6, q7, q8⟩ := hC1
        have z1 := insG_sz (ltA dt) d x L (c0.length + 1)
        have z2 := insG_sz (ltA dt) d x R (c0.length + 1)
        refine lv_aload_n hx hb dX5_firstLeaningAbove_5 rfl (lv_at hl 0 rfl) ?_
        refine lv_ifnull hx hb dX5_firstLeaningAbove_6 ?_
        refine lv_aload_n hx hb dX5_firstLeaningAbove_9 rfl (lv_at hl 0 rfl) ?_
        refine lv_aload_n hx hb dX5_firstLeaningAbove_10 rfl (lv_at hl 2 rfl) ?_
        refine lv_acmp_eq (rx := (some a)) (ry := (some x)) (tgt := 32) hx hb dX5_firstLeaningAbove_11 (by decide) (fun c1 => ?_) (fun c1 => ?_)
        · exact absurd (Option.some.inj c1) hax
        · refine lv_aload_n hx hb dX5_firstLeaningAbove_14 rfl (lv_at hl 0 rfl) ?_
          refine g_cV (v := (some (.int (bI (leans (insG (ltA dt) d x (c0.length + 1) L) (R)))))) (As := []) (b := a) (rest := []) hx hb hml hown hts hN hP (c_leans l Γ K F a (tRt (insG (ltA dt) d x (c0.length + 1) L)) (tRt (R)) (tSz (insG (ltA dt) d x (c0.length + 1) L)) (tSz (R)) (tSz (insG (ltA dt) d x (c0.length + 1) L) + tSz (R) + 1) hka q5 q6 q3 tRt_none (fun b h => ⟨hall b (insG_sub1 (lt := ltA dt) (d := d) (dep := c0.length + 1) (tRt_mem h) ⟨hsub, hkx2⟩ (by first | exact Or.inl rfl | exact Or.inr rfl)), CT_root q7 h⟩) tRt_none (fun b h => ⟨hall b (insG_sub2 (lt := ltA dt) (d := d) (dep := c0.length + 1) (tRt_mem h) ⟨hsub, hkx2⟩ (by first | exact Or.inl rfl | exact Or.inr rfl)), CT_root q8 h⟩) (by omega) (by omega) (by omega)) gX5_firstLeaningAbove_X2_leans rfl hka (by decide) rfl (na := 0) rfl (by decide +kernel) ⟨by decide, by decide⟩ ⟨Nat.zero_le _, Nat.zero_le _⟩ rfl hl.1 (Nat.le_of_ble_eq_true rfl) dX5_firstLeaningAbove_15 ?_
          show W _ _ _ _ _ _ _ _ _ _ _ _ _ _ _ (F0 m 18 ls [.int (bI (leans (insG (ltA dt) d x (c0.length + 1) L) (R)))])
          refine lv_if_eq (tgt := 23) hx hb dX5_firstLeaningAbove_18 (by decide) (fun c2 => ?_) (fun c2 => ?_)
          · have c2 : (leans (insG (ltA dt) d x (c0.length + 1) L) (R)) = false := bI_0.mp c2
            refine lv_aload_n hx hb dX5_firstLeaningAbove_23 rfl (lv_at hl 0 rfl) ?_
            refine lv_aload_n hx hb dX5_firstLeaningAbove_24 rfl (lv_at hl 2 rfl) ?_
            refine g_cV (v := (some (va_rf (if pLess (c0.length % d) (dt x) (dt a) then tRt (insG (ltA dt) d x (c0.length + 1) L) else tRt (R))))) (As := [.ref x]) (b := a) (rest := []) hx hb hml hown hts hN hP (c_sideOf l Γ K F a x (pl a) (pl x) (dt a) (dt x) (c0.length % d) (tRt (insG (ltA dt) d x (c0.length + 1) L)) (tRt (R)) (hND a (List.mem_cons_of_mem _ hat)).1 (hND x List.mem_cons_self).1 (by omega) q2 q5 q6) gX5_firstLeaningAbove_X2_sideOf rfl hka (by decide) rfl (na := 1) rfl (by decide +kernel) ⟨by decide, by decide⟩ ⟨Nat.zero_le _, Nat.zero_le _⟩ rfl hl.1 (Nat.le_of_ble_eq_true rfl) dX5_firstLeaningAbove_25 ?_
            show W _ _ _ _ _ _ _ _ _ _ _ _ _ _ _ (F0 m 28 ls [va_rf (if pLess (c0.length % d) (dt x) (dt a) then tRt (insG (ltA dt) d x (c0.length + 1) L) else tRt (R))])
            refine g_astore_n (r := if pLess (c0.length % d) (dt x) (dt a) then tRt (insG (ltA dt) d x (c0.length + 1) L) else tRt (R)) (lv' := [(2, va_rf (if pLess (c0.length % d) (dt x) (dt a) then tRt (insG (ltA dt) d x (c0.length + 1) L) else tRt (R))), (0, .ref T), (1, .ref x)]) hx hb dX5_firstLeaningAbove_28 rfl hl (by decide) rfl (fun ls hl => ?_)
            refine lv_goto (tgt := 5) hx hb dX5_firstLeaningAbove_29 (by decide) ?_
            rw [show (if pLess (c0.length % d) (dt x) (dt a) then tRt (insG (ltA dt) d x (c0.length + 1) L) else tRt (R)) = tRt (insG (ltA dt) d x (c0.length + 1) L) from if_pos hq] at hl
            exact ihl ((true, a, R) :: c0) (some a) ls q7 (fun z hz => hsub z (List.mem_cons_of_mem _ (List.mem_append_left _ hz))) (by omega) (by rw [← hv, if_neg (by rw [c2]; decide)]) (lv_sub hl [0, 1, 2] rfl)
          · have c2 : (leans (insG (ltA dt) d x (c0.length + 1) L) (R)) = true := bI_n0.mp c2
            refine lv_aload_n hx hb dX5_firstLeaningAbove_21 rfl (lv_at hl 0 rfl) ?_
            exact hret (some (va_rf (some a))) _ _ (by rw [← hv, if_pos c2]; rfl) (rt_a dX5_firstLeaningAbove_22)
      · rw [insG, if_neg hq] at hC1 hl
        rw [findG, if_neg hq] at hv
        have hl : lv_has ls 3 [(2, .ref a), (0, .ref T), (1, .ref x)] := hl
        obtain ⟨q1, q2, q3, q4, q5, q6, q7, q8⟩ := hC1
        have z1 := insG_sz (ltA dt) d x L (c0.length + 1)
        have z2 := insG_sz (ltA dt) d x R (c0.length + 1)
        refine lv_aload_n hx hb dX5_firstLeaningAbove_5 rfl (lv_at hl 0 rfl) ?_
        refine lv_ifnull hx hb dX5_firstLeaningAbove_6 ?_
        refine lv_aload_n hx hb dX5_firstLeaningAbove_9 rfl (lv_at hl 0 rfl) ?_
        refine lv_aload_n hx hb dX5_firstLeaningAbove_10 rfl (lv_at hl 2 rfl) ?_
        refine lv_acmp_eq (rx := (some a)) (ry := (some x)) (tgt := 32) hx hb dX5_firstLeaningAbove_11 (by decide) (fun c1 => ?_) (fun c1 => ?_)
        · exact absurd (Option.some.inj c1) hax
        · refine lv_aload_n hx hb dX5_firstLeaningAbove_14 rfl (lv_at hl 0 rfl) ?_
          refine g_cV (v := (some (.int (bI (leans (L) (insG (ltA dt) d x (c0.length + 1) R)))))) (As := []) (b := a) (rest := []) hx hb hml hown hts hN hP (c_leans l Γ K F a (tRt (L)) (tRt (insG (ltA dt) d x (c0.length + 1) R)) (tSz (L)) (tSz (insG (ltA dt) d x (c0.length + 1) R)) (tSz (L) + tSz (insG (ltA dt) d x (c0.length + 1) R) + 1) hka q5 q6 q3 tRt_none (fun b h => ⟨hall b (insG_sub1 (lt := ltA dt) (d := d) (dep := c0.length + 1) (tRt_mem h) ⟨hsub, hkx2⟩ (by first | exact Or.inl rfl | exact Or.inr rfl)), CT_root q7 h⟩) tRt_none (fun b h => ⟨hall b (insG_sub2 (lt := ltA dt) (d := d) (dep := c0.length + 1) (tRt_mem h) ⟨hsub, hkx2⟩ (by first | exact Or.inl rfl | exact Or.inr rfl)), CT_root q8 h⟩) (by omega) (by omega) (by omega)) gX5_firstLeaningAbove_X2_leans rfl hka (by decide) rfl (na := 0) rfl (by decide +kernel) ⟨by decide, by decide⟩ ⟨Nat.zero_le _, Nat.zero_le _⟩ rfl hl.1 (Nat.le_of_ble_eq_true rfl) dX5_firstLeaningAbove_15 ?_
          show W _ _ _ _ _ _ _ _ _ _ _ _ _ _ _ (F0 m 18 ls [.int (bI (leans (L) (insG (ltA dt) d x (c0.length + 1) R)))])
          refine lv_if_eq (tgt := 23) hx hb dX5_firstLeaningAbove_18 (by decide) (fun c2 => ?_) (fun c2 => ?_)
          · have c2 : (leans (L) (insG (ltA dt) d x (c0.length + 1) R)) = false := bI_0.mp c2
            refine lv_aload_n hx hb dX5_firstLeaningAbove_23 rfl (lv_at hl 0 rfl) ?_
            refine lv_aload_n hx hb dX5_firstLeaningAbove_24 rfl (lv_at hl 2 rfl) ?_
            refine g_cV (v := (some (va_rf (if pLess (c0.length % d) (dt x) (dt a) then tRt (L) else tRt (insG (ltA dt) d x (c0.length + 1) R))))) (As := [.ref x]) (b := a) (rest := []) hx hb hml hown hts hN hP (c_sideOf l Γ K F a x (pl a) (pl x) (dt a) (dt x) (c0.length % d) (tRt (L)) (tRt (insG (ltA dt) d x (c0.length + 1) R)) (hND a (List.mem_cons_of_mem _ hat)).1 (hND x List.mem_cons_self).1 (by omega) q2 q5 q6) gX5_firstLeaningAbove_X2_sideOf rfl hka (by decide) rfl (na := 1) rfl (by decide +kernel) ⟨by decide, by decide⟩ ⟨Nat.zero_le _, Nat.zero_le _⟩ rfl hl.1 (Nat.le_of_ble_eq_true rfl) dX5_firstLeaningAbove_25 ?_
            show W _ _ _ _ _ _ _ _ _ _ _ _ _ _ _ (F0 m 28 ls [va_rf (if pLess (c0.length % d) (dt x) (dt a) then tRt (L) else tRt (insG (ltA dt) d x (c0.length + 1) R))])
            refine g_astore_n (r := if pLess (c0.length % d) (dt x) (dt a) then tRt (L) else tRt (insG (ltA dt) d x (c0.length + 1) R)) (lv' := [(2, va_rf (if pLess (c0.length % d) (dt x) (dt a) then tRt (L) else tRt (insG (ltA dt) d x (c0.length + 1) R))), (0, .ref T), (1, .ref x)]) hx hb dX5_firstLeaningAbove_28 rfl hl (by decide) rfl (fun ls hl => ?_)
            refine lv_goto (tgt := 5) hx hb dX5_firstLeaningAbove_29 (by decide) ?_
            rw [show (if pLess (c0.length % d) (dt x) (dt a) then tRt (L) else tRt (insG (ltA dt) d x (c0.length + 1) R)) = tRt (insG (ltA dt) d x (c0.length + 1) R) from if_neg hq] at hl
            exact ihr ((false, a, L) :: c0) (some a) ls q8 (fun z hz => hsub z (List.mem_cons_of_mem _ (List.mem_append_right _ hz))) (by omega) (by rw [← hv, if_neg (by rw [c2]; decide)]) (lv_sub hl [0, 1, 2] rfl)
          · have c2 : (leans (L) (insG (ltA dt) d x (c0.length + 1) R)) = true := bI_n0.mp c2
            refine lv_aload_n hx hb dX5_firstLeaningAbove_21 rfl (lv_at hl 0 rfl) ?_
            exact hret (some (va_rf (some a))) _ _ (by rw [← hv, if_pos c2]; rfl) (rt_a dX5_firstLeaningAbove_22)
  refine lv_aload_n hx hb dX5_firstLeaningAbove_0 rfl (lv_at hl 0 rfl) ?_
  refine g_get (C := RX5) (T := TX5) (N := 4) hx hb hts hi5 hown hN hP hk rfl (by decide) 2 (by decide) hfX5_21 (v := va_rf (tRt (insG (ltA dt) d x 0 tc))) h2 dX5_firstLeaningAbove_1 ?_
  refine g_astore_n (r := tRt (insG (ltA dt) d x 0 tc)) (lv' := [(2, va_rf (tRt (insG (ltA dt) d x 0 tc))), (0, .ref T), (1, .ref x)]) hx hb dX5_firstLeaningAbove_4 rfl hl (by decide) rfl (fun ls hl => ?_)
  exact loop tc [] none ls hC (fun _ h => h) hs hv9 (lv_sub hl [0, 1, 2] rfl)
