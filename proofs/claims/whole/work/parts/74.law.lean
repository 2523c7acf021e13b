/-- what a method of the law leaves: 0 and the class's answer in the row of one, or what was thrown -/
def wP (Kx : gK) (F : gF) (o : Nat) (E1 : String) (px : String → Prop) (good : gK → gF → Int64 → Prop) : Option Value → gK → gF → Prop := fun v K' F' => ∃ k Kx', v = some (.int (nI k)) ∧ K' = va_up Kx' o (some (9, 1)) ∧ Kx' o = none ∧ ((k = 0 ∧ ∃ r F1, good Kx' F1 r ∧ (∀ a q i, Kx' a = some q → F' a i = F1 a i) ∧ F' o 0 = .long r) ∨ (k = 1 ∧ px E1 ∧ Kx' = Kx ∧ ∀ a q i, Kx a = some q → F' a i = F a i) ∨ (k = 2 ∧ px nISE ∧ Kx' = Kx ∧ ∀ a q i, Kx a = some q → F' a i = F a i))

set_option maxHeartbeats 4000000 in
set_option maxRecDepth 100000 in
theorem l_put (l : Launch) (Γ : gG) (Kx : gK) (F : gF) (sz : Nat) (x o : Nat) (kx : Kx x = some (6, 0)) (ho : Kx o = none) (d9 : Int32) (xx : Int32) (yy : Int32) (zz : Int32) (ww : Int32) (post : Option Value → gK → gF → Prop) (px : String → Prop) (good : gK → gF → Int64 → Prop) (hM : gMX l yX6_put wsX6_put 75 2 13 Γ Kx F sz [.ref x, .int d9, .int xx, .int yy, .int zz, .int ww] post px) (hpost : ∀ v K' F', post v K' F' → ∃ r, v = some (.int r) ∧ good K' F' r.toInt64) (hpx : ∀ E, px E → E = nIAE ∨ E = nISE) : gML l yL_put wsL_put 76 2 13 Γ (va_up Kx o (some (9, 1))) F sz [.ref x, .int d9, .int xx, .int yy, .int zz, .int ww, .ref o] (wP Kx F o nIAE px good) := by
  refine g_mL (cc := cL_put) (maxL := 8) (ret := some .int) (hh := [(0, 16, 19, 13), (0, 16, 23, 15)]) (by decide) rfl (Nat.le_of_ble_eq_true rfl) ?_
  intro p e s m args below meth c ls Z hsz hx hb hts hown hml hTab hN hTH hNc hW hret hl
  have hl : lv_has ls 8 [(0, .ref x), (1, .int d9), (2, .int xx), (3, .int yy), (4, .int zz), (5, .int ww), (6, .ref o)] := hl
  have hown : s.vm.findClass RL = some m.cls := hown
  have hsub : ∀ a k, Kx a = some k → va_up Kx o (some (9, 1)) a = some k := fun a k h => by rw [va_up_ne _ _ (fun e => by rw [e, ho] at h; cases h)]; exact h
  have hoL : o < s.heap.size := (hW.1 o (9, 1) (va_up_self _ _ _)).lt
  have hTHx : gTH (gA Kx s.heap.size) s s.heap := gTH.narrow (fun q hq => by
    rw [hsz] at hq
    rcases hq with ⟨k, hk⟩ | hq
    · exact Or.inl ⟨k, hsub q k hk⟩
    · exact Or.inr hq) hTH
  refine lv_aload hx hb dL_put_0 (lv_at hl 6 rfl) ?_
  refine lv_iconst (v := nI 0) hx hb dL_put_2 (by decide) ?_
  refine lv_aload_n hx hb dL_put_3 rfl (lv_at hl 0 rfl) ?_
  refine lv_iload_n hx hb dL_put_4 rfl (lv_at hl 1 rfl) ?_
  refine lv_iload_n hx hb dL_put_5 rfl (lv_at hl 2 rfl) ?_
  refine lv_iload_n hx hb dL_put_6 rfl (lv_at hl 3 rfl) ?_
  refine lv_iload hx hb dL_put_7 (lv_at hl 4 rfl) ?_
  refine lv_iload hx hb dL_put_9 (lv_at hl 5 rfl) ?_
  refine g_xV (K1 := Kx) (As := [.int d9, .int xx, .int yy, .int zz, .int ww]) (b := x) (rest := [.int (nI 0), .ref o]) hx hb hml hown hts hN hW hsub hTHx (by rw [hsz]; exact hM) gL_put_X6_put rfl kx (by decide) rfl (na := 5) rfl (by decide +kernel) ⟨by decide, by decide⟩ ⟨Nat.le_of_ble_eq_true rfl, Nat.le_of_ble_eq_true rfl⟩ rfl hl.1 (Nat.le_of_ble_eq_true rfl) dL_put_11 (fun E ce q9 H locs hp hW hsz1 hce hcv hcl => ?_) (fun v K' F' H locs hp hA' hW hsz1 => ?_)
  · rcases hpx E hp with rfl | rfl
    · refine vx_catch (own := RL) (name := nIAE) hown [] ⟨0, 16, 19, 13⟩ [⟨0, 16, 23, 15⟩] (hTab.trans rfl) (fun z hz => by cases hz) (by decide) (by decide) (hts _ (show Cond.classLink RL 13 nIAE ∈ wsL_put by decide +kernel)) (va_Nw.use rfl (hTH.2.2.1 (.castable nIAE nIAE) (by decide))) hce hcv hcl ?_
      refine lv_astore (lv' := [(7, .ref q9), (0, .ref x), (1, .int d9), (2, .int xx), (3, .int yy), (4, .int zz), (5, .int ww), (6, .ref o)]) hx hb dL_put_19 hl (by decide) rfl (fun ls hl => ?_)
      refine lv_iconst (v := nI 1) hx hb dL_put_21 (by decide) ?_
      exact hret (some (.int (nI 1))) _ _ _ _ _ _ _ _ (Nat.le_of_ble_eq_true rfl) (Nat.le_of_ble_eq_true rfl) hW ⟨1, Kx, rfl, rfl, ho, Or.inr (Or.inl ⟨rfl, hp, rfl, fun _ _ _ _ => rfl⟩)⟩ (rt_i dL_put_22)
    · refine vx_catch (own := RL) (name := nISE) hown [⟨0, 16, 19, 13⟩] ⟨0, 16, 23, 15⟩ [] (hTab.trans rfl) (fun z hz => by rw [List.mem_singleton.mp hz]; exact Or.inr ⟨by decide, nIAE, hts _ (show Cond.classLink RL 13 nIAE ∈ wsL_put by decide +kernel), hNc⟩) (by decide) (by decide) (hts _ (show Cond.classLink RL 15 nISE ∈ wsL_put by decide +kernel)) (va_Nw.use rfl (hTH.2.2.1 (.castable nISE nISE) (by decide))) hce hcv hcl ?_
      refine lv_astore (lv' := [(7, .ref q9), (0, .ref x), (1, .int d9), (2, .int xx), (3, .int yy), (4, .int zz), (5, .int ww), (6, .ref o)]) hx hb dL_put_23 hl (by decide) rfl (fun ls hl => ?_)
      refine lv_iconst (v := nI 2) hx hb dL_put_25 (by decide) ?_
      exact hret (some (.int (nI 2))) _ _ _ _ _ _ _ _ (Nat.le_of_ble_eq_true rfl) (Nat.le_of_ble_eq_true rfl) hW ⟨2, Kx, rfl, rfl, ho, Or.inr (Or.inr ⟨rfl, hp, rfl, fun _ _ _ _ => rfl⟩)⟩ (rt_i dL_put_26)
  · obtain ⟨r, hr, hg⟩ := hpost v K' F' hp
    subst hr
    have hKo : K' o = none := by
      cases h : K' o with
      | none => rfl
      | some q =>
        rcases hA' o q h with ⟨z, hz⟩ | hz
        · rw [ho] at hz; cases hz
        · exact absurd hz (by omega)
    have kO : kMg (va_up Kx o (some (9, 1))) Kx K' o = some (9, 1) := (kMg_old hKo ho).trans (va_up_self _ _ _)
    show W _ _ _ _ _ _ _ _ _ _ _ _ _ _ _ (F0 m 14 ls [.int r, .int (nI 0), .ref o])
    refine lv_i2l (v := r.toInt64) hx hb dL_put_14 rfl ?_
    refine g_last (j := 0) hx hb hN hW kO (by decide) (show _ = nI 0 from rfl) (by decide) dL_put_15 (fun H locs hW => ?_)
    refine lv_goto (tgt := 27) hx hb dL_put_16 (by decide) ?_
    refine lv_iconst (v := nI 0) hx hb dL_put_27 (by decide) ?_
    have hWs := hW.sub (K' := va_up K' o (some (9, 1))) (fun a q ha => by
      by_cases e : a = o
      · rw [e] at ha ⊢; rw [va_up_self] at ha; rw [← ha]; exact kO
      · rw [va_up_ne _ _ e] at ha; exact kMg_new ha)
    exact hret (some (.int (nI 0))) _ _ _ _ _ _ _ _ (Nat.le_of_ble_eq_true rfl) (Nat.le_of_ble_eq_true rfl) hWs ⟨0, K', rfl, rfl, hKo, Or.inl ⟨rfl, r.toInt64, F', hg, fun a q i ha => (gU_a (fun e => by rw [e, hKo] at ha; cases ha)).trans (fMg_new ha), gU_self⟩⟩ (rt_i dL_put_28)

set_option maxHeartbeats 4000000 in
set_option maxRecDepth 100000 in
theorem l_drop (l : Launch) (Γ : gG) (Kx : gK) (F : gF) (sz : Nat) (x o : Nat) (kx : Kx x = some (6, 0)) (ho : Kx o = none) (d9 : Int32) (post : Option Value → gK → gF → Prop) (px : String → Prop) (good : gK → gF → Int64 → Prop) (hM : gMX l yX6_drop wsX6_drop 75 1 6 Γ Kx F sz [.ref x, .int d9] post px) (hpost : ∀ v K' F', post v K' F' → ∃ r, v = some (.int r) ∧ good K' F' r.toInt64) (hpx : ∀ E, px E → E = nIAE ∨ E = nISE) : gML l yL_drop wsL_drop 76 1 6 Γ (va_up Kx o (some (9, 1))) F sz [.ref x, .int d9, .ref o] (wP Kx F o nIAE px good) := by
  refine g_mL (cc := cL_drop) (maxL := 4) (ret := some .int) (hh := [(0, 9, 12, 13), (0, 9, 15, 15)]) (by decide) rfl (Nat.le_of_ble_eq_true rfl) ?_
  intro p e s m args below meth c ls Z hsz hx hb hts hown hml hTab hN hTH hNc hW hret hl
  have hl : lv_has ls 4 [(0, .ref x), (1, .int d9), (2, .ref o)] := hl
  have hown : s.vm.findClass RL = some m.cls := hown
  have hsub : ∀ a k, Kx a = some k → va_up Kx o (some (9, 1)) a = some k := fun a k h => by rw [va_up_ne _ _ (fun e => by rw [e, ho] at h; cases h)]; exact h
  have hoL : o < s.heap.size := (hW.1 o (9, 1) (va_up_self _ _ _)).lt
  have hTHx : gTH (gA Kx s.heap.size) s s.heap := gTH.narrow (fun q hq => by
    rw [hsz] at hq
    rcases hq with ⟨k, hk⟩ | hq
    · exact Or.inl ⟨k, hsub q k hk⟩
    · exact Or.inr hq) hTH
  refine lv_aload_n hx hb dL_drop_0 rfl (lv_at hl 2 rfl) ?_
  refine lv_iconst (v := nI 0) hx hb dL_drop_1 (by decide) ?_
  refine lv_aload_n hx hb dL_drop_2 rfl (lv_at hl 0 rfl) ?_
  refine lv_iload_n hx hb dL_drop_3 rfl (lv_at hl 1 rfl) ?_
  refine g_xV (K1 := Kx) (As := [.int d9]) (b := x) (rest := [.int (nI 0), .ref o]) hx hb hml hown hts hN hW hsub hTHx (by rw [hsz]; exact hM) gL_drop_X6_drop rfl kx (by decide) rfl (na := 1) rfl (by decide +kernel) ⟨by decide, by decide⟩ ⟨Nat.le_of_ble_eq_true rfl, Nat.le_of_ble_eq_true rfl⟩ rfl hl.1 (Nat.le_of_ble_eq_true rfl) dL_drop_4 (fun E ce q9 H locs hp hW hsz1 hce hcv hcl => ?_) (fun v K' F' H locs hp hA' hW hsz1 => ?_)
  · rcases hpx E hp with rfl | rfl
    · refine vx_catch (own := RL) (name := nIAE) hown [] ⟨0, 9, 12, 13⟩ [⟨0, 9, 15, 15⟩] (hTab.trans rfl) (fun z hz => by cases hz) (by decide) (by decide) (hts _ (show Cond.classLink RL 13 nIAE ∈ wsL_drop by decide +kernel)) (va_Nw.use rfl (hTH.2.2.1 (.castable nIAE nIAE) (by decide))) hce hcv hcl ?_
      refine lv_astore_n (lv' := [(3, .ref q9), (0, .ref x), (1, .int d9), (2, .ref o)]) hx hb dL_drop_12 rfl hl (by decide) rfl (fun ls hl => ?_)
      refine lv_iconst (v := nI 1) hx hb dL_drop_13 (by decide) ?_
      exact hret (some (.int (nI 1))) _ _ _ _ _ _ _ _ (Nat.le_of_ble_eq_true rfl) (Nat.le_of_ble_eq_true rfl) hW ⟨1, Kx, rfl, rfl, ho, Or.inr (Or.inl ⟨rfl, hp, rfl, fun _ _ _ _ => rfl⟩)⟩ (rt_i dL_drop_14)
    · refine vx_catch (own := RL) (name := nISE) hown [⟨0, 9, 12, 13⟩] ⟨0, 9, 15, 15⟩ [] (hTab.trans rfl) (fun z hz => by rw [List.mem_singleton.mp hz]; exact Or.inr ⟨by decide, nIAE, hts _ (show Cond.classLink RL 13 nIAE ∈ wsL_drop by decide +kernel), hNc⟩) (by decide) (by decide) (hts _ (show Cond.classLink RL 15 nISE ∈ wsL_drop by decide +kernel)) (va_Nw.use rfl (hTH.2.2.1 (.castable nISE nISE) (by decide))) hce hcv hcl ?_
      refine lv_astore_n (lv' := [(3, .ref q9), (0, .ref x), (1, .int d9), (2, .ref o)]) hx hb dL_drop_15 rfl hl (by decide) rfl (fun ls hl => ?_)
      refine lv_iconst (v := nI 2) hx hb dL_drop_16 (by decide) ?_
      exact hret (some (.int (nI 2))) _ _ _ _ _ _ _ _ (Nat.le_of_ble_eq_true rfl) (Nat.le_of_ble_eq_true rfl) hW ⟨2, Kx, rfl, rfl, ho, Or.inr (Or.inr ⟨rfl, hp, rfl, fun _ _ _ _ => rfl⟩)⟩ (rt_i dL_drop_17)
  · obtain ⟨r, hr, hg⟩ := hpost v K' F' hp
    subst hr
    have hKo : K' o = none := by
      cases h : K' o with
      | none => rfl
      | some q =>
        rcases hA' o q h with ⟨z, hz⟩ | hz
        · rw [ho] at hz; cases hz
        · exact absurd hz (by omega)
    have kO : kMg (va_up Kx o (some (9, 1))) Kx K' o = some (9, 1) := (kMg_old hKo ho).trans (va_up_self _ _ _)
    show W _ _ _ _ _ _ _ _ _ _ _ _ _ _ _ (F0 m 7 ls [.int r, .int (nI 0), .ref o])
    refine lv_i2l (v := r.toInt64) hx hb dL_drop_7 rfl ?_
    refine g_last (j := 0) hx hb hN hW kO (by decide) (show _ = nI 0 from rfl) (by decide) dL_drop_8 (fun H locs hW => ?_)
    refine lv_goto (tgt := 18) hx hb dL_drop_9 (by decide) ?_
    refine lv_iconst (v := nI 0) hx hb dL_drop_18 (by decide) ?_
    have hWs := hW.sub (K' := va_up K' o (some (9, 1))) (fun a q ha => by
      by_cases e : a = o
      · rw [e] at ha ⊢; rw [va_up_self] at ha; rw [← ha]; exact kO
      · rw [va_up_ne _ _ e] at ha; exact kMg_new ha)
    exact hret (some (.int (nI 0))) _ _ _ _ _ _ _ _ (Nat.le_of_ble_eq_true rfl) (Nat.le_of_ble_eq_true rfl) hWs ⟨0, K', rfl, rfl, hKo, Or.inl ⟨rfl, r.toInt64, F', hg, fun a q i ha => (gU_a (fun e => by rw [e, hKo] at ha; cases ha)).trans (fMg_new ha), gU_self⟩⟩ (rt_i dL_drop_19)

set_option maxHeartbeats 4000000 in
set_option maxRecDepth 100000 in
theorem l_at (l : Launch) (Γ : gG) (Kx : gK) (F : gF) (sz : Nat) (x o : Nat) (kx : Kx x = some (6, 0)) (ho : Kx o = none) (d9 : Int32) (ax : Int32) (post : Option Value → gK → gF → Prop) (px : String → Prop) (good : gK → gF → Int64 → Prop) (hM : gMX l yX6_at wsX6_at 8 1 6 Γ Kx F sz [.ref x, .int d9, .int ax] post px) (hpost : ∀ v K' F', post v K' F' → ∃ r, v = some (.int r) ∧ good K' F' r.toInt64) (hpx : ∀ E, px E → E = nIAE ∨ E = nISE) : gML l yL_at wsL_at 9 1 6 Γ (va_up Kx o (some (9, 1))) F sz [.ref x, .int d9, .int ax, .ref o] (wP Kx F o nIAE px good) := by
  refine g_mL (cc := cL_at) (maxL := 5) (ret := some .int) (hh := [(0, 10, 13, 13), (0, 10, 17, 15)]) (by decide) rfl (Nat.le_of_ble_eq_true rfl) ?_
  intro p e s m args below meth c ls Z hsz hx hb hts hown hml hTab hN hTH hNc hW hret hl
  have hl : lv_has ls 5 [(0, .ref x), (1, .int d9), (2, .int ax), (3, .ref o)] := hl
  have hown : s.vm.findClass RL = some m.cls := hown
  have hsub : ∀ a k, Kx a = some k → va_up Kx o (some (9, 1)) a = some k := fun a k h => by rw [va_up_ne _ _ (fun e => by rw [e, ho] at h; cases h)]; exact h
  have hoL : o < s.heap.size := (hW.1 o (9, 1) (va_up_self _ _ _)).lt
  have hTHx : gTH (gA Kx s.heap.size) s s.heap := gTH.narrow (fun q hq => by
    rw [hsz] at hq
    rcases hq with ⟨k, hk⟩ | hq
    · exact Or.inl ⟨k, hsub q k hk⟩
    · exact Or.inr hq) hTH
  refine lv_aload_n hx hb dL_at_0 rfl (lv_at hl 3 rfl) ?_
  refine lv_iconst (v := nI 0) hx hb dL_at_1 (by decide) ?_
  refine lv_aload_n hx hb dL_at_2 rfl (lv_at hl 0 rfl) ?_
  refine lv_iload_n hx hb dL_at_3 rfl (lv_at hl 1 rfl) ?_
  refine lv_iload_n hx hb dL_at_4 rfl (lv_at hl 2 rfl) ?_
  refine g_xV (K1 := Kx) (As := [.int d9, .int ax]) (b := x) (rest := [.int (nI 0), .ref o]) hx hb hml hown hts hN hW hsub hTHx (by rw [hsz]; exact hM) gL_at_X6_at rfl kx (by decide) rfl (na := 2) rfl (by decide +kernel) ⟨by decide, by decide⟩ ⟨Nat.le_of_ble_eq_true rfl, Nat.le_of_ble_eq_true rfl⟩ rfl hl.1 (Nat.le_of_ble_eq_true rfl) dL_at_5 (fun E ce q9 H locs hp hW hsz1 hce hcv hcl => ?_) (fun v K' F' H locs hp hA' hW hsz1 => ?_)
  · rcases hpx E hp with rfl | rfl
    · refine vx_catch (own := RL) (name := nIAE) hown [] ⟨0, 10, 13, 13⟩ [⟨0, 10, 17, 15⟩] (hTab.trans rfl) (fun z hz => by cases hz) (by decide) (by decide) (hts _ (show Cond.classLink RL 13 nIAE ∈ wsL_at by decide +kernel)) (va_Nw.use rfl (hTH.2.2.1 (.castable nIAE nIAE) (by decide))) hce hcv hcl ?_
      refine lv_astore (lv' := [(4, .ref q9), (0, .ref x), (1, .int d9), (2, .int ax), (3, .ref o)]) hx hb dL_at_13 hl (by decide) rfl (fun ls hl => ?_)
      refine lv_iconst (v := nI 1) hx hb dL_at_15 (by decide) ?_
      exact hret (some (.int (nI 1))) _ _ _ _ _ _ _ _ (Nat.le_of_ble_eq_true rfl) (Nat.le_of_ble_eq_true rfl) hW ⟨1, Kx, rfl, rfl, ho, Or.inr (Or.inl ⟨rfl, hp, rfl, fun _ _ _ _ => rfl⟩)⟩ (rt_i dL_at_16)
    · refine vx_catch (own := RL) (name := nISE) hown [⟨0, 10, 13, 13⟩] ⟨0, 10, 17, 15⟩ [] (hTab.trans rfl) (fun z hz => by rw [List.mem_singleton.mp hz]; exact Or.inr ⟨by decide, nIAE, hts _ (show Cond.classLink RL 13 nIAE ∈ wsL_at by decide +kernel), hNc⟩) (by decide) (by decide) (hts _ (show Cond.classLink RL 15 nISE ∈ wsL_at by decide +kernel)) (va_Nw.use rfl (hTH.2.2.1 (.castable nISE nISE) (by decide))) hce hcv hcl ?_
      refine lv_astore (lv' := [(4, .ref q9), (0, .ref x), (1, .int d9), (2, .int ax), (3, .ref o)]) hx hb dL_at_17 hl (by decide) rfl (fun ls hl => ?_)
      refine lv_iconst (v := nI 2) hx hb dL_at_19 (by decide) ?_
      exact hret (some (.int (nI 2))) _ _ _ _ _ _ _ _ (Nat.le_of_ble_eq_true rfl) (Nat.le_of_ble_eq_true rfl) hW ⟨2, Kx, rfl, rfl, ho, Or.inr (Or.inr ⟨rfl, hp, rfl, fun _ _ _ _ => rfl⟩)⟩ (rt_i dL_at_20)
  · obtain ⟨r, hr, hg⟩ := hpost v K' F' hp
    subst hr
    have hKo : K' o = none := by
      cases h : K' o with
      | none => rfl
      | some q =>
        rcases hA' o q h with ⟨z, hz⟩ | hz
        · rw [ho] at hz; cases hz
        · exact absurd hz (by omega)
    have kO : kMg (va_up Kx o (some (9, 1))) Kx K' o = some (9, 1) := (kMg_old hKo ho).trans (va_up_self _ _ _)
    show W _ _ _ _ _ _ _ _ _ _ _ _ _ _ _ (F0 m 8 ls [.int r, .int (nI 0), .ref o])
    refine lv_i2l (v := r.toInt64) hx hb dL_at_8 rfl ?_
    refine g_last (j := 0) hx hb hN hW kO (by decide) (show _ = nI 0 from rfl) (by decide) dL_at_9 (fun H locs hW => ?_)
    refine lv_goto (tgt := 21) hx hb dL_at_10 (by decide) ?_
    refine lv_iconst (v := nI 0) hx hb dL_at_21 (by decide) ?_
    have hWs := hW.sub (K' := va_up K' o (some (9, 1))) (fun a q ha => by
      by_cases e : a = o
      · rw [e] at ha ⊢; rw [va_up_self] at ha; rw [← ha]; exact kO
      · rw [va_up_ne _ _ e] at ha; exact kMg_new ha)
    exact hret (some (.int (nI 0))) _ _ _ _ _ _ _ _ (Nat.le_of_ble_eq_true rfl) (Nat.le_of_ble_eq_true rfl) hWs ⟨0, K', rfl, rfl, hKo, Or.inl ⟨rfl, r.toInt64, F', hg, fun a q i ha => (gU_a (fun e => by rw [e, hKo] at ha; cases ha)).trans (fMg_new ha), gU_self⟩⟩ (rt_i dL_at_22)

set_option maxHeartbeats 4000000 in
set_option maxRecDepth 100000 in
theorem l_nearest (l : Launch) (Γ : gG) (Kx : gK) (F : gF) (sz : Nat) (x o : Nat) (kx : Kx x = some (6, 0)) (ho : Kx o = none) (k9 : Int32) (xx : Int32) (yy : Int32) (zz : Int32) (ww : Int32) (post : Option Value → gK → gF → Prop) (px : String → Prop) (good : gK → gF → Int64 → Prop) (hM : gMX l yX6_nearest wsX6_nearest 130 2 7 Γ Kx F sz [.ref x, .int k9, .int xx, .int yy, .int zz, .int ww] post px) (hpost : ∀ v K' F', post v K' F' → ∃ r, v = some (.int r) ∧ good K' F' r.toInt64) (hpx : ∀ E, px E → E = nIAE) : gML l yL_nearest wsL_nearest 131 2 7 Γ (va_up Kx o (some (9, 1))) F sz [.ref x, .int k9, .int xx, .int yy, .int zz, .int ww, .ref o] (wP Kx F o nIAE px good) := by
  refine g_mL (cc := cL_nearest) (maxL := 8) (ret := some .int) (hh := [(0, 16, 19, 13)]) (by decide) rfl (Nat.le_of_ble_eq_true rfl) ?_
  intro p e s m args below meth c ls Z hsz hx hb hts hown hml hTab hN hTH hNc hW hret hl
  have hl : lv_has ls 8 [(0, .ref x), (1, .int k9), (2, .int xx), (3, .int yy), (4, .int zz), (5, .int ww), (6, .ref o)] := hl
  have hown : s.vm.findClass RL = some m.cls := hown
  have hsub : ∀ a k, Kx a = some k → va_up Kx o (some (9, 1)) a = some k := fun a k h => by rw [va_up_ne _ _ (fun e => by rw [e, ho] at h; cases h)]; exact h
  have hoL : o < s.heap.size := (hW.1 o (9, 1) (va_up_self _ _ _)).lt
  have hTHx : gTH (gA Kx s.heap.size) s s.heap := gTH.narrow (fun q hq => by
    rw [hsz] at hq
    rcases hq with ⟨k, hk⟩ | hq
    · exact Or.inl ⟨k, hsub q k hk⟩
    · exact Or.inr hq) hTH
  refine lv_aload hx hb dL_nearest_0 (lv_at hl 6 rfl) ?_
  refine lv_iconst (v := nI 0) hx hb dL_nearest_2 (by decide) ?_
  refine lv_aload_n hx hb dL_nearest_3 rfl (lv_at hl 0 rfl) ?_
  refine lv_iload_n hx hb dL_nearest_4 rfl (lv_at hl 1 rfl) ?_
  refine lv_iload_n hx hb dL_nearest_5 rfl (lv_at hl 2 rfl) ?_
  refine lv_iload_n hx hb dL_nearest_6 rfl (lv_at hl 3 rfl) ?_
  refine lv_iload hx hb dL_nearest_7 (lv_at hl 4 rfl) ?_
  refine lv_iload hx hb dL_nearest_9 (lv_at hl 5 rfl) ?_
  refine g_xV (K1 := Kx) (As := [.int k9, .int xx, .int yy, .int zz, .int ww]) (b := x) (rest := [.int (nI 0), .ref o]) hx hb hml hown hts hN hW hsub hTHx (by rw [hsz]; exact hM) gL_nearest_X6_nearest rfl kx (by decide) rfl (na := 5) rfl (by decide +kernel) ⟨by decide, by decide⟩ ⟨Nat.le_of_ble_eq_true rfl, Nat.le_of_ble_eq_true rfl⟩ rfl hl.1 (Nat.le_of_ble_eq_true rfl) dL_nearest_11 (fun E ce q9 H locs hp hW hsz1 hce hcv hcl => ?_) (fun v K' F' H locs hp hA' hW hsz1 => ?_)
  · obtain rfl := hpx E hp
    refine vx_catch (own := RL) (name := nIAE) hown [] ⟨0, 16, 19, 13⟩ [] (hTab.trans rfl) (fun z hz => by cases hz) (by decide) (by decide) (hts _ (show Cond.classLink RL 13 nIAE ∈ wsL_nearest by decide +kernel)) (va_Nw.use rfl (hTH.2.2.1 (.castable nIAE nIAE) (by decide))) hce hcv hcl ?_
    refine lv_astore (lv' := [(7, .ref q9), (0, .ref x), (1, .int k9), (2, .int xx), (3, .int yy), (4, .int zz), (5, .int ww), (6, .ref o)]) hx hb dL_nearest_19 hl (by decide) rfl (fun ls hl => ?_)
    refine lv_iconst (v := nI 1) hx hb dL_nearest_21 (by decide) ?_
    exact hret (some (.int (nI 1))) _ _ _ _ _ _ _ _ (Nat.le_of_ble_eq_true rfl) (Nat.le_of_ble_eq_true rfl) hW ⟨1, Kx, rfl, rfl, ho, Or.inr (Or.inl ⟨rfl, hp, rfl, fun _ _ _ _ => rfl⟩)⟩ (rt_i dL_nearest_22)
  · obtain ⟨r, hr, hg⟩ := hpost v K' F' hp
    subst hr
    have hKo : K' o = none := by
      cases h : K' o with
      | none => rfl
      | some q =>
        rcases hA' o q h with ⟨z, hz⟩ | hz
        · rw [ho] at hz; cases hz
        · exact absurd hz (by omega)
    have kO : kMg (va_up Kx o (some (9, 1))) Kx K' o = some (9, 1) := (kMg_old hKo ho).trans (va_up_self _ _ _)
    show W _ _ _ _ _ _ _ _ _ _ _ _ _ _ _ (F0 m 14 ls [.int r, .int (nI 0), .ref o])
    refine lv_i2l (v := r.toInt64) hx hb dL_nearest_14 rfl ?_
    refine g_last (j := 0) hx hb hN hW kO (by decide) (show _ = nI 0 from rfl) (by decide) dL_nearest_15 (fun H locs hW => ?_)
    refine lv_goto (tgt := 23) hx hb dL_nearest_16 (by decide) ?_
    refine lv_iconst (v := nI 0) hx hb dL_nearest_23 (by decide) ?_
    have hWs := hW.sub (K' := va_up K' o (some (9, 1))) (fun a q ha => by
      by_cases e : a = o
      · rw [e] at ha ⊢; rw [va_up_self] at ha; rw [← ha]; exact kO
      · rw [va_up_ne _ _ e] at ha; exact kMg_new ha)
    exact hret (some (.int (nI 0))) _ _ _ _ _ _ _ _ (Nat.le_of_ble_eq_true rfl) (Nat.le_of_ble_eq_true rfl) hWs ⟨0, K', rfl, rfl, hKo, Or.inl ⟨rfl, r.toInt64, F', hg, fun a q i ha => (gU_a (fun e => by rw [e, hKo] at ha; cases ha)).trans (fMg_new ha), gU_self⟩⟩ (rt_i dL_nearest_24)

set_option maxHeartbeats 4000000 in
set_option maxRecDepth 100000 in
theorem l_within (l : Launch) (Γ : gG) (Kx : gK) (F : gF) (sz : Nat) (x o : Nat) (kx : Kx x = some (6, 0)) (ho : Kx o = none) (most : Int64) (xx : Int32) (yy : Int32) (zz : Int32) (ww : Int32) (post : Option Value → gK → gF → Prop) (px : String → Prop) (good : gK → gF → Int64 → Prop) (hM : gMX l yX6_within wsX6_within 8 1 6 Γ Kx F sz [.ref x, .long most, .int xx, .int yy, .int zz, .int ww] post px) (hpost : ∀ v K' F', post v K' F' → ∃ r, v = some (.int r) ∧ good K' F' r.toInt64) (hpx : ∀ E, px E → E = nIAE) : gML l yL_within wsL_within 9 1 6 Γ (va_up Kx o (some (9, 1))) F sz [.ref x, .long most, .int xx, .int yy, .int zz, .int ww, .ref o] (wP Kx F o nIAE px good) := by
  refine g_mL (cc := cL_within) (maxL := 9) (ret := some .int) (hh := [(0, 17, 20, 13)]) (by decide) rfl (Nat.le_of_ble_eq_true rfl) ?_
  intro p e s m args below meth c ls Z hsz hx hb hts hown hml hTab hN hTH hNc hW hret hl
  have hl : lv_has ls 9 [(0, .ref x), (1, .long most), (3, .int xx), (4, .int yy), (5, .int zz), (6, .int ww), (7, .ref o)] := hl
  have hown : s.vm.findClass RL = some m.cls := hown
  have hsub : ∀ a k, Kx a = some k → va_up Kx o (some (9, 1)) a = some k := fun a k h => by rw [va_up_ne _ _ (fun e => by rw [e, ho] at h; cases h)]; exact h
  have hoL : o < s.heap.size := (hW.1 o (9, 1) (va_up_self _ _ _)).lt
  have hTHx : gTH (gA Kx s.heap.size) s s.heap := gTH.narrow (fun q hq => by
    rw [hsz] at hq
    rcases hq with ⟨k, hk⟩ | hq
    · exact Or.inl ⟨k, hsub q k hk⟩
    · exact Or.inr hq) hTH
  refine lv_aload hx hb dL_within_0 (lv_at hl 6 rfl) ?_
  refine lv_iconst (v := nI 0) hx hb dL_within_2 (by decide) ?_
  refine lv_aload_n hx hb dL_within_3 rfl (lv_at hl 0 rfl) ?_
  refine lv_lload_n hx hb dL_within_4 rfl (lv_at hl 1 rfl) ?_
  refine lv_iload_n hx hb dL_within_5 rfl (lv_at hl 2 rfl) ?_
  refine lv_iload hx hb dL_within_6 (lv_at hl 3 rfl) ?_
  refine lv_iload hx hb dL_within_8 (lv_at hl 4 rfl) ?_
  refine lv_iload hx hb dL_within_10 (lv_at hl 5 rfl) ?_
  refine g_xV (K1 := Kx) (As := [.long most, .int xx, .int yy, .int zz, .int ww]) (b := x) (rest := [.int (nI 0), .ref o]) hx hb hml hown hts hN hW hsub hTHx (by rw [hsz]; exact hM) gL_within_X6_within rfl kx (by decide) rfl (na := 5) rfl (by decide +kernel) ⟨by decide, by decide⟩ ⟨Nat.le_of_ble_eq_true rfl, Nat.le_of_ble_eq_true rfl⟩ rfl hl.1 (Nat.le_of_ble_eq_true rfl) dL_within_12 (fun E ce q9 H locs hp hW hsz1 hce hcv hcl => ?_) (fun v K' F' H locs hp hA' hW hsz1 => ?_)
  · obtain rfl := hpx E hp
    refine vx_catch (own := RL) (name := nIAE) hown [] ⟨0, 17, 20, 13⟩ [] (hTab.trans rfl) (fun z hz => by cases hz) (by decide) (by decide) (hts _ (show Cond.classLink RL 13 nIAE ∈ wsL_within by decide +kernel)) (va_Nw.use rfl (hTH.2.2.1 (.castable nIAE nIAE) (by decide))) hce hcv hcl ?_
    refine lv_astore (lv' := [(8, .ref q9), (0, .ref x), (1, .long most), (3, .int xx), (4, .int yy), (5, .int zz), (6, .int ww), (7, .ref o)]) hx hb dL_within_20 hl (by decide) rfl (fun ls hl => ?_)
    refine lv_iconst (v := nI 1) hx hb dL_within_22 (by decide) ?_
    exact hret (some (.int (nI 1))) _ _ _ _ _ _ _ _ (Nat.le_of_ble_eq_true rfl) (Nat.le_of_ble_eq_true rfl) hW ⟨1, Kx, rfl, rfl, ho, Or.inr (Or.inl ⟨rfl, hp, rfl, fun _ _ _ _ => rfl⟩)⟩ (rt_i dL_within_23)
  · obtain ⟨r, hr, hg⟩ := hpost v K' F' hp
    subst hr
    have hKo : K' o = none := by
      cases h : K' o with
      | none => rfl
      | some q =>
        rcases hA' o q h with ⟨z, hz⟩ | hz
        · rw [ho] at hz; cases hz
        · exact absurd hz (by omega)
    have kO : kMg (va_up Kx o (some (9, 1))) Kx K' o = some (9, 1) := (kMg_old hKo ho).trans (va_up_self _ _ _)
    show W _ _ _ _ _ _ _ _ _ _ _ _ _ _ _ (F0 m 15 ls [.int r, .int (nI 0), .ref o])
    refine lv_i2l (v := r.toInt64) hx hb dL_within_15 rfl ?_
    refine g_last (j := 0) hx hb hN hW kO (by decide) (show _ = nI 0 from rfl) (by decide) dL_within_16 (fun H locs hW => ?_)
    refine lv_goto (tgt := 24) hx hb dL_within_17 (by decide) ?_
    refine lv_iconst (v := nI 0) hx hb dL_within_24 (by decide) ?_
    have hWs := hW.sub (K' := va_up K' o (some (9, 1))) (fun a q ha => by
      by_cases e : a = o
      · rw [e] at ha ⊢; rw [va_up_self] at ha; rw [← ha]; exact kO
      · rw [va_up_ne _ _ e] at ha; exact kMg_new ha)
    exact hret (some (.int (nI 0))) _ _ _ _ _ _ _ _ (Nat.le_of_ble_eq_true rfl) (Nat.le_of_ble_eq_true rfl) hWs ⟨0, K', rfl, rfl, hKo, Or.inl ⟨rfl, r.toInt64, F', hg, fun a q i ha => (gU_a (fun e => by rw [e, hKo] at ha; cases ha)).trans (fMg_new ha), gU_self⟩⟩ (rt_i dL_within_25)

set_option maxHeartbeats 4000000 in
set_option maxRecDepth 100000 in
theorem l_listed (l : Launch) (Γ : gG) (Kx : gK) (F : gF) (sz : Nat) (x o : Nat) (kx : Kx x = some (6, 0)) (ho : Kx o = none) (i9 : Int32) (post : Option Value → gK → gF → Prop) (px : String → Prop) (good : gK → gF → Int64 → Prop) (hM : gMX l yX6_listed wsX6_listed 8 1 6 Γ Kx F sz [.ref x, .int i9] post px) (hpost : ∀ v K' F', post v K' F' → ∃ r, v = some (.int r) ∧ good K' F' r.toInt64) (hpx : ∀ E, px E → E = nIOB) : gML l yL_listed wsL_listed 9 1 6 Γ (va_up Kx o (some (9, 1))) F sz [.ref x, .int i9, .ref o] (wP Kx F o nIOB px good) := by
  refine g_mL (cc := cL_listed) (maxL := 4) (ret := some .int) (hh := [(0, 9, 12, 35)]) (by decide) rfl (Nat.le_of_ble_eq_true rfl) ?_
  intro p e s m args below meth c ls Z hsz hx hb hts hown hml hTab hN hTH hNc hW hret hl
  have hl : lv_has ls 4 [(0, .ref x), (1, .int i9), (2, .ref o)] := hl
  have hown : s.vm.findClass RL = some m.cls := hown
  have hsub : ∀ a k, Kx a = some k → va_up Kx o (some (9, 1)) a = some k := fun a k h => by rw [va_up_ne _ _ (fun e => by rw [e, ho] at h; cases h)]; exact h
  have hoL : o < s.heap.size := (hW.1 o (9, 1) (va_up_self _ _ _)).lt
  have hTHx : gTH (gA Kx s.heap.size) s s.heap := gTH.narrow (fun q hq => by
    rw [hsz] at hq
    rcases hq with ⟨k, hk⟩ | hq
    · exact Or.inl ⟨k, hsub q k hk⟩
    · exact Or.inr hq) hTH
  refine lv_aload_n hx hb dL_listed_0 rfl (lv_at hl 2 rfl) ?_
  refine lv_iconst (v := nI 0) hx hb dL_listed_1 (by decide) ?_
  refine lv_aload_n hx hb dL_listed_2 rfl (lv_at hl 0 rfl) ?_
  refine lv_iload_n hx hb dL_listed_3 rfl (lv_at hl 1 rfl) ?_
  refine g_xV (K1 := Kx) (As := [.int i9]) (b := x) (rest := [.int (nI 0), .ref o]) hx hb hml hown hts hN hW hsub hTHx (by rw [hsz]; exact hM) gL_listed_X6_listed rfl kx (by decide) rfl (na := 1) rfl (by decide +kernel) ⟨by decide, by decide⟩ ⟨Nat.le_of_ble_eq_true rfl, Nat.le_of_ble_eq_true rfl⟩ rfl hl.1 (Nat.le_of_ble_eq_true rfl) dL_listed_4 (fun E ce q9 H locs hp hW hsz1 hce hcv hcl => ?_) (fun v K' F' H locs hp hA' hW hsz1 => ?_)
  · obtain rfl := hpx E hp
    refine vx_catch (own := RL) (name := nIOB) hown [] ⟨0, 9, 12, 35⟩ [] (hTab.trans rfl) (fun z hz => by cases hz) (by decide) (by decide) (hts _ (show Cond.classLink RL 35 nIOB ∈ wsL_listed by decide +kernel)) (va_Nw.use rfl (hTH.2.2.1 (.castable nIOB nIOB) (by decide))) hce hcv hcl ?_
    refine lv_astore_n (lv' := [(3, .ref q9), (0, .ref x), (1, .int i9), (2, .ref o)]) hx hb dL_listed_12 rfl hl (by decide) rfl (fun ls hl => ?_)
    refine lv_iconst (v := nI 1) hx hb dL_listed_13 (by decide) ?_
    exact hret (some (.int (nI 1))) _ _ _ _ _ _ _ _ (Nat.le_of_ble_eq_true rfl) (Nat.le_of_ble_eq_true rfl) hW ⟨1, Kx, rfl, rfl, ho, Or.inr (Or.inl ⟨rfl, hp, rfl, fun _ _ _ _ => rfl⟩)⟩ (rt_i dL_listed_14)
  · obtain ⟨r, hr, hg⟩ := hpost v K' F' hp
    subst hr
    have hKo : K' o = none := by
      cases h : K' o with
      | none => rfl
      | some q =>
        rcases hA' o q h with ⟨z, hz⟩ | hz
        · rw [ho] at hz; cases hz
        · exact absurd hz (by omega)
    have kO : kMg (va_up Kx o (some (9, 1))) Kx K' o = some (9, 1) := (kMg_old hKo ho).trans (va_up_self _ _ _)
    show W _ _ _ _ _ _ _ _ _ _ _ _ _ _ _ (F0 m 7 ls [.int r, .int (nI 0), .ref o])
    refine lv_i2l (v := r.toInt64) hx hb dL_listed_7 rfl ?_
    refine g_last (j := 0) hx hb hN hW kO (by decide) (show _ = nI 0 from rfl) (by decide) dL_listed_8 (fun H locs hW => ?_)
    refine lv_goto (tgt := 15) hx hb dL_listed_9 (by decide) ?_
    refine lv_iconst (v := nI 0) hx hb dL_listed_15 (by decide) ?_
    have hWs := hW.sub (K' := va_up K' o (some (9, 1))) (fun a q ha => by
      by_cases e : a = o
      · rw [e] at ha ⊢; rw [va_up_self] at ha; rw [← ha]; exact kO
      · rw [va_up_ne _ _ e] at ha; exact kMg_new ha)
    exact hret (some (.int (nI 0))) _ _ _ _ _ _ _ _ (Nat.le_of_ble_eq_true rfl) (Nat.le_of_ble_eq_true rfl) hWs ⟨0, K', rfl, rfl, hKo, Or.inl ⟨rfl, r.toInt64, F', hg, fun a q i ha => (gU_a (fun e => by rw [e, hKo] at ha; cases ha)).trans (fMg_new ha), gU_self⟩⟩ (rt_i dL_listed_16)

set_option maxHeartbeats 4000000 in
set_option maxRecDepth 100000 in
theorem l_distance (l : Launch) (Γ : gG) (Kx : gK) (F : gF) (sz : Nat) (x o : Nat) (kx : Kx x = some (6, 0)) (ho : Kx o = none) (i9 : Int32) (post : Option Value → gK → gF → Prop) (px : String → Prop) (good : gK → gF → Int64 → Prop) (hM : gMX l yX6_distance wsX6_distance 8 1 6 Γ Kx F sz [.ref x, .int i9] post px) (hpost : ∀ v K' F', post v K' F' → ∃ r, v = some (.long r) ∧ good K' F' r) (hpx : ∀ E, px E → E = nIOB) : gML l yL_distance wsL_distance 9 1 6 Γ (va_up Kx o (some (9, 1))) F sz [.ref x, .int i9, .ref o] (wP Kx F o nIOB px good) := by
  refine g_mL (cc := cL_distance) (maxL := 4) (ret := some .int) (hh := [(0, 8, 11, 35)]) (by decide) rfl (Nat.le_of_ble_eq_true rfl) ?_
  intro p e s m args below meth c ls Z hsz hx hb hts hown hml hTab hN hTH hNc hW hret hl
  have hl : lv_has ls 4 [(0, .ref x), (1, .int i9), (2, .ref o)] := hl
  have hown : s.vm.findClass RL = some m.cls := hown
  have hsub : ∀ a k, Kx a = some k → va_up Kx o (some (9, 1)) a = some k := fun a k h => by rw [va_up_ne _ _ (fun e => by rw [e, ho] at h; cases h)]; exact h
  have hoL : o < s.heap.size := (hW.1 o (9, 1) (va_up_self _ _ _)).lt
  have hTHx : gTH (gA Kx s.heap.size) s s.heap := gTH.narrow (fun q hq => by
    rw [hsz] at hq
    rcases hq with ⟨k, hk⟩ | hq
    · exact Or.inl ⟨k, hsub q k hk⟩
    · exact Or.inr hq) hTH
  refine lv_aload_n hx hb dL_distance_0 rfl (lv_at hl 2 rfl) ?_
  refine lv_iconst (v := nI 0) hx hb dL_distance_1 (by decide) ?_
  refine lv_aload_n hx hb dL_distance_2 rfl (lv_at hl 0 rfl) ?_
  refine lv_iload_n hx hb dL_distance_3 rfl (lv_at hl 1 rfl) ?_
  refine g_xV (K1 := Kx) (As := [.int i9]) (b := x) (rest := [.int (nI 0), .ref o]) hx hb hml hown hts hN hW hsub hTHx (by rw [hsz]; exact hM) gL_distance_X6_distance rfl kx (by decide) rfl (na := 1) rfl (by decide +kernel) ⟨by decide, by decide⟩ ⟨Nat.le_of_ble_eq_true rfl, Nat.le_of_ble_eq_true rfl⟩ rfl hl.1 (Nat.le_of_ble_eq_true rfl) dL_distance_4 (fun E ce q9 H locs hp hW hsz1 hce hcv hcl => ?_) (fun v K' F' H locs hp hA' hW hsz1 => ?_)
  · obtain rfl := hpx E hp
    refine vx_catch (own := RL) (name := nIOB) hown [] ⟨0, 8, 11, 35⟩ [] (hTab.trans rfl) (fun z hz => by cases hz) (by decide) (by decide) (hts _ (show Cond.classLink RL 35 nIOB ∈ wsL_distance by decide +kernel)) (va_Nw.use rfl (hTH.2.2.1 (.castable nIOB nIOB) (by decide))) hce hcv hcl ?_
    refine lv_astore_n (lv' := [(3, .ref q9), (0, .ref x), (1, .int i9), (2, .ref o)]) hx hb dL_distance_11 rfl hl (by decide) rfl (fun ls hl => ?_)
    refine lv_iconst (v := nI 1) hx hb dL_distance_12 (by decide) ?_
    exact hret (some (.int (nI 1))) _ _ _ _ _ _ _ _ (Nat.le_of_ble_eq_true rfl) (Nat.le_of_ble_eq_true rfl) hW ⟨1, Kx, rfl, rfl, ho, Or.inr (Or.inl ⟨rfl, hp, rfl, fun _ _ _ _ => rfl⟩)⟩ (rt_i dL_distance_13)
  · obtain ⟨r, hr, hg⟩ := hpost v K' F' hp
    subst hr
    have hKo : K' o = none := by
      cases h : K' o with
      | none => rfl
      | some q =>
        rcases hA' o q h with ⟨z, hz⟩ | hz
        · rw [ho] at hz; cases hz
        · exact absurd hz (by omega)
    have kO : kMg (va_up Kx o (some (9, 1))) Kx K' o = some (9, 1) := (kMg_old hKo ho).trans (va_up_self _ _ _)
    show W _ _ _ _ _ _ _ _ _ _ _ _ _ _ _ (F0 m 7 ls [.long r, .int (nI 0), .ref o])
    refine g_last (j := 0) hx hb hN hW kO (by decide) (show _ = nI 0 from rfl) (by decide) dL_distance_7 (fun H locs hW => ?_)
    refine lv_goto (tgt := 14) hx hb dL_distance_8 (by decide) ?_
    refine lv_iconst (v := nI 0) hx hb dL_distance_14 (by decide) ?_
    have hWs := hW.sub (K' := va_up K' o (some (9, 1))) (fun a q ha => by
      by_cases e : a = o
      · rw [e] at ha ⊢; rw [va_up_self] at ha; rw [← ha]; exact kO
      · rw [va_up_ne _ _ e] at ha; exact kMg_new ha)
    exact hret (some (.int (nI 0))) _ _ _ _ _ _ _ _ (Nat.le_of_ble_eq_true rfl) (Nat.le_of_ble_eq_true rfl) hWs ⟨0, K', rfl, rfl, hKo, Or.inl ⟨rfl, r, F', hg, fun a q i ha => (gU_a (fun e => by rw [e, hKo] at ha; cases ha)).trans (fMg_new ha), gU_self⟩⟩ (rt_i dL_distance_15)

set_option maxHeartbeats 4000000 in
set_option maxRecDepth 100000 in
theorem l_inBox (l : Launch) (Γ : gG) (Kx : gK) (F : gF) (sz : Nat) (x o : Nat) (kx : Kx x = some (6, 0)) (ho : Kx o = none) (a9 : Int32) (lo : Int32) (hi9 : Int32) (b9 : Int32) (lo2 : Int32) (ze2 : Int32) (post : Option Value → gK → gF → Prop) (px : String → Prop) (good : gK → gF → Int64 → Prop) (hM : gMX l yX6_inBox wsX6_inBox 8 1 6 Γ Kx F sz [.ref x, .int a9, .int lo, .int hi9, .int b9, .int lo2, .int ze2] post px) (hpost : ∀ v K' F', post v K' F' → ∃ r, v = some (.int r) ∧ good K' F' r.toInt64) (hpx : ∀ E, px E → E = nIAE) : gML l yL_inBox wsL_inBox 9 1 6 Γ (va_up Kx o (some (9, 1))) F sz [.ref x, .int a9, .int lo, .int hi9, .int b9, .int lo2, .int ze2, .ref o] (wP Kx F o nIAE px good) := by
  refine g_mL (cc := cL_inBox) (maxL := 9) (ret := some .int) (hh := [(0, 18, 21, 13)]) (by decide) rfl (Nat.le_of_ble_eq_true rfl) ?_
  intro p e s m args below meth c ls Z hsz hx hb hts hown hml hTab hN hTH hNc hW hret hl
  have hl : lv_has ls 9 [(0, .ref x), (1, .int a9), (2, .int lo), (3, .int hi9), (4, .int b9), (5, .int lo2), (6, .int ze2), (7, .ref o)] := hl
  have hown : s.vm.findClass RL = some m.cls := hown
  have hsub : ∀ a k, Kx a = some k → va_up Kx o (some (9, 1)) a = some k := fun a k h => by rw [va_up_ne _ _ (fun e => by rw [e, ho] at h; cases h)]; exact h
  have hoL : o < s.heap.size := (hW.1 o (9, 1) (va_up_self _ _ _)).lt
  have hTHx : gTH (gA Kx s.heap.size) s s.heap := gTH.narrow (fun q hq => by
    rw [hsz] at hq
    rcases hq with ⟨k, hk⟩ | hq
    · exact Or.inl ⟨k, hsub q k hk⟩
    · exact Or.inr hq) hTH
  refine lv_aload hx hb dL_inBox_0 (lv_at hl 7 rfl) ?_
  refine lv_iconst (v := nI 0) hx hb dL_inBox_2 (by decide) ?_
  refine lv_aload_n hx hb dL_inBox_3 rfl (lv_at hl 0 rfl) ?_
  refine lv_iload_n hx hb dL_inBox_4 rfl (lv_at hl 1 rfl) ?_
  refine lv_iload_n hx hb dL_inBox_5 rfl (lv_at hl 2 rfl) ?_
  refine lv_iload_n hx hb dL_inBox_6 rfl (lv_at hl 3 rfl) ?_
  refine lv_iload hx hb dL_inBox_7 (lv_at hl 4 rfl) ?_
  refine lv_iload hx hb dL_inBox_9 (lv_at hl 5 rfl) ?_
  refine lv_iload hx hb dL_inBox_11 (lv_at hl 6 rfl) ?_
  refine g_xV (K1 := Kx) (As := [.int a9, .int lo, .int hi9, .int b9, .int lo2, .int ze2]) (b := x) (rest := [.int (nI 0), .ref o]) hx hb hml hown hts hN hW hsub hTHx (by rw [hsz]; exact hM) gL_inBox_X6_inBox rfl kx (by decide) rfl (na := 6) rfl (by decide +kernel) ⟨by decide, by decide⟩ ⟨Nat.le_of_ble_eq_true rfl, Nat.le_of_ble_eq_true rfl⟩ rfl hl.1 (Nat.le_of_ble_eq_true rfl) dL_inBox_13 (fun E ce q9 H locs hp hW hsz1 hce hcv hcl => ?_) (fun v K' F' H locs hp hA' hW hsz1 => ?_)
  · obtain rfl := hpx E hp
    refine vx_catch (own := RL) (name := nIAE) hown [] ⟨0, 18, 21, 13⟩ [] (hTab.trans rfl) (fun z hz => by cases hz) (by decide) (by decide) (hts _ (show Cond.classLink RL 13 nIAE ∈ wsL_inBox by decide +kernel)) (va_Nw.use rfl (hTH.2.2.1 (.castable nIAE nIAE) (by decide))) hce hcv hcl ?_
    refine lv_astore (lv' := [(8, .ref q9), (0, .ref x), (1, .int a9), (2, .int lo), (3, .int hi9), (4, .int b9), (5, .int lo2), (6, .int ze2), (7, .ref o)]) hx hb dL_inBox_21 hl (by decide) rfl (fun ls hl => ?_)
    refine lv_iconst (v := nI 1) hx hb dL_inBox_23 (by decide) ?_
    exact hret (some (.int (nI 1))) _ _ _ _ _ _ _ _ (Nat.le_of_ble_eq_true rfl) (Nat.le_of_ble_eq_true rfl) hW ⟨1, Kx, rfl, rfl, ho, Or.inr (Or.inl ⟨rfl, hp, rfl, fun _ _ _ _ => rfl⟩)⟩ (rt_i dL_inBox_24)
  · obtain ⟨r, hr, hg⟩ := hpost v K' F' hp
    subst hr
    have hKo : K' o = none := by
      cases h : K' o with
      | none => rfl
      | some q =>
        rcases hA' o q h with ⟨z, hz⟩ | hz
        · rw [ho] at hz; cases hz
        · exact absurd hz (by omega)
    have kO : kMg (va_up Kx o (some (9, 1))) Kx K' o = some (9, 1) := (kMg_old hKo ho).trans (va_up_self _ _ _)
    show W _ _ _ _ _ _ _ _ _ _ _ _ _ _ _ (F0 m 16 ls [.int r, .int (nI 0), .ref o])
    refine lv_i2l (v := r.toInt64) hx hb dL_inBox_16 rfl ?_
    refine g_last (j := 0) hx hb hN hW kO (by decide) (show _ = nI 0 from rfl) (by decide) dL_inBox_17 (fun H locs hW => ?_)
    refine lv_goto (tgt := 25) hx hb dL_inBox_18 (by decide) ?_
    refine lv_iconst (v := nI 0) hx hb dL_inBox_25 (by decide) ?_
    have hWs := hW.sub (K' := va_up K' o (some (9, 1))) (fun a q ha => by
      by_cases e : a = o
      · rw [e] at ha ⊢; rw [va_up_self] at ha; rw [← ha]; exact kO
      · rw [va_up_ne _ _ e] at ha; exact kMg_new ha)
    exact hret (some (.int (nI 0))) _ _ _ _ _ _ _ _ (Nat.le_of_ble_eq_true rfl) (Nat.le_of_ble_eq_true rfl) hWs ⟨0, K', rfl, rfl, hKo, Or.inl ⟨rfl, r.toInt64, F', hg, fun a q i ha => (gU_a (fun e => by rw [e, hKo] at ha; cases ha)).trans (fMg_new ha), gU_self⟩⟩ (rt_i dL_inBox_26)

set_option maxHeartbeats 4000000 in
set_option maxRecDepth 100000 in
theorem l_pair (l : Launch) (Γ : gG) (Kx : gK) (F : gF) (sz : Nat) (x o : Nat) (kx : Kx x = some (6, 0)) (ho : Kx o = none) (w9 : Int32) (post : Option Value → gK → gF → Prop) (px : String → Prop) (good : gK → gF → Int64 → Prop) (hM : gMX l yX6_pair wsX6_pair 8 1 6 Γ Kx F sz [.ref x, .int w9] post px) (hpost : ∀ v K' F', post v K' F' → ∃ r, v = some (.long r) ∧ good K' F' r) (hpx : ∀ E, px E → E = nIAE ∨ E = nISE) : gML l yL_pair wsL_pair 9 1 6 Γ (va_up Kx o (some (9, 1))) F sz [.ref x, .int w9, .ref o] (wP Kx F o nIAE px good) := by
  refine g_mL (cc := cL_pair) (maxL := 4) (ret := some .int) (hh := [(0, 8, 11, 13), (0, 8, 14, 15)]) (by decide) rfl (Nat.le_of_ble_eq_true rfl) ?_
  intro p e s m args below meth c ls Z hsz hx hb hts hown hml hTab hN hTH hNc hW hret hl
  have hl : lv_has ls 4 [(0, .ref x), (1, .int w9), (2, .ref o)] := hl
  have hown : s.vm.findClass RL = some m.cls := hown
  have hsub : ∀ a k, Kx a = some k → va_up Kx o (some (9, 1)) a = some k := fun a k h => by rw [va_up_ne _ _ (fun e => by rw [e, ho] at h; cases h)]; exact h
  have hoL : o < s.heap.size := (hW.1 o (9, 1) (va_up_self _ _ _)).lt
  have hTHx : gTH (gA Kx s.heap.size) s s.heap := gTH.narrow (fun q hq => by
    rw [hsz] at hq
    rcases hq with ⟨k, hk⟩ | hq
    · exact Or.inl ⟨k, hsub q k hk⟩
    · exact Or.inr hq) hTH
  refine lv_aload_n hx hb dL_pair_0 rfl (lv_at hl 2 rfl) ?_
  refine lv_iconst (v := nI 0) hx hb dL_pair_1 (by decide) ?_
  refine lv_aload_n hx hb dL_pair_2 rfl (lv_at hl 0 rfl) ?_
  refine lv_iload_n hx hb dL_pair_3 rfl (lv_at hl 1 rfl) ?_
  refine g_xV (K1 := Kx) (As := [.int w9]) (b := x) (rest := [.int (nI 0), .ref o]) hx hb hml hown hts hN hW hsub hTHx (by rw [hsz]; exact hM) gL_pair_X6_pair rfl kx (by decide) rfl (na := 1) rfl (by decide +kernel) ⟨by decide, by decide⟩ ⟨Nat.le_of_ble_eq_true rfl, Nat.le_of_ble_eq_true rfl⟩ rfl hl.1 (Nat.le_of_ble_eq_true rfl) dL_pair_4 (fun E ce q9 H locs hp hW hsz1 hce hcv hcl => ?_) (fun v K' F' H locs hp hA' hW hsz1 => ?_)
  · rcases hpx E hp with rfl | rfl
    · refine vx_catch (own := RL) (name := nIAE) hown [] ⟨0, 8, 11, 13⟩ [⟨0, 8, 14, 15⟩] (hTab.trans rfl) (fun z hz => by cases hz) (by decide) (by decide) (hts _ (show Cond.classLink RL 13 nIAE ∈ wsL_pair by decide +kernel)) (va_Nw.use rfl (hTH.2.2.1 (.castable nIAE nIAE) (by decide))) hce hcv hcl ?_
      refine lv_astore_n (lv' := [(3, .ref q9), (0, .ref x), (1, .int w9), (2, .ref o)]) hx hb dL_pair_11 rfl hl (by decide) rfl (fun ls hl => ?_)
      refine lv_iconst (v := nI 1) hx hb dL_pair_12 (by decide) ?_
      exact hret (some (.int (nI 1))) _ _ _ _ _ _ _ _ (Nat.le_of_ble_eq_true rfl) (Nat.le_of_ble_eq_true rfl) hW ⟨1, Kx, rfl, rfl, ho, Or.inr (Or.inl ⟨rfl, hp, rfl, fun _ _ _ _ => rfl⟩)⟩ (rt_i dL_pair_13)
    · refine vx_catch (own := RL) (name := nISE) hown [⟨0, 8, 11, 13⟩] ⟨0, 8, 14, 15⟩ [] (hTab.trans rfl) (fun z hz => by rw [List.mem_singleton.mp hz]; exact Or.inr ⟨by decide, nIAE, hts _ (show Cond.classLink RL 13 nIAE ∈ wsL_pair by decide +kernel), hNc⟩) (by decide) (by decide) (hts _ (show Cond.classLink RL 15 nISE ∈ wsL_pair by decide +kernel)) (va_Nw.use rfl (hTH.2.2.1 (.castable nISE nISE) (by decide))) hce hcv hcl ?_
      refine lv_astore_n (lv' := [(3, .ref q9), (0, .ref x), (1, .int w9), (2, .ref o)]) hx hb dL_pair_14 rfl hl (by decide) rfl (fun ls hl => ?_)
      refine lv_iconst (v := nI 2) hx hb dL_pair_15 (by decide) ?_
      exact hret (some (.int (nI 2))) _ _ _ _ _ _ _ _ (Nat.le_of_ble_eq_true rfl) (Nat.le_of_ble_eq_true rfl) hW ⟨2, Kx, rfl, rfl, ho, Or.inr (Or.inr ⟨rfl, hp, rfl, fun _ _ _ _ => rfl⟩)⟩ (rt_i dL_pair_16)
  · obtain ⟨r, hr, hg⟩ := hpost v K' F' hp
    subst hr
    have hKo : K' o = none := by
      cases h : K' o with
      | none => rfl
      | some q =>
        rcases hA' o q h with ⟨z, hz⟩ | hz
        · rw [ho] at hz; cases hz
        · exact absurd hz (by omega)
    have kO : kMg (va_up Kx o (some (9, 1))) Kx K' o = some (9, 1) := (kMg_old hKo ho).trans (va_up_self _ _ _)
    show W _ _ _ _ _ _ _ _ _ _ _ _ _ _ _ (F0 m 7 ls [.long r, .int (nI 0), .ref o])
    refine g_last (j := 0) hx hb hN hW kO (by decide) (show _ = nI 0 from rfl) (by decide) dL_pair_7 (fun H locs hW => ?_)
    refine lv_goto (tgt := 17) hx hb dL_pair_8 (by decide) ?_
    refine lv_iconst (v := nI 0) hx hb dL_pair_17 (by decide) ?_
    have hWs := hW.sub (K' := va_up K' o (some (9, 1))) (fun a q ha => by
      by_cases e : a = o
      · rw [e] at ha ⊢; rw [va_up_self] at ha; rw [← ha]; exact kO
      · rw [va_up_ne _ _ e] at ha; exact kMg_new ha)
    exact hret (some (.int (nI 0))) _ _ _ _ _ _ _ _ (Nat.le_of_ble_eq_true rfl) (Nat.le_of_ble_eq_true rfl) hWs ⟨0, K', rfl, rfl, hKo, Or.inl ⟨rfl, r, F', hg, fun a q i ha => (gU_a (fun e => by rw [e, hKo] at ha; cases ha)).trans (fMg_new ha), gU_self⟩⟩ (rt_i dL_pair_18)

set_option maxHeartbeats 4000000 in
set_option maxRecDepth 100000 in
theorem l_parts (l : Launch) (Γ : gG) (Kx : gK) (F : gF) (sz : Nat) (x o : Nat) (kx : Kx x = some (6, 0)) (ho : Kx o = none) (most : Int64) (post : Option Value → gK → gF → Prop) (px : String → Prop) (good : gK → gF → Int64 → Prop) (hM : gMX l yX6_parts wsX6_parts 8 1 6 Γ Kx F sz [.ref x, .long most] post px) (hpost : ∀ v K' F', post v K' F' → ∃ r, v = some (.int r) ∧ good K' F' r.toInt64) (hpx : ∀ E, px E → E = nIAE) : gML l yL_parts wsL_parts 9 1 6 Γ (va_up Kx o (some (9, 1))) F sz [.ref x, .long most, .ref o] (wP Kx F o nIAE px good) := by
  refine g_mL (cc := cL_parts) (maxL := 5) (ret := some .int) (hh := [(0, 9, 12, 13)]) (by decide) rfl (Nat.le_of_ble_eq_true rfl) ?_
  intro p e s m args below meth c ls Z hsz hx hb hts hown hml hTab hN hTH hNc hW hret hl
  have hl : lv_has ls 5 [(0, .ref x), (1, .long most), (3, .ref o)] := hl
  have hown : s.vm.findClass RL = some m.cls := hown
  have hsub : ∀ a k, Kx a = some k → va_up Kx o (some (9, 1)) a = some k := fun a k h => by rw [va_up_ne _ _ (fun e => by rw [e, ho] at h; cases h)]; exact h
  have hoL : o < s.heap.size := (hW.1 o (9, 1) (va_up_self _ _ _)).lt
  have hTHx : gTH (gA Kx s.heap.size) s s.heap := gTH.narrow (fun q hq => by
    rw [hsz] at hq
    rcases hq with ⟨k, hk⟩ | hq
    · exact Or.inl ⟨k, hsub q k hk⟩
    · exact Or.inr hq) hTH
  refine lv_aload_n hx hb dL_parts_0 rfl (lv_at hl 2 rfl) ?_
  refine lv_iconst (v := nI 0) hx hb dL_parts_1 (by decide) ?_
  refine lv_aload_n hx hb dL_parts_2 rfl (lv_at hl 0 rfl) ?_
  refine lv_lload_n hx hb dL_parts_3 rfl (lv_at hl 1 rfl) ?_
  refine g_xV (K1 := Kx) (As := [.long most]) (b := x) (rest := [.int (nI 0), .ref o]) hx hb hml hown hts hN hW hsub hTHx (by rw [hsz]; exact hM) gL_parts_X6_parts rfl kx (by decide) rfl (na := 1) rfl (by decide +kernel) ⟨by decide, by decide⟩ ⟨Nat.le_of_ble_eq_true rfl, Nat.le_of_ble_eq_true rfl⟩ rfl hl.1 (Nat.le_of_ble_eq_true rfl) dL_parts_4 (fun E ce q9 H locs hp hW hsz1 hce hcv hcl => ?_) (fun v K' F' H locs hp hA' hW hsz1 => ?_)
  · obtain rfl := hpx E hp
    refine vx_catch (own := RL) (name := nIAE) hown [] ⟨0, 9, 12, 13⟩ [] (hTab.trans rfl) (fun z hz => by cases hz) (by decide) (by decide) (hts _ (show Cond.classLink RL 13 nIAE ∈ wsL_parts by decide +kernel)) (va_Nw.use rfl (hTH.2.2.1 (.castable nIAE nIAE) (by decide))) hce hcv hcl ?_
    refine lv_astore (lv' := [(4, .ref q9), (0, .ref x), (1, .long most), (3, .ref o)]) hx hb dL_parts_12 hl (by decide) rfl (fun ls hl => ?_)
    refine lv_iconst (v := nI 1) hx hb dL_parts_14 (by decide) ?_
    exact hret (some (.int (nI 1))) _ _ _ _ _ _ _ _ (Nat.le_of_ble_eq_true rfl) (Nat.le_of_ble_eq_true rfl) hW ⟨1, Kx, rfl, rfl, ho, Or.inr (Or.inl ⟨rfl, hp, rfl, fun _ _ _ _ => rfl⟩)⟩ (rt_i dL_parts_15)
  · obtain ⟨r, hr, hg⟩ := hpost v K' F' hp
    subst hr
    have hKo : K' o = none := by
      cases h : K' o with
      | none => rfl
      | some q =>
        rcases hA' o q h with ⟨z, hz⟩ | hz
        · rw [ho] at hz; cases hz
        · exact absurd hz (by omega)
    have kO : kMg (va_up Kx o (some (9, 1))) Kx K' o = some (9, 1) := (kMg_old hKo ho).trans (va_up_self _ _ _)
    show W _ _ _ _ _ _ _ _ _ _ _ _ _ _ _ (F0 m 7 ls [.int r, .int (nI 0), .ref o])
    refine lv_i2l (v := r.toInt64) hx hb dL_parts_7 rfl ?_
    refine g_last (j := 0) hx hb hN hW kO (by decide) (show _ = nI 0 from rfl) (by decide) dL_parts_8 (fun H locs hW => ?_)
    refine lv_goto (tgt := 16) hx hb dL_parts_9 (by decide) ?_
    refine lv_iconst (v := nI 0) hx hb dL_parts_16 (by decide) ?_
    have hWs := hW.sub (K' := va_up K' o (some (9, 1))) (fun a q ha => by
      by_cases e : a = o
      · rw [e] at ha ⊢; rw [va_up_self] at ha; rw [← ha]; exact kO
      · rw [va_up_ne _ _ e] at ha; exact kMg_new ha)
    exact hret (some (.int (nI 0))) _ _ _ _ _ _ _ _ (Nat.le_of_ble_eq_true rfl) (Nat.le_of_ble_eq_true rfl) hWs ⟨0, K', rfl, rfl, hKo, Or.inl ⟨rfl, r.toInt64, F', hg, fun a q i ha => (gU_a (fun e => by rw [e, hKo] at ha; cases ha)).trans (fMg_new ha), gU_self⟩⟩ (rt_i dL_parts_17)

set_option maxHeartbeats 4000000 in
set_option maxRecDepth 100000 in
theorem l_node (l : Launch) (Γ : gG) (Kx : gK) (F : gF) (sz : Nat) (x o : Nat) (kx : Kx x = some (6, 0)) (ho : Kx o = none) (d9 : Int32) (w9 : Int32) (post : Option Value → gK → gF → Prop) (px : String → Prop) (good : gK → gF → Int64 → Prop) (hM : gMX l yX6_node wsX6_node 8 1 6 Γ Kx F sz [.ref x, .int d9, .int w9] post px) (hpost : ∀ v K' F', post v K' F' → ∃ r, v = some (.int r) ∧ good K' F' r.toInt64) (hpx : ∀ E, px E → E = nIAE ∨ E = nISE) : gML l yL_node wsL_node 9 1 6 Γ (va_up Kx o (some (9, 1))) F sz [.ref x, .int d9, .int w9, .ref o] (wP Kx F o nIAE px good) := by
  refine g_mL (cc := cL_node) (maxL := 5) (ret := some .int) (hh := [(0, 10, 13, 13), (0, 10, 17, 15)]) (by decide) rfl (Nat.le_of_ble_eq_true rfl) ?_
  intro p e s m args below meth c ls Z hsz hx hb hts hown hml hTab hN hTH hNc hW hret hl
  have hl : lv_has ls 5 [(0, .ref x), (1, .int d9), (2, .int w9), (3, .ref o)] := hl
  have hown : s.vm.findClass RL = some m.cls := hown
  have hsub : ∀ a k, Kx a = some k → va_up Kx o (some (9, 1)) a = some k := fun a k h => by rw [va_up_ne _ _ (fun e => by rw [e, ho] at h; cases h)]; exact h
  have hoL : o < s.heap.size := (hW.1 o (9, 1) (va_up_self _ _ _)).lt
  have hTHx : gTH (gA Kx s.heap.size) s s.heap := gTH.narrow (fun q hq => by
    rw [hsz] at hq
    rcases hq with ⟨k, hk⟩ | hq
    · exact Or.inl ⟨k, hsub q k hk⟩
    · exact Or.inr hq) hTH
  refine lv_aload_n hx hb dL_node_0 rfl (lv_at hl 3 rfl) ?_
  refine lv_iconst (v := nI 0) hx hb dL_node_1 (by decide) ?_
  refine lv_aload_n hx hb dL_node_2 rfl (lv_at hl 0 rfl) ?_
  refine lv_iload_n hx hb dL_node_3 rfl (lv_at hl 1 rfl) ?_
  refine lv_iload_n hx hb dL_node_4 rfl (lv_at hl 2 rfl) ?_
  refine g_xV (K1 := Kx) (As := [.int d9, .int w9]) (b := x) (rest := [.int (nI 0), .ref o]) hx hb hml hown hts hN hW hsub hTHx (by rw [hsz]; exact hM) gL_node_X6_node rfl kx (by decide) rfl (na := 2) rfl (by decide +kernel) ⟨by decide, by decide⟩ ⟨Nat.le_of_ble_eq_true rfl, Nat.le_of_ble_eq_true rfl⟩ rfl hl.1 (Nat.le_of_ble_eq_true rfl) dL_node_5 (fun E ce q9 H locs hp hW hsz1 hce hcv hcl => ?_) (fun v K' F' H locs hp hA' hW hsz1 => ?_)
  · rcases hpx E hp with rfl | rfl
    · refine vx_catch (own := RL) (name := nIAE) hown [] ⟨0, 10, 13, 13⟩ [⟨0, 10, 17, 15⟩] (hTab.trans rfl) (fun z hz => by cases hz) (by decide) (by decide) (hts _ (show Cond.classLink RL 13 nIAE ∈ wsL_node by decide +kernel)) (va_Nw.use rfl (hTH.2.2.1 (.castable nIAE nIAE) (by decide))) hce hcv hcl ?_
      refine lv_astore (lv' := [(4, .ref q9), (0, .ref x), (1, .int d9), (2, .int w9), (3, .ref o)]) hx hb dL_node_13 hl (by decide) rfl (fun ls hl => ?_)
      refine lv_iconst (v := nI 1) hx hb dL_node_15 (by decide) ?_
      exact hret (some (.int (nI 1))) _ _ _ _ _ _ _ _ (Nat.le_of_ble_eq_true rfl) (Nat.le_of_ble_eq_true rfl) hW ⟨1, Kx, rfl, rfl, ho, Or.inr (Or.inl ⟨rfl, hp, rfl, fun _ _ _ _ => rfl⟩)⟩ (rt_i dL_node_16)
    · refine vx_catch (own := RL) (name := nISE) hown [⟨0, 10, 13, 13⟩] ⟨0, 10, 17, 15⟩ [] (hTab.trans rfl) (fun z hz => by rw [List.mem_singleton.mp hz]; exact Or.inr ⟨by decide, nIAE, hts _ (show Cond.classLink RL 13 nIAE ∈ wsL_node by decide +kernel), hNc⟩) (by decide) (by decide) (hts _ (show Cond.classLink RL 15 nISE ∈ wsL_node by decide +kernel)) (va_Nw.use rfl (hTH.2.2.1 (.castable nISE nISE) (by decide))) hce hcv hcl ?_
      refine lv_astore (lv' := [(4, .ref q9), (0, .ref x), (1, .int d9), (2, .int w9), (3, .ref o)]) hx hb dL_node_17 hl (by decide) rfl (fun ls hl => ?_)
      refine lv_iconst (v := nI 2) hx hb dL_node_19 (by decide) ?_
      exact hret (some (.int (nI 2))) _ _ _ _ _ _ _ _ (Nat.le_of_ble_eq_true rfl) (Nat.le_of_ble_eq_true rfl) hW ⟨2, Kx, rfl, rfl, ho, Or.inr (Or.inr ⟨rfl, hp, rfl, fun _ _ _ _ => rfl⟩)⟩ (rt_i dL_node_20)
  · obtain ⟨r, hr, hg⟩ := hpost v K' F' hp
    subst hr
    have hKo : K' o = none := by
      cases h : K' o with
      | none => rfl
      | some q =>
        rcases hA' o q h with ⟨z, hz⟩ | hz
        · rw [ho] at hz; cases hz
        · exact absurd hz (by omega)
    have kO : kMg (va_up Kx o (some (9, 1))) Kx K' o = some (9, 1) := (kMg_old hKo ho).trans (va_up_self _ _ _)
    show W _ _ _ _ _ _ _ _ _ _ _ _ _ _ _ (F0 m 8 ls [.int r, .int (nI 0), .ref o])
    refine lv_i2l (v := r.toInt64) hx hb dL_node_8 rfl ?_
    refine g_last (j := 0) hx hb hN hW kO (by decide) (show _ = nI 0 from rfl) (by decide) dL_node_9 (fun H locs hW => ?_)
    refine lv_goto (tgt := 21) hx hb dL_node_10 (by decide) ?_
    refine lv_iconst (v := nI 0) hx hb dL_node_21 (by decide) ?_
    have hWs := hW.sub (K' := va_up K' o (some (9, 1))) (fun a q ha => by
      by_cases e : a = o
      · rw [e] at ha ⊢; rw [va_up_self] at ha; rw [← ha]; exact kO
      · rw [va_up_ne _ _ e] at ha; exact kMg_new ha)
    exact hret (some (.int (nI 0))) _ _ _ _ _ _ _ _ (Nat.le_of_ble_eq_true rfl) (Nat.le_of_ble_eq_true rfl) hWs ⟨0, K', rfl, rfl, hKo, Or.inl ⟨rfl, r.toInt64, F', hg, fun a q i ha => (gU_a (fun e => by rw [e, hKo] at ha; cases ha)).trans (fMg_new ha), gU_self⟩⟩ (rt_i dL_node_22)

set_option maxHeartbeats 4000000 in
set_option maxRecDepth 100000 in
theorem l_walk (l : Launch) (Γ : gG) (Kx : gK) (F : gF) (sz : Nat) (x o : Nat) (kx : Kx x = some (6, 0)) (ho : Kx o = none) (k9 : Int32) (post : Option Value → gK → gF → Prop) (px : String → Prop) (good : gK → gF → Int64 → Prop) (hM : gMX l yX6_walk wsX6_walk 8 1 6 Γ Kx F sz [.ref x, .int k9] post px) (hpost : ∀ v K' F', post v K' F' → ∃ r, v = some (.int r) ∧ good K' F' r.toInt64) (hpx : ∀ E, px E → E = nIOB) : gML l yL_walk wsL_walk 9 1 6 Γ (va_up Kx o (some (9, 1))) F sz [.ref x, .int k9, .ref o] (wP Kx F o nIOB px good) := by
  refine g_mL (cc := cL_walk) (maxL := 4) (ret := some .int) (hh := [(0, 9, 12, 35)]) (by decide) rfl (Nat.le_of_ble_eq_true rfl) ?_
  intro p e s m args below meth c ls Z hsz hx hb hts hown hml hTab hN hTH hNc hW hret hl
  have hl : lv_has ls 4 [(0, .ref x), (1, .int k9), (2, .ref o)] := hl
  have hown : s.vm.findClass RL = some m.cls := hown
  have hsub : ∀ a k, Kx a = some k → va_up Kx o (some (9, 1)) a = some k := fun a k h => by rw [va_up_ne _ _ (fun e => by rw [e, ho] at h; cases h)]; exact h
  have hoL : o < s.heap.size := (hW.1 o (9, 1) (va_up_self _ _ _)).lt
  have hTHx : gTH (gA Kx s.heap.size) s s.heap := gTH.narrow (fun q hq => by
    rw [hsz] at hq
    rcases hq with ⟨k, hk⟩ | hq
    · exact Or.inl ⟨k, hsub q k hk⟩
    · exact Or.inr hq) hTH
  refine lv_aload_n hx hb dL_walk_0 rfl (lv_at hl 2 rfl) ?_
  refine lv_iconst (v := nI 0) hx hb dL_walk_1 (by decide) ?_
  refine lv_aload_n hx hb dL_walk_2 rfl (lv_at hl 0 rfl) ?_
  refine lv_iload_n hx hb dL_walk_3 rfl (lv_at hl 1 rfl) ?_
  refine g_xV (K1 := Kx) (As := [.int k9]) (b := x) (rest := [.int (nI 0), .ref o]) hx hb hml hown hts hN hW hsub hTHx (by rw [hsz]; exact hM) gL_walk_X6_walk rfl kx (by decide) rfl (na := 1) rfl (by decide +kernel) ⟨by decide, by decide⟩ ⟨Nat.le_of_ble_eq_true rfl, Nat.le_of_ble_eq_true rfl⟩ rfl hl.1 (Nat.le_of_ble_eq_true rfl) dL_walk_4 (fun E ce q9 H locs hp hW hsz1 hce hcv hcl => ?_) (fun v K' F' H locs hp hA' hW hsz1 => ?_)
  · obtain rfl := hpx E hp
    refine vx_catch (own := RL) (name := nIOB) hown [] ⟨0, 9, 12, 35⟩ [] (hTab.trans rfl) (fun z hz => by cases hz) (by decide) (by decide) (hts _ (show Cond.classLink RL 35 nIOB ∈ wsL_walk by decide +kernel)) (va_Nw.use rfl (hTH.2.2.1 (.castable nIOB nIOB) (by decide))) hce hcv hcl ?_
    refine lv_astore_n (lv' := [(3, .ref q9), (0, .ref x), (1, .int k9), (2, .ref o)]) hx hb dL_walk_12 rfl hl (by decide) rfl (fun ls hl => ?_)
    refine lv_iconst (v := nI 1) hx hb dL_walk_13 (by decide) ?_
    exact hret (some (.int (nI 1))) _ _ _ _ _ _ _ _ (Nat.le_of_ble_eq_true rfl) (Nat.le_of_ble_eq_true rfl) hW ⟨1, Kx, rfl, rfl, ho, Or.inr (Or.inl ⟨rfl, hp, rfl, fun _ _ _ _ => rfl⟩)⟩ (rt_i dL_walk_14)
  · obtain ⟨r, hr, hg⟩ := hpost v K' F' hp
    subst hr
    have hKo : K' o = none := by
      cases h : K' o with
      | none => rfl
      | some q =>
        rcases hA' o q h with ⟨z, hz⟩ | hz
        · rw [ho] at hz; cases hz
        · exact absurd hz (by omega)
    have kO : kMg (va_up Kx o (some (9, 1))) Kx K' o = some (9, 1) := (kMg_old hKo ho).trans (va_up_self _ _ _)
    show W _ _ _ _ _ _ _ _ _ _ _ _ _ _ _ (F0 m 7 ls [.int r, .int (nI 0), .ref o])
    refine lv_i2l (v := r.toInt64) hx hb dL_walk_7 rfl ?_
    refine g_last (j := 0) hx hb hN hW kO (by decide) (show _ = nI 0 from rfl) (by decide) dL_walk_8 (fun H locs hW => ?_)
    refine lv_goto (tgt := 15) hx hb dL_walk_9 (by decide) ?_
    refine lv_iconst (v := nI 0) hx hb dL_walk_15 (by decide) ?_
    have hWs := hW.sub (K' := va_up K' o (some (9, 1))) (fun a q ha => by
      by_cases e : a = o
      · rw [e] at ha ⊢; rw [va_up_self] at ha; rw [← ha]; exact kO
      · rw [va_up_ne _ _ e] at ha; exact kMg_new ha)
    exact hret (some (.int (nI 0))) _ _ _ _ _ _ _ _ (Nat.le_of_ble_eq_true rfl) (Nat.le_of_ble_eq_true rfl) hWs ⟨0, K', rfl, rfl, hKo, Or.inl ⟨rfl, r.toInt64, F', hg, fun a q i ha => (gU_a (fun e => by rw [e, hKo] at ha; cases ha)).trans (fMg_new ha), gU_self⟩⟩ (rt_i dL_walk_16)

set_option maxHeartbeats 4000000 in
set_option maxRecDepth 100000 in
theorem l_count (l : Launch) (Γ : gG) (Kx : gK) (F : gF) (sz : Nat) (x o : Nat) (kx : Kx x = some (6, 0)) (ho : Kx o = none) (w9 : Int32) (post : Option Value → gK → gF → Prop) (px : String → Prop) (good : gK → gF → Int64 → Prop) (hM : gMX l yX6_count wsX6_count 8 1 6 Γ Kx F sz [.ref x, .int w9] post px) (hpost : ∀ v K' F', post v K' F' → ∃ r, v = some (.int r) ∧ good K' F' r.toInt64) (hpx : ∀ E, px E → E = nIAE) : gML l yL_count wsL_count 9 1 6 Γ (va_up Kx o (some (9, 1))) F sz [.ref x, .int w9, .ref o] (wP Kx F o nIAE px good) := by
  refine g_mL (cc := cL_count) (maxL := 4) (ret := some .int) (hh := [(0, 9, 12, 13)]) (by decide) rfl (Nat.le_of_ble_eq_true rfl) ?_
  intro p e s m args below meth c ls Z hsz hx hb hts hown hml hTab hN hTH hNc hW hret hl
  have hl : lv_has ls 4 [(0, .ref x), (1, .int w9), (2, .ref o)] := hl
  have hown : s.vm.findClass RL = some m.cls := hown
  have hsub : ∀ a k, Kx a = some k → va_up Kx o (some (9, 1)) a = some k := fun a k h => by rw [va_up_ne _ _ (fun e => by rw [e, ho] at h; cases h)]; exact h
  have hoL : o < s.heap.size := (hW.1 o (9, 1) (va_up_self _ _ _)).lt
  have hTHx : gTH (gA Kx s.heap.size) s s.heap := gTH.narrow (fun q hq => by
    rw [hsz] at hq
    rcases hq with ⟨k, hk⟩ | hq
    · exact Or.inl ⟨k, hsub q k hk⟩
    · exact Or.inr hq) hTH
  refine lv_aload_n hx hb dL_count_0 rfl (lv_at hl 2 rfl) ?_
  refine lv_iconst (v := nI 0) hx hb dL_count_1 (by decide) ?_
  refine lv_aload_n hx hb dL_count_2 rfl (lv_at hl 0 rfl) ?_
  refine lv_iload_n hx hb dL_count_3 rfl (lv_at hl 1 rfl) ?_
  refine g_xV (K1 := Kx) (As := [.int w9]) (b := x) (rest := [.int (nI 0), .ref o]) hx hb hml hown hts hN hW hsub hTHx (by rw [hsz]; exact hM) gL_count_X6_count rfl kx (by decide) rfl (na := 1) rfl (by decide +kernel) ⟨by decide, by decide⟩ ⟨Nat.le_of_ble_eq_true rfl, Nat.le_of_ble_eq_true rfl⟩ rfl hl.1 (Nat.le_of_ble_eq_true rfl) dL_count_4 (fun E ce q9 H locs hp hW hsz1 hce hcv hcl => ?_) (fun v K' F' H locs hp hA' hW hsz1 => ?_)
  · obtain rfl := hpx E hp
    refine vx_catch (own := RL) (name := nIAE) hown [] ⟨0, 9, 12, 13⟩ [] (hTab.trans rfl) (fun z hz => by cases hz) (by decide) (by decide) (hts _ (show Cond.classLink RL 13 nIAE ∈ wsL_count by decide +kernel)) (va_Nw.use rfl (hTH.2.2.1 (.castable nIAE nIAE) (by decide))) hce hcv hcl ?_
    refine lv_astore_n (lv' := [(3, .ref q9), (0, .ref x), (1, .int w9), (2, .ref o)]) hx hb dL_count_12 rfl hl (by decide) rfl (fun ls hl => ?_)
    refine lv_iconst (v := nI 1) hx hb dL_count_13 (by decide) ?_
    exact hret (some (.int (nI 1))) _ _ _ _ _ _ _ _ (Nat.le_of_ble_eq_true rfl) (Nat.le_of_ble_eq_true rfl) hW ⟨1, Kx, rfl, rfl, ho, Or.inr (Or.inl ⟨rfl, hp, rfl, fun _ _ _ _ => rfl⟩)⟩ (rt_i dL_count_14)
  · obtain ⟨r, hr, hg⟩ := hpost v K' F' hp
    subst hr
    have hKo : K' o = none := by
      cases h : K' o with
      | none => rfl
      | some q =>
        rcases hA' o q h with ⟨z, hz⟩ | hz
        · rw [ho] at hz; cases hz
        · exact absurd hz (by omega)
    have kO : kMg (va_up Kx o (some (9, 1))) Kx K' o = some (9, 1) := (kMg_old hKo ho).trans (va_up_self _ _ _)
    show W _ _ _ _ _ _ _ _ _ _ _ _ _ _ _ (F0 m 7 ls [.int r, .int (nI 0), .ref o])
    refine lv_i2l (v := r.toInt64) hx hb dL_count_7 rfl ?_
    refine g_last (j := 0) hx hb hN hW kO (by decide) (show _ = nI 0 from rfl) (by decide) dL_count_8 (fun H locs hW => ?_)
    refine lv_goto (tgt := 15) hx hb dL_count_9 (by decide) ?_
    refine lv_iconst (v := nI 0) hx hb dL_count_15 (by decide) ?_
    have hWs := hW.sub (K' := va_up K' o (some (9, 1))) (fun a q ha => by
      by_cases e : a = o
      · rw [e] at ha ⊢; rw [va_up_self] at ha; rw [← ha]; exact kO
      · rw [va_up_ne _ _ e] at ha; exact kMg_new ha)
    exact hret (some (.int (nI 0))) _ _ _ _ _ _ _ _ (Nat.le_of_ble_eq_true rfl) (Nat.le_of_ble_eq_true rfl) hWs ⟨0, K', rfl, rfl, hKo, Or.inl ⟨rfl, r.toInt64, F', hg, fun a q i ha => (gU_a (fun e => by rw [e, hKo] at ha; cases ha)).trans (fMg_new ha), gU_self⟩⟩ (rt_i dL_count_16)
