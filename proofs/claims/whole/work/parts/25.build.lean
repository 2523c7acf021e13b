set_option maxHeartbeats 4000000 in
set_option maxRecDepth 100000 in
theorem c_build0 (l : Launch) (Γ : gG) (K : gK) (F : gF) (sz : Nat) (T fr dep ax n : Nat) (up : Option Nat) (hk : K T = some (5, 0)) (hfr : fr ≤ 60) : gMM l yX5_build wsX5_build n 0 0 Γ K F sz [.ref T, .int (nI fr), .int (nI fr), .int (nI dep), .int (nI ax), va_rf up] (fun v K' F' => v = some (va_rf none) ∧ K' = K ∧ F' = F) := by
  refine g_mM (cc := cX5_build) (maxL := 9) (ret := (some (.object "NearTree$Node"))) (by decide) rfl (by cases up <;> exact Nat.le_of_ble_eq_true rfl) ?_
  intro p e s m args below meth c ls Z hsz hx hb hts hown hml hnm hN hW hret hl
  have hl : lv_has ls 9 [(0, .ref T), (1, .int (nI fr)), (2, .int (nI fr)), (3, .int (nI dep)), (4, .int (nI ax)), (5, va_rf up)] := by cases up <;> exact hl
  have hown : s.vm.findClass RX5 = some m.cls := hown
  refine lv_iload_n hx hb dX5_build_0 rfl (lv_at hl 1 rfl) ?_
  refine lv_if_lt (tgt := 24) hx hb dX5_build_1 (by decide) (fun c1 => ?_) (fun c1 => ?_)
  · have c1 : False := nI_pos (by omega) c1
    exact c1.elim
  · have c1 : True := trivial
    refine lv_iload_n hx hb dX5_build_4 rfl (lv_at hl 1 rfl) ?_
    refine lv_iload_n hx hb dX5_build_5 rfl (lv_at hl 2 rfl) ?_
    refine lv_icmp_ge (tgt := 24) hx hb dX5_build_6 (by decide) (fun c2 => ?_) (fun c2 => ?_)
    · have c2 : fr ≤ fr := (nI_leI (by omega) (by omega)).mp c2
      refine lv_null hx hb dX5_build_24 ?_
      exact hret (some (va_rf none)) _ _ _ _ _ _ hW (⟨rfl, rfl, rfl⟩) (rt_a dX5_build_25)
    · have c2 : fr < fr := Nat.not_le.mp (fun z => c2 ((nI_leI (by omega) (by omega)).mpr z))
      exact absurd c2 (by omega)

theorem bldG_cons {α : Type} {lt : Nat → α → α → Bool} {d n dep : Nat} {L : List α} {y : α} {ys : List α} (h : (isort (lt (dep % d)) [] L).drop (L.length / 2) = y :: ys) : bldG lt d (n + 1) dep L = tN (bldG lt d n (dep + 1) ((isort (lt (dep % d)) [] L).take (L.length / 2))) y (bldG lt d n (dep + 1) ys) := by
  rw [bldG, h]
/-- a weaker promise -/
theorem g_post {l : Launch} {y : MethodName} {ws : List Cond} {n mc ms : Nat} {Γ : gG} {K : gK} {F : gF} {sz : Nat} {av : List Value} {P P' : Option Value → gK → gF → Prop} (h : gMM l y ws n mc ms Γ K F sz av P) (hp : ∀ v K' F', P v K' F' → P' v K' F') : gMM l y ws n mc ms Γ K F sz av P' := by
  intro p e ha hc hk s m args below hf happ hpre htr
  obtain ⟨t, o, h1, h2, h3, h4⟩ := h p e ha hc hk s m args below hf happ hpre htr
  obtain ⟨⟨v, K', F', a1, a2, a3⟩, h5⟩ := h4
  exact ⟨t, o, h1, h2, h3, ⟨v, K', F', a1, hp v K' F' a2, a3⟩, h5⟩

set_option maxHeartbeats 4000000 in
set_option maxRecDepth 100000 in
/-- Tree.build: the row's part becomes a tree -/
theorem c_build (l : Launch) (Γ : gG) (K : gK) (T row d : Nat) (dt : Nat → gPt) (pl : Nat → Nat) (dd : Nat → Bool) (hk : K T = some (5, 0)) (hkr : K row = some (11, 60)) (hd1 : 0 < d) (hd4 : d ≤ 4) : ∀ (N : Nat) (F : gF) (sz : Nat) (L : List Nat) (fr dep : Nat) (up : Option Nat) (hlen : L.length ≤ N) (hdep : dep + L.length ≤ 120) (h60 : fr + L.length ≤ 60) (h0 : F T 0 = .int (nI d)) (h1 : F T 1 = .ref row) (hrow : rowL F row fr (L.map vRf)) (hND : NDs K F dt pl dd L) (hnd : L.Nodup), gMM l yX5_build wsX5_build (N + 4) 0 0 Γ K F sz [.ref T, .int (nI fr), .int (nI (fr + L.length)), .int (nI dep), .int (nI (dep % d)), va_rf up] (fun v K' F' => v = some (va_rf (tRt (bldG (ltA dt) d N dep L))) ∧ K' = K ∧ CT F' d (bldG (ltA dt) d N dep L) up dep ∧ ∀ b i, ¬ (b = row ∧ fr ≤ i ∧ i < fr + L.length) → ¬ (b ∈ L ∧ 3 ≤ i) → F' b i = F b i) := by
  intro N
  induction N with
  | zero =>
    intro F sz L fr dep up hlen hdep h60 h0 h1 hrow hND hnd
    obtain rfl : L = [] := List.length_eq_zero_iff.mp (Nat.le_zero.mp hlen)
    exact g_post (c_build0 l Γ K F sz T fr dep (dep % d) 4 up hk (by omega)) (fun v K' F' hp => by obtain ⟨rfl, rfl, rfl⟩ := hp; exact ⟨rfl, rfl, trivial, fun _ _ _ _ => rfl⟩)
  | succ N ih =>
    intro F sz L fr dep up hlen hdep h60 h0 h1 hrow hND hnd
    rcases Nat.eq_zero_or_pos L.length with hL0 | hLp
    · obtain rfl : L = [] := List.length_eq_zero_iff.mp hL0
      exact g_post (c_build0 l Γ K F sz T fr dep (dep % d) (N + 1 + 4) up hk (by omega)) (fun v K' F' hp => by obtain ⟨rfl, rfl, rfl⟩ := hp; exact ⟨rfl, rfl, trivial, fun _ _ _ _ => rfl⟩)
    have hax : dep % d < 4 := Nat.lt_of_lt_of_le (Nat.mod_lt _ hd1) hd4
    refine g_mM (cc := cX5_build) (maxL := 9) (ret := (some (.object "NearTree$Node"))) (by decide) rfl (by cases up <;> exact Nat.le_of_ble_eq_true rfl) ?_
    intro p e s m args below meth c ls Z hsz hx hb hts hown hml hnm hN hW hret hl
    have hl : lv_has ls 9 [(0, .ref T), (1, .int (nI fr)), (2, .int (nI (fr + L.length))), (3, .int (nI dep)), (4, .int (nI (dep % d))), (5, va_rf up)] := by cases up <;> exact hl
    have hown : s.vm.findClass RX5 = some m.cls := hown
    have hi2 : ∀ w ∈ wsX20, w ∈ wsX5_build := by decide +kernel
    have hi5 : ∀ w ∈ wsX50, w ∈ wsX5_build := by decide +kernel
    have hfX5_17 : Cond.fieldLink RX5 17 (TX5 1).1 (TX5 1).2.1 (TX5 1).2.2.1 ∈ wsX5_build := by decide +kernel
    have hfX5_29 : Cond.fieldLink RX5 29 (TX2 5).1 (TX2 5).2.1 (TX2 5).2.2.1 ∈ wsX5_build := by decide +kernel
    have hfX5_36 : Cond.fieldLink RX5 36 (TX2 6).1 (TX2 6).2.1 (TX2 6).2.2.1 ∈ wsX5_build := by decide +kernel
    have hfX5_39 : Cond.fieldLink RX5 39 (TX2 3).1 (TX2 3).2.1 (TX2 3).2.2.1 ∈ wsX5_build := by decide +kernel
    have hfX5_42 : Cond.fieldLink RX5 42 (TX2 4).1 (TX2 4).2.1 (TX2 4).2.2.1 ∈ wsX5_build := by decide +kernel
    have hfX5_53 : Cond.fieldLink RX5 53 (TX2 7).1 (TX2 7).2.1 (TX2 7).2.2.1 ∈ wsX5_build := by decide +kernel
    have hfX5_56 : Cond.fieldLink RX5 56 (TX2 8).1 (TX2 8).2.1 (TX2 8).2.2.1 ∈ wsX5_build := by decide +kernel
    refine lv_iload_n hx hb dX5_build_0 rfl (lv_at hl 1 rfl) ?_
    refine lv_if_lt (tgt := 24) hx hb dX5_build_1 (by decide) (fun c1 => ?_) (fun c1 => ?_)
    · have c1 : False := nI_pos (by omega) c1
      exact c1.elim
    · have c1 : True := trivial
      refine lv_iload_n hx hb dX5_build_4 rfl (lv_at hl 1 rfl) ?_
      refine lv_iload_n hx hb dX5_build_5 rfl (lv_at hl 2 rfl) ?_
      refine lv_icmp_ge (tgt := 24) hx hb dX5_build_6 (by decide) (fun c2 => ?_) (fun c2 => ?_)
      · have c2 : (fr + L.length) ≤ fr := (nI_leI (by omega) (by omega)).mp c2
        exact absurd c2 (by omega)
      · have c2 : fr < (fr + L.length) := Nat.not_le.mp (fun z => c2 ((nI_leI (by omega) (by omega)).mpr z))
        refine lv_iload_n hx hb dX5_build_9 rfl (lv_at hl 2 rfl) ?_
        refine lv_aload_n hx hb dX5_build_10 rfl (lv_at hl 0 rfl) ?_
        refine g_get (C := RX5) (T := TX5) (N := 4) hx hb hts hi5 hown hN hW.1 hk rfl (by decide) 1 (by decide) hfX5_17 (v := .ref row) h1 dX5_build_11 ?_
        refine g_alen (t := 3) hx hb hN hW.1 hkr rfl dX5_build_14 ?_
        refine lv_icmp_gt (tgt := 24) hx hb dX5_build_15 (by decide) (fun c3 => ?_) (fun c3 => ?_)
        · have c3 : 60 < (fr + L.length) := (nI_ltI (by omega) (by omega)).mp c3
          exact absurd c3 (by omega)
        · have c3 : (fr + L.length) ≤ 60 := Nat.not_lt.mp (fun z => c3 ((nI_ltI (by omega) (by omega)).mpr z))
          refine lv_iload_n hx hb dX5_build_18 rfl (lv_at hl 3 rfl) ?_
          refine lv_bipush (v := nI 120) hx hb dX5_build_19 (by decide) ?_
          refine lv_icmp_lt (tgt := 26) hx hb dX5_build_21 (by decide) (fun c4 => ?_) (fun c4 => ?_)
          · have c4 : dep < 120 := (nI_ltI (by omega) (by omega)).mp c4
            refine lv_aload_n hx hb dX5_build_26 rfl (lv_at hl 0 rfl) ?_
            refine lv_iload_n hx hb dX5_build_27 rfl (lv_at hl 1 rfl) ?_
            refine lv_iload_n hx hb dX5_build_28 rfl (lv_at hl 2 rfl) ?_
            refine lv_iload hx hb dX5_build_29 (lv_at hl 4 rfl) ?_
            refine g_mV (As := [.int (nI fr), .int (nI (fr + L.length)), .int (nI (dep % d))]) (b := T) (rest := []) hx hb hml hown hts hN hW (c_order l Γ K F _ T row fr (dep % d) L dt pl dd hk hkr h1 hrow hND hax h60) gX5_build_X5_order rfl hk (by decide) rfl (na := 3) rfl (by decide +kernel) ⟨by simp only [gRm]; omega, by simp only [gRm]; omega⟩ ⟨Nat.le_of_ble_eq_true rfl, Nat.le_of_ble_eq_true rfl⟩ rfl hl.1 (Nat.le_of_ble_eq_true rfl) dX5_build_31 (fun v K' F1 H locs hp hW hsz' => ?_)
            obtain ⟨rfl, hK9, hrow1, hfr1⟩ := hp
            subst K'
            show W _ _ _ _ _ _ _ _ _ _ _ _ _ _ _ (F0 m 34 ls [])
            have hp := isort_perm (ltA dt (dep % d)) L []
            rw [List.nil_append] at hp
            generalize hSe : isort (ltA dt (dep % d)) [] L = S at hrow1 hp
            have hSl : S.length = L.length := hp.length_eq
            obtain ⟨y, ys, hdr⟩ : ∃ y ys, S.drop (L.length / 2) = y :: ys := by
              rcases hq : S.drop (L.length / 2) with _ | ⟨y, ys⟩
              · have := List.drop_eq_nil_iff.mp hq
                omega
              · exact ⟨y, ys, rfl⟩
            have hsp : S = S.take (L.length / 2) ++ y :: ys := by rw [← hdr, List.take_append_drop]
            generalize hL1 : S.take (L.length / 2) = L1 at hsp
            have hl1 : L1.length = L.length / 2 := by rw [← hL1, List.length_take, hSl]; omega
            have hlys : ys.length + 1 + L.length / 2 = L.length := by
              have := congrArg List.length hsp
              rw [List.length_append, List.length_cons, hl1, hSl] at this
              omega
            have hnS : (L1 ++ y :: ys).Nodup := hsp ▸ hp.nodup_iff.mpr hnd
            have hmem : ∀ z, z ∈ L1 ∨ z = y ∨ z ∈ ys → z ∈ L := fun z hz => hp.mem_iff.mp (by rw [hsp]; simpa using hz)
            have hyL : y ∈ L := hmem y (Or.inr (Or.inl rfl))
            have hky : K y = some (2, 0) := (hND y hyL).1.1
            have hy1 : y ∉ L1 := fun h => (List.nodup_append.mp hnS).2.2 y h y List.mem_cons_self rfl
            have hy2 : y ∉ ys := (List.nodup_cons.mp (List.nodup_append.mp hnS).2.1).1
            have hdis : ∀ z, z ∈ L1 → z ∉ ys := fun z h1 h2 => (List.nodup_append.mp hnS).2.2 z h1 z (List.mem_cons_of_mem _ h2) rfl
            have hnr : ∀ z, z ∈ L → z ≠ row := fun z hz => kne (hND z hz).1.1 hkr (by decide)
            have hrT : T ≠ row := kne hk hkr (by decide)
            have hyT : y ≠ T := kne hky hk (by decide)
            have hTL : T ∉ L := fun h => kne (hND T h).1.1 hk (by decide) rfl
            rw [hsp, List.map_append, List.map_cons] at hrow1
            have hr1 := hrow1.left
            have hr2 : F1 row (fr + L.length / 2) = .ref y := by
              have := hrow1.right.head
              rw [List.length_map, hl1] at this
              exact this
            have hr3 : rowL F1 row (fr + L.length / 2 + 1) (ys.map vRf) := by
              have := hrow1.right.tail
              rw [List.length_map, hl1] at this
              exact this
            have g0 : F1 T 0 = .int (nI d) := (hfr1 T 0 (fun z => hrT z.1)).trans h0
            have g1 : F1 T 1 = .ref row := (hfr1 T 1 (fun z => hrT z.1)).trans h1
            refine lv_iload_n hx hb dX5_build_34 rfl (lv_at hl 1 rfl) ?_
            refine lv_iload_n hx hb dX5_build_35 rfl (lv_at hl 2 rfl) ?_
            refine lv_iload_n hx hb dX5_build_36 rfl (lv_at hl 1 rfl) ?_
            refine lv_isub hx hb dX5_build_37 ?_
            refine g_asi (show _ = nI ((fr + L.length) - fr) from pk_sub (by omega)) ?_
            refine g_asi (show _ = nI L.length from by rw [Nat.add_sub_cancel_left]) ?_
            refine lv_iconst (v := nI 2) hx hb dX5_build_38 (by decide) ?_
            refine lv_idiv hx hb dX5_build_39 (by decide) ?_
            refine g_asi (show _ = nI (L.length / 2) from pk_div (by omega) (by omega) (by omega)) ?_
            refine lv_iadd hx hb dX5_build_40 ?_
            refine g_asi (show _ = nI (fr + (L.length / 2)) from (nI_add _ _).trans (by rfl)) ?_
            refine lv_istore (lv' := [(6, .int (nI (fr + (L.length / 2)))), (0, .ref T), (1, .int (nI fr)), (2, .int (nI (fr + L.length))), (3, .int (nI dep)), (4, .int (nI (dep % d))), (5, va_rf up)]) hx hb dX5_build_41 hl (by decide) (by generalize up = r9; cases r9 <;> rfl) (fun ls hl => ?_)
            refine lv_aload_n hx hb dX5_build_43 rfl (lv_at hl 1 rfl) ?_
            refine g_get (C := RX5) (T := TX5) (N := 4) hx hb hts hi5 hown hN hW.1 hk rfl (by decide) 1 (by decide) hfX5_17 (v := .ref row) g1 dX5_build_44 ?_
            refine lv_iload hx hb dX5_build_47 (lv_at hl 0 rfl) ?_
            refine g_aald (j := fr + L.length / 2) hx hb hN hW.1 hkr (by decide) (show _ = nI (fr + L.length / 2) from rfl) (by omega) (v := .ref y) hr2 dX5_build_49 ?_
            refine lv_astore (lv' := [(7, .ref y), (6, .int (nI (fr + (L.length / 2)))), (0, .ref T), (1, .int (nI fr)), (2, .int (nI (fr + L.length))), (3, .int (nI dep)), (4, .int (nI (dep % d))), (5, va_rf up)]) hx hb dX5_build_50 hl (by decide) rfl (fun ls hl => ?_)
            refine lv_aload hx hb dX5_build_52 (lv_at hl 0 rfl) ?_
            refine lv_ifnonnull (tgt := 59) hx hb dX5_build_54 (by decide) ?_
            refine lv_aload hx hb dX5_build_59 (lv_at hl 0 rfl) ?_
            refine g_aload (r := up) hx hb dX5_build_61 (lv_at hl 7 rfl) ?_
            refine g_put (C := RX2) (T := TX2) (N := 9) hx hb hts hi2 tyX2 tyX2_ok nmX2 hown hN hW hky rfl (by decide) 6 (by decide) hfX5_36 rfl (va_rf_nar _ _) (va_rf_fit _ _) dX5_build_63 (fun H locs hW => ?_)
            refine lv_aload hx hb dX5_build_66 (lv_at hl 0 rfl) ?_
            refine lv_iload_n hx hb dX5_build_68 rfl (lv_at hl 5 rfl) ?_
            refine g_put (C := RX2) (T := TX2) (N := 9) hx hb hts hi2 tyX2 tyX2_ok nmX2 hown hN hW hky rfl (by decide) 3 (by decide) hfX5_39 rfl rfl rfl dX5_build_69 (fun H locs hW => ?_)
            refine lv_aload hx hb dX5_build_72 (lv_at hl 0 rfl) ?_
            refine lv_iload hx hb dX5_build_74 (lv_at hl 6 rfl) ?_
            refine g_put (C := RX2) (T := TX2) (N := 9) hx hb hts hi2 tyX2 tyX2_ok nmX2 hown hN hW hky rfl (by decide) 4 (by decide) hfX5_42 rfl rfl rfl dX5_build_76 (fun H locs hW => ?_)
            refine lv_aload hx hb dX5_build_79 (lv_at hl 0 rfl) ?_
            refine lv_iload_n hx hb dX5_build_81 rfl (lv_at hl 4 rfl) ?_
            refine lv_iload_n hx hb dX5_build_82 rfl (lv_at hl 3 rfl) ?_
            refine lv_isub hx hb dX5_build_83 ?_
            refine g_asi (show _ = nI ((fr + L.length) - fr) from pk_sub (by omega)) ?_
            refine g_asi (show _ = nI L.length from by rw [Nat.add_sub_cancel_left]) ?_
            refine g_put (C := RX2) (T := TX2) (N := 9) hx hb hts hi2 tyX2 tyX2_ok nmX2 hown hN hW hky rfl (by decide) 5 (by decide) hfX5_29 rfl rfl rfl dX5_build_84 (fun H locs hW => ?_)
            refine lv_aload_n hx hb dX5_build_87 rfl (lv_at hl 2 rfl) ?_
            refine lv_iload hx hb dX5_build_88 (lv_at hl 6 rfl) ?_
            refine g_cV (v := (some (.int (nI ((dep % d + 1) % d))))) (As := [.int (nI (dep % d))]) (b := T) (rest := []) hx hb hml hown hts hN hW.1 (c_axisBehind l Γ K _ T d (dep % d) hk ((gU_k (by decide)).trans ((gU_k (by decide)).trans ((gU_k (by decide)).trans ((gU_k (by decide)).trans g0)))) (Nat.mod_lt _ hd1) hd4) gX5_build_X5_axisBehind rfl hk (by decide) rfl (na := 1) rfl (by decide +kernel) ⟨by simp only [gRm]; omega, by simp only [gRm]; omega⟩ ⟨Nat.zero_le _, Nat.zero_le _⟩ rfl hl.1 (Nat.le_of_ble_eq_true rfl) dX5_build_90 ?_
            show W _ _ _ _ _ _ _ _ _ _ _ _ _ _ _ (F0 m 93 ls [.int (nI ((dep % d + 1) % d))])
            refine g_asi (show _ = nI ((dep + 1) % d) from by rw [Nat.mod_add_mod]) ?_
            obtain ⟨F2, hF2⟩ : ∃ F2, F2 = (gU (gU (gU (gU F1 y 6 (va_rf up)) y 3 (.int (nI dep))) y 4 (.int (nI (dep % d)))) y 5 (.int (nI L.length))) := ⟨_, rfl⟩
            rw [← hF2] at hW
            have y3 : F2 y 3 = .int (nI dep) := by rw [hF2, gU_k (by decide), gU_k (by decide), gU_self]
            have y4 : F2 y 4 = .int (nI (dep % d)) := by rw [hF2, gU_k (by decide), gU_self]
            have y5 : F2 y 5 = .int (nI L.length) := by rw [hF2, gU_self]
            have y6 : F2 y 6 = va_rf up := by rw [hF2, gU_k (by decide), gU_k (by decide), gU_k (by decide), gU_self]
            have n2 : ∀ b j, ¬ (b = y ∧ 3 ≤ j) → F2 b j = F1 b j := fun b j hbj => by
              rw [hF2, gU_ne (fun z => hbj ⟨z.1, by omega⟩), gU_ne (fun z => hbj ⟨z.1, by omega⟩), gU_ne (fun z => hbj ⟨z.1, by omega⟩), gU_ne (fun z => hbj ⟨z.1, by omega⟩)]
            have nd2 : ∀ L', (∀ z ∈ L', z ∈ L) → NDs K F2 dt pl dd L' := fun L' h => NDs_congr (fun b j hbj => by
              have hb : b ≠ row := hbj.elim (fun q => kne q.1 hkr (by decide)) (fun q => kne q hkr (by decide))
              rw [n2 b j (fun z => hbj.elim (fun q => absurd z.2 (by omega)) (fun q => kne q hky (by decide) z.1)), hfr1 b j (fun z => hb z.1)]) (NDs_sub hND h)
            refine lv_istore (lv' := [(8, .int (nI ((dep + 1) % d))), (7, .ref y), (6, .int (nI (fr + (L.length / 2)))), (0, .ref T), (1, .int (nI fr)), (2, .int (nI (fr + L.length))), (3, .int (nI dep)), (4, .int (nI (dep % d))), (5, va_rf up)]) hx hb dX5_build_93 hl (by decide) rfl (fun ls hl => ?_)
            refine lv_aload hx hb dX5_build_95 (lv_at hl 1 rfl) ?_
            refine lv_aload_n hx hb dX5_build_97 rfl (lv_at hl 3 rfl) ?_
            refine lv_iload_n hx hb dX5_build_98 rfl (lv_at hl 4 rfl) ?_
            refine lv_iload hx hb dX5_build_99 (lv_at hl 2 rfl) ?_
            refine lv_iload_n hx hb dX5_build_101 rfl (lv_at hl 6 rfl) ?_
            refine lv_iconst (v := nI 1) hx hb dX5_build_102 (by decide) ?_
            refine lv_iadd hx hb dX5_build_103 ?_
            refine g_asi (show _ = nI (dep + 1) from (nI_add _ _).trans (by rfl)) ?_
            refine lv_iload hx hb dX5_build_104 (lv_at hl 0 rfl) ?_
            refine lv_aload hx hb dX5_build_106 (lv_at hl 1 rfl) ?_
            refine g_mV (As := [.int (nI fr), .int (nI (fr + (L.length / 2))), .int (nI (dep + 1)), .int (nI ((dep + 1) % d)), .ref y]) (b := T) (rest := [.ref y]) hx hb hml hown hts hN hW (by
                have q := ih F2 H.size L1 fr (dep + 1) (some y) (by omega) (by omega) (by omega) ((n2 T 0 (fun z => hyT z.1.symm)).trans g0) ((n2 T 1 (fun z => hyT z.1.symm)).trans g1) (hr1.keep (fun j _ _ => n2 row j (fun z => hnr y hyL z.1.symm))) (nd2 L1 (fun z hz => hmem z (Or.inl hz))) (List.nodup_append.mp hnS).1
                rw [hl1] at q
                exact q) gX5_build_X5_build rfl hk (by decide) rfl (na := 5) rfl (by decide +kernel) ⟨by simp only [gRm]; omega, by simp only [gRm]; omega⟩ ⟨Nat.le_of_ble_eq_true rfl, Nat.le_of_ble_eq_true rfl⟩ rfl hl.1 (Nat.le_of_ble_eq_true rfl) dX5_build_108 (fun v K' F3 H locs hp hW hsz' => ?_)
            obtain ⟨rfl, hK9, hC1, hfr3⟩ := hp
            subst K'
            show W _ _ _ _ _ _ _ _ _ _ _ _ _ _ _ (F0 m 111 ls [va_rf (tRt (bldG (ltA dt) d N (dep + 1) L1)), .ref y])
            refine g_put (C := RX2) (T := TX2) (N := 9) hx hb hts hi2 tyX2 tyX2_ok nmX2 hown hN hW hky rfl (by decide) 7 (by decide) hfX5_53 rfl (va_rf_nar _ _) (va_rf_fit _ _) dX5_build_111 (fun H locs hW => ?_)
            refine lv_aload hx hb dX5_build_114 (lv_at hl 1 rfl) ?_
            refine lv_aload_n hx hb dX5_build_116 rfl (lv_at hl 3 rfl) ?_
            refine lv_iload hx hb dX5_build_117 (lv_at hl 2 rfl) ?_
            refine lv_iconst (v := nI 1) hx hb dX5_build_119 (by decide) ?_
            refine lv_iadd hx hb dX5_build_120 ?_
            refine g_asi (show _ = nI ((fr + (L.length / 2)) + 1) from (nI_add _ _).trans (by rfl)) ?_
            refine lv_iload_n hx hb dX5_build_121 rfl (lv_at hl 5 rfl) ?_
            refine lv_iload_n hx hb dX5_build_122 rfl (lv_at hl 6 rfl) ?_
            refine lv_iconst (v := nI 1) hx hb dX5_build_123 (by decide) ?_
            refine lv_iadd hx hb dX5_build_124 ?_
            refine g_asi (show _ = nI (dep + 1) from (nI_add _ _).trans (by rfl)) ?_
            refine lv_iload hx hb dX5_build_125 (lv_at hl 0 rfl) ?_
            refine lv_aload hx hb dX5_build_127 (lv_at hl 1 rfl) ?_
            have n3 : ∀ b j, ¬ (b = row ∧ fr ≤ j ∧ j < fr + L.length / 2) → ¬ (b ∈ L1 ∧ 3 ≤ j) → F3 b j = F2 b j := hfr3
            obtain ⟨F4, hF4⟩ : ∃ F4, F4 = (gU F3 y 7 (va_rf (tRt (bldG (ltA dt) d N (dep + 1) L1)))) := ⟨_, rfl⟩
            rw [← hF4] at hW
            have n4 : ∀ b j, ¬ (b = y ∧ j = 7) → F4 b j = F3 b j := fun b j h => by rw [hF4, gU_ne h]
            have hTL1 : ∀ j, F4 T j = F1 T j := fun j => by rw [n4 T j (fun z => hyT z.1.symm), n3 T j (fun z => hrT z.1) (fun z => hTL (hmem T (Or.inl z.1))), n2 T j (fun z => hyT z.1.symm)]
            have nd4 : NDs K F4 dt pl dd ys := NDs_congr (fun b j hbj => by
              have hb : b ≠ row := hbj.elim (fun q => kne q.1 hkr (by decide)) (fun q => kne q hkr (by decide))
              rw [n4 b j (fun z => hbj.elim (fun q => absurd z.2 (by omega)) (fun q => kne q hky (by decide) z.1)), n3 b j (fun z => hb z.1) (fun z => hbj.elim (fun q => absurd z.2 (by omega)) (fun q => kne (hND b (hmem b (Or.inl z.1))).1.1 q (by decide) rfl))]) (nd2 ys (fun z hz => hmem z (Or.inr (Or.inr hz))))
            have hto : fr + L.length = fr + L.length / 2 + 1 + ys.length := by omega
            refine g_mV (As := [.int (nI ((fr + (L.length / 2)) + 1)), .int (nI (fr + L.length)), .int (nI (dep + 1)), .int (nI ((dep + 1) % d)), .ref y]) (b := T) (rest := [.ref y]) hx hb hml hown hts hN hW (by
                have q := ih F4 H.size ys (fr + L.length / 2 + 1) (dep + 1) (some y) (by omega) (by omega) (by omega) ((hTL1 0).trans g0) ((hTL1 1).trans g1) (hr3.keep (fun j h1 h2 => by rw [n4 row j (fun z => hnr y hyL z.1.symm), n3 row j (fun z => by omega) (fun z => hnr row (hmem row (Or.inl z.1)) rfl), n2 row j (fun z => hnr y hyL z.1.symm)])) nd4 (List.nodup_cons.mp (List.nodup_append.mp hnS).2.1).2
                rw [← hto] at q
                exact q) gX5_build_X5_build rfl hk (by decide) rfl (na := 5) rfl (by decide +kernel) ⟨by simp only [gRm]; omega, by simp only [gRm]; omega⟩ ⟨Nat.le_of_ble_eq_true rfl, Nat.le_of_ble_eq_true rfl⟩ rfl hl.1 (Nat.le_of_ble_eq_true rfl) dX5_build_129 (fun v K' F5 H locs hp hW hsz' => ?_)
            obtain ⟨rfl, hK9, hC2, hfr5⟩ := hp
            subst K'
            show W _ _ _ _ _ _ _ _ _ _ _ _ _ _ _ (F0 m 132 ls [va_rf (tRt (bldG (ltA dt) d N (dep + 1) ys)), .ref y])
            refine g_put (C := RX2) (T := TX2) (N := 9) hx hb hts hi2 tyX2 tyX2_ok nmX2 hown hN hW hky rfl (by decide) 8 (by decide) hfX5_56 rfl (va_rf_nar _ _) (va_rf_fit _ _) dX5_build_132 (fun H locs hW => ?_)
            refine lv_aload hx hb dX5_build_135 (lv_at hl 1 rfl) ?_
            have n5 : ∀ b j, ¬ (b = row ∧ fr + L.length / 2 + 1 ≤ j ∧ j < fr + L.length) → ¬ (b ∈ ys ∧ 3 ≤ j) → F5 b j = F4 b j := fun b j h1 h2 => hfr5 b j (fun z => h1 ⟨z.1, z.2.1, by omega⟩) h2
            obtain ⟨F6, hF6⟩ : ∃ F6, F6 = (gU F5 y 8 (va_rf (tRt (bldG (ltA dt) d N (dep + 1) ys)))) := ⟨_, rfl⟩
            rw [← hF6] at hW
            have n6 : ∀ b j, ¬ (b = y ∧ j = 8) → F6 b j = F5 b j := fun b j h => by rw [hF6, gU_ne h]
            have yk : ∀ j, j ≠ 7 → j ≠ 8 → F6 y j = F2 y j := fun j h7 h8 => by rw [n6 y j (fun z => h8 z.2), n5 y j (fun z => hnr y hyL z.1) (fun z => hy2 z.1), n4 y j (fun z => h7 z.2), n3 y j (fun z => hnr y hyL z.1) (fun z => hy1 z.1)]
            have y7 : F6 y 7 = va_rf (tRt (bldG (ltA dt) d N (dep + 1) L1)) := by rw [n6 y 7 (fun z => absurd z.2 (by decide)), n5 y 7 (fun z => hnr y hyL z.1) (fun z => hy2 z.1), hF4, gU_self]
            have y8 : F6 y 8 = va_rf (tRt (bldG (ltA dt) d N (dep + 1) ys)) := by rw [hF6, gU_self]
            have hb : bldG (ltA dt) d (N + 1) dep L = tN (bldG (ltA dt) d N (dep + 1) L1) y (bldG (ltA dt) d N (dep + 1) ys) := by
              rw [bldG_cons (y := y) (ys := ys) (by rw [hSe]; exact hdr), hSe, hL1]
            have b1 := bldG_perm (ltA dt) d N (dep + 1) L1 (by omega)
            have b2 := bldG_perm (ltA dt) d N (dep + 1) ys (by omega)
            exact hret (some (va_rf (some y))) _ _ _ _ _ _ hW (by
                rw [hb]
                refine ⟨rfl, rfl, ⟨(yk 3 (by decide) (by decide)).trans y3, (yk 4 (by decide) (by decide)).trans y4, ?_, (yk 6 (by decide) (by decide)).trans y6, y7, y8, ?_, ?_⟩, ?_⟩
                · rw [yk 5 (by decide) (by decide), y5, bldG_sz _ _ _ _ _ (by omega), bldG_sz _ _ _ _ _ (by omega), hl1]
                  congr 2
                  omega
                · refine CT_congr (fun a ha k _ => ?_) hC1
                  have ha := b1.mem_iff.mp ha
                  have hay : a ≠ y := fun z => hy1 (z ▸ ha)
                  rw [n6 a k (fun z => hay z.1), n5 a k (fun z => hnr a (hmem a (Or.inl ha)) z.1) (fun z => hdis a ha z.1), n4 a k (fun z => hay z.1)]
                · refine CT_congr (fun a ha k _ => ?_) hC2
                  have ha := b2.mem_iff.mp ha
                  rw [n6 a k (fun z => hy2 (z.1 ▸ ha))]
                · intro b j h1 h2
                  rw [n6 b j (fun z => h2 ⟨z.1 ▸ hyL, by omega⟩), n5 b j (fun z => h1 ⟨z.1, by omega, by omega⟩) (fun z => h2 ⟨hmem b (Or.inr (Or.inr z.1)), z.2⟩), n4 b j (fun z => h2 ⟨z.1 ▸ hyL, by omega⟩), n3 b j (fun z => h1 ⟨z.1, by omega, by omega⟩) (fun z => h2 ⟨hmem b (Or.inl z.1), z.2⟩), n2 b j (fun z => h2 ⟨z.1 ▸ hyL, z.2⟩), hfr1 b j h1]) (rt_a dX5_build_137)
          · have c4 : 120 ≤ dep := Nat.not_lt.mp (fun z => c4 ((nI_ltI (by omega) (by omega)).mpr z))
            exact absurd c4 (by omega)
