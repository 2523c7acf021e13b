def tDp {α : Type} : TT α → Nat → List Nat
  | .leaf, _ => []
  | .inner _ _ _ l r, dep => dep :: (tDp l (dep + 1) ++ tDp r (dep + 1))
def lvls (D : List Nat) : Nat := D.foldl (fun m x => max m (x + 1)) 0
theorem tDp_len {α : Type} (t : TT α) : ∀ dep, (tDp t dep).length = tSz t := by
  induction t with
  | leaf => intro _; rfl
  | inner s x v l r ihl ihr => intro dep; simp only [tDp, tSz, List.length_cons, List.length_append, ihl, ihr]
theorem tDp_map {α β : Type} (f : α → β) (t : TT α) : ∀ dep, tDp (tMap f t) dep = tDp t dep := by
  induction t with
  | leaf => intro _; rfl
  | inner s x v l r ihl ihr => intro dep; simp only [tDp, tMap, ihl, ihr]
theorem CT_dep {F : gF} {d : Nat} : ∀ {t : TT Nat} {up : Option Nat} {dep k a : Nat}, CT F d t up dep → (tPre t)[k]? = some a → ∃ x, (tDp t dep)[k]? = some x ∧ F a 3 = .int (nI x) ∧ x < dep + tSz t := by
  intro t
  induction t with
  | leaf => intro _ _ _ _ _ h; simp [tPre] at h
  | inner s b v l r ihl ihr =>
    intro up dep k a H h
    obtain ⟨h1, h2, h3, h4, h5, h6, h7, h8⟩ := H
    cases k with
    | zero => simp [tPre] at h; subst h; exact ⟨dep, rfl, h1, by simp only [tSz]; omega⟩
    | succ k =>
      have h : (tPre l ++ tPre r)[k]? = some a := h
      show ∃ x, (tDp l (dep + 1) ++ tDp r (dep + 1))[k]? = some x ∧ _
      simp only [tSz]
      rcases Nat.lt_or_ge k (tSz l) with q | q
      · rw [List.getElem?_append_left (by rw [tPre_len]; exact q)] at h
        obtain ⟨x, e1, e2, e3⟩ := ihl h7 h
        exact ⟨x, by rw [List.getElem?_append_left (by rw [tDp_len]; exact q)]; exact e1, e2, by omega⟩
      · rw [List.getElem?_append_right (by rw [tPre_len]; exact q), tPre_len] at h
        obtain ⟨x, e1, e2, e3⟩ := ihr h8 h
        exact ⟨x, by rw [List.getElem?_append_right (by rw [tDp_len]; exact q), tDp_len]; exact e1, e2, by omega⟩
theorem take_snoc {α : Type} {L : List α} {k : Nat} {x : α} (h : L[k]? = some x) : L.take (k + 1) = L.take k ++ [x] := by
  rw [List.take_succ, h]; rfl

set_option maxHeartbeats 4000000 in
set_option maxRecDepth 100000 in
theorem c_levels (l : Launch) (Γ : gG) (K : gK) (F : gF) (T d : Nat) (t : TT Nat) (hk : K T = some (5, 0)) (h2 : F T 2 = va_rf (tRt t)) (hC : CT F d t none 0) (hnk : ∀ a ∈ tPre t, K a = some (2, 0)) (hs : tSz t ≤ 1000) : gMR l yX5_levels wsX5_levels 2 Γ K F [.ref T] (some (.int (nI (lvls (tDp t 0))))) := by
  refine g_mR (cc := cX5_levels) (maxL := 5) (ret := (some .int)) (by decide) rfl (Nat.le_of_ble_eq_true rfl) ?_
  intro p e s m args below meth c ls Z hx hb hts hown hml hN hP hret hl
  have hl : lv_has ls 5 [(0, .ref T)] := hl
  have hown : s.vm.findClass RX5 = some m.cls := hown
  have hi2 : ∀ w ∈ wsX20, w ∈ wsX5_levels := by decide +kernel
  have hi5 : ∀ w ∈ wsX50, w ∈ wsX5_levels := by decide +kernel
  have hfX5_21 : Cond.fieldLink RX5 21 (TX5 2).1 (TX5 2).2.1 (TX5 2).2.2.1 ∈ wsX5_levels := by decide +kernel
  have hfX5_39 : Cond.fieldLink RX5 39 (TX2 3).1 (TX2 3).2.1 (TX2 3).2.2.1 ∈ wsX5_levels := by decide +kernel
  have loop : ∀ (j k lev : Nat) (ls : Array Slot), k + j = tSz t → lev = lvls ((tDp t 0).take k) → lev < 2 ^ 20 → lv_has ls 5 [(3, .int (nI k)), (2, .int (nI (tSz t))), (1, .int (nI lev)), (0, .ref T)] → W p l e (gRm 2 0 0) s m args below meth c s.heap [] 0 0 Z (F0 m 9 ls []) := by
    intro j
    induction j with
    | zero =>
      intro k lev ls hj hlev hb20 hl
      refine lv_iload_n hx hb dX5_levels_9 rfl (lv_at hl 0 rfl) ?_
      refine lv_iload_n hx hb dX5_levels_10 rfl (lv_at hl 1 rfl) ?_
      refine lv_icmp_ge (tgt := 47) hx hb dX5_levels_11 (by decide) (fun c1 => ?_) (fun c1 => ?_)
      · have c1 : (tSz t) ≤ k := (nI_leI (by omega) (by omega)).mp c1
        refine lv_iload_n hx hb dX5_levels_47 rfl (lv_at hl 2 rfl) ?_
        exact hret (some (.int (nI lev))) _ _ (by rw [hlev, List.take_of_length_le (by rw [tDp_len]; omega)]) (rt_i dX5_levels_48)
      · have c1 : k < (tSz t) := Nat.not_le.mp (fun z => c1 ((nI_leI (by omega) (by omega)).mpr z))
        exact absurd c1 (by omega)
    | succ j ih =>
      intro k lev ls hj hlev hb20 hl
      refine lv_iload_n hx hb dX5_levels_9 rfl (lv_at hl 0 rfl) ?_
      refine lv_iload_n hx hb dX5_levels_10 rfl (lv_at hl 1 rfl) ?_
      refine lv_icmp_ge (tgt := 47) hx hb dX5_levels_11 (by decide) (fun c1 => ?_) (fun c1 => ?_)
      · have c1 : (tSz t) ≤ k := (nI_leI (by omega) (by omega)).mp c1
        exact absurd c1 (by omega)
      · have c1 : k < (tSz t) := Nat.not_le.mp (fun z => c1 ((nI_leI (by omega) (by omega)).mpr z))
        obtain ⟨a, ha⟩ : ∃ a, (tPre t)[k]? = some a := ⟨_, List.getElem?_eq_getElem (by rw [tPre_len]; exact c1)⟩
        obtain ⟨x, e1, e2, e3⟩ := CT_dep hC ha
        have hka := hnk a (List.mem_of_getElem? ha)
        refine lv_aload_n hx hb dX5_levels_14 rfl (lv_at hl 3 rfl) ?_
        refine g_get (C := RX5) (T := TX5) (N := 4) hx hb hts hi5 hown hN hP hk rfl (by decide) 2 (by decide) hfX5_21 (v := va_rf (tRt t)) h2 dX5_levels_15 ?_
        refine lv_iload_n hx hb dX5_levels_18 rfl (lv_at hl 0 rfl) ?_
        refine g_cS (v := (some (.ref a))) (As := [va_rf (tRt t), .int (nI k)]) (rest := []) hx hb hml hown hts hN hP (c_nodeOnWalk l Γ K F (tRt t) t d none 0 k (some a) rfl hC hnk hs (by omega) ha) gX5_levels_X5_nodeOnWalk rfl (na := 2) rfl (by decide +kernel) ⟨by decide, by decide⟩ ⟨Nat.zero_le _, Nat.zero_le _⟩ rfl hl.1 (Nat.le_of_ble_eq_true rfl) dX5_levels_19 ?_
        show W _ _ _ _ _ _ _ _ _ _ _ _ _ _ _ (F0 m 22 ls [.ref a])
        refine lv_astore (lv' := [(4, .ref a), (3, .int (nI k)), (2, .int (nI (tSz t))), (1, .int (nI lev)), (0, .ref T)]) hx hb dX5_levels_22 hl (by decide) rfl (fun ls hl => ?_)
        refine lv_aload hx hb dX5_levels_24 (lv_at hl 0 rfl) ?_
        refine lv_ifnull hx hb dX5_levels_26 ?_
        refine lv_iload_n hx hb dX5_levels_29 rfl (lv_at hl 3 rfl) ?_
        refine lv_aload hx hb dX5_levels_30 (lv_at hl 0 rfl) ?_
        refine g_get (C := RX2) (T := TX2) (N := 9) hx hb hts hi2 hown hN hP hka rfl (by decide) 3 (by decide) hfX5_39 (v := .int (nI x)) e2 dX5_levels_32 ?_
        refine lv_iconst (v := nI 1) hx hb dX5_levels_35 (by decide) ?_
        refine lv_iadd hx hb dX5_levels_36 ?_
        refine g_asi (show _ = nI (x + 1) from (nI_add _ _).trans (by rfl)) ?_
        refine va_mmax hx hb (hml.trans hl.1.symm) hown (hts _ (show Cond.methodLink RX5 93 Lib.Math.max.name ∈ _ by decide +kernel)) (hts _ (by decide +kernel)) (hts _ (by decide +kernel)) (hts _ (by decide +kernel)) (by decide) (Nat.le_of_ble_eq_true rfl) (Nat.zero_le _) (Nat.zero_le _) dX5_levels_37 ?_
        refine g_asi (show _ = nI (max lev (x + 1)) from mx_max (by omega) (by omega)) ?_
        refine lv_istore_n (lv' := [(1, .int (nI (max lev (x + 1)))), (4, .ref a), (3, .int (nI k)), (2, .int (nI (tSz t))), (0, .ref T)]) hx hb dX5_levels_40 rfl hl (by decide) rfl (fun ls hl => ?_)
        refine lv_iinc (v := nI (k + 1)) (lv' := [(3, .int (nI (k + 1))), (1, .int (nI (max lev (x + 1)))), (4, .ref a), (2, .int (nI (tSz t))), (0, .ref T)]) hx hb dX5_levels_41 hl (k := 2) rfl (inc1 _) (by decide) rfl (fun ls hl => ?_)
        refine lv_goto (tgt := 9) hx hb dX5_levels_44 (by decide) ?_
        exact ih (k + 1) _ ls (by omega) (by rw [take_snoc e1, hlev]; simp [lvls, List.foldl_append]) (by omega) (lv_sub hl [0, 3, 1, 4] rfl)
  refine lv_iconst (v := nI 0) hx hb dX5_levels_0 (by decide) ?_
  refine lv_istore_n (lv' := [(1, .int (nI 0)), (0, .ref T)]) hx hb dX5_levels_1 rfl hl (by decide) rfl (fun ls hl => ?_)
  refine lv_aload_n hx hb dX5_levels_2 rfl (lv_at hl 1 rfl) ?_
  refine g_cV (v := (some (.int (nI (tSz t))))) (As := []) (b := T) (rest := []) hx hb hml hown hts hN hP (c_nodeCount l Γ K F T d t hk h2 hC hnk) gX5_levels_X5_nodeCount rfl hk (by decide) rfl (na := 0) rfl (by decide +kernel) ⟨by decide, by decide⟩ ⟨Nat.zero_le _, Nat.zero_le _⟩ rfl hl.1 (Nat.le_of_ble_eq_true rfl) dX5_levels_3 ?_
  show W _ _ _ _ _ _ _ _ _ _ _ _ _ _ _ (F0 m 6 ls [.int (nI (tSz t))])
  refine lv_istore_n (lv' := [(2, .int (nI (tSz t))), (1, .int (nI 0)), (0, .ref T)]) hx hb dX5_levels_6 rfl hl (by decide) rfl (fun ls hl => ?_)
  refine lv_iconst (v := nI 0) hx hb dX5_levels_7 (by decide) ?_
  refine lv_istore_n (lv' := [(3, .int (nI 0)), (2, .int (nI (tSz t))), (1, .int (nI 0)), (0, .ref T)]) hx hb dX5_levels_8 rfl hl (by decide) rfl (fun ls hl => ?_)
  exact loop (tSz t) 0 0 ls (by omega) rfl (by omega) (lv_sub hl [0, 1, 2, 3] rfl)

def alv (dd : Nat → Bool) (L : List Nat) : List Nat := L.filter (fun a => !dd a)
def vRf (a : Nat) : Value := .ref a
theorem alv_snoc_t {dd : Nat → Bool} {L : List Nat} {a : Nat} (h : dd a = true) : alv dd (L ++ [a]) = alv dd L := by simp [alv, List.filter_append, h]
theorem alv_snoc_f {dd : Nat → Bool} {L : List Nat} {a : Nat} (h : dd a = false) : alv dd (L ++ [a]) = alv dd L ++ [a] := by simp [alv, List.filter_append, h]
theorem alv_full {dd : Nat → Bool} {L : List Nat} {k : Nat} (h : (alv dd L).length ≤ (alv dd (L.take k)).length) : alv dd (L.take k) = alv dd L := by
  have e : alv dd L = alv dd (L.take k) ++ alv dd (L.drop k) := by
    unfold alv
    rw [← List.filter_append, List.take_append_drop]
  rw [e, List.length_append] at h
  rw [e, List.length_eq_zero_iff.mp (show (alv dd (L.drop k)).length = 0 by omega), List.append_nil]
theorem alv_le {dd : Nat → Bool} {L : List Nat} {k : Nat} : (alv dd (L.take k)).length ≤ (alv dd L).length := by
  have e : alv dd L = alv dd (L.take k) ++ alv dd (L.drop k) := by
    unfold alv
    rw [← List.filter_append, List.take_append_drop]
  rw [e, List.length_append]
  omega

set_option maxHeartbeats 4000000 in
set_option maxRecDepth 100000 in
theorem c_gatherLive (l : Launch) (Γ : gG) (K : gK) (F : gF) (sz : Nat) (T fr row d : Nat) (t : TT Nat) (up : Option Nat) (dep : Nat) (dt : Nat → gPt) (pl : Nat → Nat) (dd : Nat → Bool) (hk : K T = some (5, 0)) (hkf : K fr = some (2, 0)) (hkr : K row = some (11, 60)) (h1 : F T 1 = .ref row) (hC : CT F d t up dep) (hfrt : tRt t = some fr) (hND : NDs K F dt pl dd (tPre t)) (hs : tSz t ≤ 1000) (h60 : (alv dd (tPre t)).length ≤ 60) : gMM l yX5_gatherLive wsX5_gatherLive 2 0 0 Γ K F sz [.ref T, .ref fr] (fun v K' F' => v = some (.int (nI (alv dd (tPre t)).length)) ∧ K' = K ∧ rowL F' row 0 ((alv dd (tPre t)).map vRf) ∧ ∀ b i, b ≠ row → F' b i = F b i) := by
  refine g_mM (cc := cX5_gatherLive) (maxL := 5) (ret := (some .int)) (by decide) rfl (Nat.le_of_ble_eq_true rfl) ?_
  intro p e s m args below meth c ls Z hsz hx hb hts hown hml hnm hN hW hret hl
  have hl : lv_has ls 5 [(0, .ref T), (1, .ref fr)] := hl
  have hown : s.vm.findClass RX5 = some m.cls := hown
  have hi2 : ∀ w ∈ wsX20, w ∈ wsX5_gatherLive := by decide +kernel
  have hi5 : ∀ w ∈ wsX50, w ∈ wsX5_gatherLive := by decide +kernel
  have hfX5_17 : Cond.fieldLink RX5 17 (TX5 1).1 (TX5 1).2.1 (TX5 1).2.2.1 ∈ wsX5_gatherLive := by decide +kernel
  have hfX5_29 : Cond.fieldLink RX5 29 (TX2 5).1 (TX2 5).2.1 (TX2 5).2.2.1 ∈ wsX5_gatherLive := by decide +kernel
  have hfX5_77 : Cond.fieldLink RX5 77 (TX2 2).1 (TX2 2).2.1 (TX2 2).2.2.1 ∈ wsX5_gatherLive := by decide +kernel
  have loop : ∀ (j k n : Nat) (F1 : gF) (H : Heap) (locs : List Loc) (ls : Array Slot), k + j = tSz t → n = (alv dd ((tPre t).take k)).length → rowL F1 row 0 ((alv dd ((tPre t).take k)).map vRf) → (∀ b i, b ≠ row → F1 b i = F b i) → gW Γ (gA K sz) s.heap K F1 H locs → lv_has ls 5 [(3, .int (nI k)), (2, .int (nI n)), (0, .ref T), (1, .ref fr)] → W p l e (gRm 2 0 0) s m args below meth c H locs 0 0 Z (F0 m 4 ls []) := by
    intro j
    induction j with
    | zero =>
      intro k n F1 H locs ls hj hn hrow hfr hW hl
      have hn60 : n ≤ 60 := hn ▸ Nat.le_trans alv_le h60
      have f1 : F1 fr 5 = .int (nI (tSz t)) := (hfr fr 5 (kne hkf hkr (by decide))).trans (CT_root hC hfrt)
      have f2 : F1 T 1 = .ref row := (hfr T 1 (kne hk hkr (by decide))).trans h1
      refine lv_iload_n hx hb dX5_gatherLive_4 rfl (lv_at hl 0 rfl) ?_
      refine lv_aload_n hx hb dX5_gatherLive_5 rfl (lv_at hl 3 rfl) ?_
      refine g_get (C := RX2) (T := TX2) (N := 9) hx hb hts hi2 hown hN hW.1 hkf rfl (by decide) 5 (by decide) hfX5_29 (v := .int (nI (tSz t))) f1 dX5_gatherLive_6 ?_
      refine lv_icmp_ge (tgt := 58) hx hb dX5_gatherLive_9 (by decide) (fun c1 => ?_) (fun c1 => ?_)
      · have c1 : (tSz t) ≤ k := (nI_leI (by omega) (by omega)).mp c1
        refine lv_iload_n hx hb dX5_gatherLive_58 rfl (lv_at hl 1 rfl) ?_
        exact hret (some (.int (nI n))) _ _ _ _ _ _ hW (⟨by rw [hn, List.take_of_length_le (by rw [tPre_len]; omega)], rfl, by rw [List.take_of_length_le (by rw [tPre_len]; omega)] at hrow; exact hrow, hfr⟩) (rt_i dX5_gatherLive_59)
      · have c1 : k < (tSz t) := Nat.not_le.mp (fun z => c1 ((nI_leI (by omega) (by omega)).mpr z))
        exact absurd c1 (by omega)
    | succ j ih =>
      intro k n F1 H locs ls hj hn hrow hfr hW hl
      have hn60 : n ≤ 60 := hn ▸ Nat.le_trans alv_le h60
      have f1 : F1 fr 5 = .int (nI (tSz t)) := (hfr fr 5 (kne hkf hkr (by decide))).trans (CT_root hC hfrt)
      have f2 : F1 T 1 = .ref row := (hfr T 1 (kne hk hkr (by decide))).trans h1
      refine lv_iload_n hx hb dX5_gatherLive_4 rfl (lv_at hl 0 rfl) ?_
      refine lv_aload_n hx hb dX5_gatherLive_5 rfl (lv_at hl 3 rfl) ?_
      refine g_get (C := RX2) (T := TX2) (N := 9) hx hb hts hi2 hown hN hW.1 hkf rfl (by decide) 5 (by decide) hfX5_29 (v := .int (nI (tSz t))) f1 dX5_gatherLive_6 ?_
      refine lv_icmp_ge (tgt := 58) hx hb dX5_gatherLive_9 (by decide) (fun c1 => ?_) (fun c1 => ?_)
      · have c1 : (tSz t) ≤ k := (nI_leI (by omega) (by omega)).mp c1
        exact absurd c1 (by omega)
      · have c1 : k < (tSz t) := Nat.not_le.mp (fun z => c1 ((nI_leI (by omega) (by omega)).mpr z))
        refine lv_iload_n hx hb dX5_gatherLive_12 rfl (lv_at hl 1 rfl) ?_
        refine lv_aload_n hx hb dX5_gatherLive_13 rfl (lv_at hl 2 rfl) ?_
        refine g_get (C := RX5) (T := TX5) (N := 4) hx hb hts hi5 hown hN hW.1 hk rfl (by decide) 1 (by decide) hfX5_17 (v := .ref row) f2 dX5_gatherLive_14 ?_
        refine g_alen (t := 3) hx hb hN hW.1 hkr rfl dX5_gatherLive_17 ?_
        refine lv_icmp_ge (tgt := 58) hx hb dX5_gatherLive_18 (by decide) (fun c2 => ?_) (fun c2 => ?_)
        · have c2 : 60 ≤ n := (nI_leI (by omega) (by omega)).mp c2
          have e := alv_full (show (alv dd (tPre t)).length ≤ (alv dd ((tPre t).take k)).length by omega)
          refine lv_iload_n hx hb dX5_gatherLive_58 rfl (lv_at hl 1 rfl) ?_
          exact hret (some (.int (nI n))) _ _ _ _ _ _ hW (⟨by rw [hn, e], rfl, by rw [e] at hrow; exact hrow, hfr⟩) (rt_i dX5_gatherLive_59)
        · have c2 : n < 60 := Nat.not_le.mp (fun z => c2 ((nI_leI (by omega) (by omega)).mpr z))
          obtain ⟨a, ha⟩ : ∃ a, (tPre t)[k]? = some a := ⟨_, List.getElem?_eq_getElem (by rw [tPre_len]; exact c1)⟩
          have hka := (hND a (List.mem_of_getElem? ha)).1.1
          have f3 : F1 a 2 = .int (bI (dd a)) := (hfr a 2 (kne hka hkr (by decide))).trans (hND a (List.mem_of_getElem? ha)).2
          have hC1 : CT F1 d t up dep := CT_congr (fun b hb k _ => hfr b k (kne (hND b hb).1.1 hkr (by decide))) hC
          refine lv_aload_n hx hb dX5_gatherLive_21 rfl (lv_at hl 3 rfl) ?_
          refine lv_iload_n hx hb dX5_gatherLive_22 rfl (lv_at hl 0 rfl) ?_
          refine g_cS (v := (some (.ref a))) (As := [.ref fr, .int (nI k)]) (rest := []) hx hb hml hown hts hN hW.1 (c_nodeOnWalk l Γ K F1 (some fr) t d up dep k (some a) hfrt.symm hC1 (fun b hb => (hND b hb).1.1) hs (by omega) ha) gX5_gatherLive_X5_nodeOnWalk rfl (na := 2) rfl (by decide +kernel) ⟨by decide, by decide⟩ ⟨Nat.zero_le _, Nat.zero_le _⟩ rfl hl.1 (Nat.le_of_ble_eq_true rfl) dX5_gatherLive_23 ?_
          show W _ _ _ _ _ _ _ _ _ _ _ _ _ _ _ (F0 m 26 ls [.ref a])
          refine lv_astore (lv' := [(4, .ref a), (3, .int (nI k)), (2, .int (nI n)), (0, .ref T), (1, .ref fr)]) hx hb dX5_gatherLive_26 hl (by decide) rfl (fun ls hl => ?_)
          refine lv_aload hx hb dX5_gatherLive_28 (lv_at hl 0 rfl) ?_
          refine lv_ifnull hx hb dX5_gatherLive_30 ?_
          refine lv_aload hx hb dX5_gatherLive_33 (lv_at hl 0 rfl) ?_
          refine g_get (C := RX2) (T := TX2) (N := 9) hx hb hts hi2 hown hN hW.1 hka rfl (by decide) 2 (by decide) hfX5_77 (v := .int (bI (dd a))) f3 dX5_gatherLive_35 ?_
          refine lv_if_ne (tgt := 52) hx hb dX5_gatherLive_38 (by decide) (fun c3 => ?_) (fun c3 => ?_)
          · have c3 : (dd a) = true := bI_n0.mp c3
            refine lv_iinc (v := nI (k + 1)) (lv' := [(3, .int (nI (k + 1))), (4, .ref a), (2, .int (nI n)), (0, .ref T), (1, .ref fr)]) hx hb dX5_gatherLive_52 hl (k := 1) rfl (inc1 _) (by decide) rfl (fun ls hl => ?_)
            refine lv_goto (tgt := 4) hx hb dX5_gatherLive_55 (by decide) ?_
            exact ih (k + 1) n F1 H locs ls (by omega) (by rw [take_snoc ha, alv_snoc_t c3, hn]) (by rw [take_snoc ha, alv_snoc_t c3]; exact hrow) hfr hW (lv_sub hl [0, 2, 3, 4] rfl)
          · have c3 : (dd a) = false := bI_0.mp c3
            refine lv_aload_n hx hb dX5_gatherLive_41 rfl (lv_at hl 3 rfl) ?_
            refine g_get (C := RX5) (T := TX5) (N := 4) hx hb hts hi5 hown hN hW.1 hk rfl (by decide) 1 (by decide) hfX5_17 (v := .ref row) f2 dX5_gatherLive_42 ?_
            refine lv_iload_n hx hb dX5_gatherLive_45 rfl (lv_at hl 2 rfl) ?_
            refine lv_aload hx hb dX5_gatherLive_46 (lv_at hl 0 rfl) ?_
            refine g_aast (j := n) hx hb hN hW hkr (by decide) hka (show _ = nI n from rfl) (by omega) dX5_gatherLive_48 (fun H locs hW => ?_)
            refine lv_iinc (v := nI (n + 1)) (lv' := [(2, .int (nI (n + 1))), (4, .ref a), (3, .int (nI k)), (0, .ref T), (1, .ref fr)]) hx hb dX5_gatherLive_49 hl (k := 2) rfl (inc1 _) (by decide) rfl (fun ls hl => ?_)
            refine lv_iinc (v := nI (k + 1)) (lv' := [(3, .int (nI (k + 1))), (2, .int (nI (n + 1))), (4, .ref a), (0, .ref T), (1, .ref fr)]) hx hb dX5_gatherLive_52 hl (k := 2) rfl (inc1 _) (by decide) rfl (fun ls hl => ?_)
            refine lv_goto (tgt := 4) hx hb dX5_gatherLive_55 (by decide) ?_
            have q := rowL.fill (v := vRf a) hrow (Q := []) rowL.nil
            rw [List.length_map, ← hn, Nat.zero_add] at q
            exact ih (k + 1) (n + 1) _ H locs ls (by omega) (by rw [take_snoc ha, alv_snoc_f c3, hn, List.length_append]; rfl) (by rw [take_snoc ha, alv_snoc_f c3, List.map_append]; exact q) (fun b i hb => by rw [gU_a hb]; exact hfr b i hb) hW (lv_sub hl [0, 1, 3, 4] rfl)
  refine lv_iconst (v := nI 0) hx hb dX5_gatherLive_0 (by decide) ?_
  refine lv_istore_n (lv' := [(2, .int (nI 0)), (0, .ref T), (1, .ref fr)]) hx hb dX5_gatherLive_1 rfl hl (by decide) rfl (fun ls hl => ?_)
  refine lv_iconst (v := nI 0) hx hb dX5_gatherLive_2 (by decide) ?_
  refine lv_istore_n (lv' := [(3, .int (nI 0)), (2, .int (nI 0)), (0, .ref T), (1, .ref fr)]) hx hb dX5_gatherLive_3 rfl hl (by decide) rfl (fun ls hl => ?_)
  exact loop (tSz t) 0 0 F _ _ ls (by omega) rfl rowL.nil (fun _ _ _ => rfl) hW (lv_sub hl [0, 1, 2, 3] rfl)
