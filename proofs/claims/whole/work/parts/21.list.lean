def lAhead (x y : Nat × Int64) : Bool := decide (x.2 < y.2 ∨ (x.2 = y.2 ∧ x.1 < y.1))
def vId (x : Nat × Int64) : Value := .int (nI x.1)
def vDi (x : Nat × Int64) : Value := .long x.2
/-- THE LIST's cells: S, with a limit -/
def lsR (K : gK) (F : gF) (h ai ad : Nat) (S : List (Nat × Int64)) (lim : Nat) : Prop :=
  K h = some (1, 0) ∧ K ai = some (8, 100) ∧ K ad = some (9, 100) ∧ F h 0 = .ref ai ∧ F h 1 = .ref ad ∧ F h 2 = .int (nI S.length) ∧ F h 3 = .int (nI lim) ∧ rowL F ai 0 (S.map vId) ∧ rowL F ad 0 (S.map vDi) ∧ S.length ≤ lim ∧ lim ≤ 100 ∧ ∀ x ∈ S, x.1 < 100
def offL (lim : Nat) (x : Nat × Int64) (S : List (Nat × Int64)) : List (Nat × Int64) := (insR lAhead x S).take lim

set_option maxHeartbeats 4000000 in
set_option maxRecDepth 100000 in
theorem c_has (l : Launch) (Γ : gG) (K : gK) (F : gF) (h : Nat) (n : Nat) (i : Int32) (hk : K h = some (1, 0)) (h2 : F h 2 = .int (nI n)) : gMR l yX1_has wsX1_has 0 Γ K F [.ref h, .int i] (some (.int (bI (decide (¬ i < 0 ∧ i < nI n))))) := by
  refine g_mR (cc := cX1_has) (maxL := 2) (ret := (some .boolean)) (by decide) rfl (Nat.le_of_ble_eq_true rfl) ?_
  intro p e s m args below meth c ls Z hx hb hts hown hml hN hP hret hl
  have hl : lv_has ls 2 [(0, .ref h), (1, .int i)] := hl
  have hown : s.vm.findClass RX1 = some m.cls := hown
  have hi1 : ∀ w ∈ wsX10, w ∈ wsX1_has := by decide +kernel
  have hfX1_19 : Cond.fieldLink RX1 19 (TX1 2).1 (TX1 2).2.1 (TX1 2).2.2.1 ∈ wsX1_has := by decide +kernel
  refine lv_iload_n hx hb dX1_has_0 rfl (lv_at hl 1 rfl) ?_
  refine lv_if_lt (tgt := 16) hx hb dX1_has_1 (by decide) (fun c1 => ?_) (fun c1 => ?_)
  · refine lv_iconst (v := nI 0) hx hb dX1_has_16 (by decide) ?_
    refine g_asi (show _ = bI false from bI_f') ?_
    exact hret (some (.int (bI false))) _ _ (by rw [decide_eq_false (fun z => z.1 c1)]) (rt_z dX1_has_17)
  · refine lv_iload_n hx hb dX1_has_4 rfl (lv_at hl 1 rfl) ?_
    refine lv_aload_n hx hb dX1_has_5 rfl (lv_at hl 0 rfl) ?_
    refine g_get (C := RX1) (T := TX1) (N := 4) hx hb hts hi1 hown hN hP hk rfl (by decide) 2 (by decide) hfX1_19 (v := .int (nI n)) h2 dX1_has_6 ?_
    refine lv_icmp_ge (tgt := 16) hx hb dX1_has_9 (by decide) (fun c2 => ?_) (fun c2 => ?_)
    · refine lv_iconst (v := nI 0) hx hb dX1_has_16 (by decide) ?_
      refine g_asi (show _ = bI false from bI_f') ?_
      exact hret (some (.int (bI false))) _ _ (by rw [decide_eq_false (fun z => Int32.not_lt.mpr c2 z.2)]) (rt_z dX1_has_17)
    · refine lv_iconst (v := nI 1) hx hb dX1_has_12 (by decide) ?_
      refine lv_goto (tgt := 17) hx hb dX1_has_13 (by decide) ?_
      refine g_asi (show _ = bI true from bI_t') ?_
      exact hret (some (.int (bI true))) _ _ (by rw [decide_eq_true ⟨c1, Int32.not_le.mp c2⟩]) (rt_z dX1_has_17)

set_option maxHeartbeats 4000000 in
set_option maxRecDepth 100000 in
theorem c_isFull (l : Launch) (Γ : gG) (K : gK) (F : gF) (h n lim : Nat) (hk : K h = some (1, 0)) (h2 : F h 2 = .int (nI n)) (h3 : F h 3 = .int (nI lim)) (hn : n ≤ 100) (hlim : lim ≤ 100) : gMR l yX1_isFull wsX1_isFull 0 Γ K F [.ref h] (some (.int (bI (decide (lim ≤ n))))) := by
  refine g_mR (cc := cX1_isFull) (maxL := 1) (ret := (some .boolean)) (by decide) rfl (Nat.le_of_ble_eq_true rfl) ?_
  intro p e s m args below meth c ls Z hx hb hts hown hml hN hP hret hl
  have hl : lv_has ls 1 [(0, .ref h)] := hl
  have hown : s.vm.findClass RX1 = some m.cls := hown
  have hi1 : ∀ w ∈ wsX10, w ∈ wsX1_isFull := by decide +kernel
  have hfX1_19 : Cond.fieldLink RX1 19 (TX1 2).1 (TX1 2).2.1 (TX1 2).2.2.1 ∈ wsX1_isFull := by decide +kernel
  have hfX1_32 : Cond.fieldLink RX1 32 (TX1 3).1 (TX1 3).2.1 (TX1 3).2.2.1 ∈ wsX1_isFull := by decide +kernel
  refine lv_aload_n hx hb dX1_isFull_0 rfl (lv_at hl 0 rfl) ?_
  refine g_get (C := RX1) (T := TX1) (N := 4) hx hb hts hi1 hown hN hP hk rfl (by decide) 2 (by decide) hfX1_19 (v := .int (nI n)) h2 dX1_isFull_1 ?_
  refine lv_aload_n hx hb dX1_isFull_4 rfl (lv_at hl 0 rfl) ?_
  refine g_get (C := RX1) (T := TX1) (N := 4) hx hb hts hi1 hown hN hP hk rfl (by decide) 3 (by decide) hfX1_32 (v := .int (nI lim)) h3 dX1_isFull_5 ?_
  refine lv_icmp_lt (tgt := 15) hx hb dX1_isFull_8 (by decide) (fun c1 => ?_) (fun c1 => ?_)
  · have c1 : n < lim := (nI_ltI (by omega) (by omega)).mp c1
    refine lv_iconst (v := nI 0) hx hb dX1_isFull_15 (by decide) ?_
    refine g_asi (show _ = bI false from bI_f') ?_
    exact hret (some (.int (bI false))) _ _ (by rw [decide_eq_false (by omega)]) (rt_z dX1_isFull_16)
  · have c1 : lim ≤ n := Nat.not_lt.mp (fun z => c1 ((nI_ltI (by omega) (by omega)).mpr z))
    refine lv_iconst (v := nI 1) hx hb dX1_isFull_11 (by decide) ?_
    refine lv_goto (tgt := 16) hx hb dX1_isFull_12 (by decide) ?_
    refine g_asi (show _ = bI true from bI_t') ?_
    exact hret (some (.int (bI true))) _ _ (by rw [decide_eq_true (by omega)]) (rt_z dX1_isFull_16)

set_option maxHeartbeats 4000000 in
set_option maxRecDepth 100000 in
theorem c_isAheadL (l : Launch) (Γ : gG) (K : gK) (F : gF) (h ai ad : Nat) (x y : Nat × Int64) (i : Nat) (hk : K h = some (1, 0)) (hai : K ai = some (8, 100)) (had : K ad = some (9, 100)) (h0 : F h 0 = .ref ai) (h1 : F h 1 = .ref ad) (hyi : F ai i = .int (nI y.1)) (hyd : F ad i = .long y.2) (hi : i < 100) (hx1 : x.1 < 100) (hy1 : y.1 < 100) : gMR l yX1_isAhead wsX1_isAhead 0 Γ K F [.ref h, .int (nI x.1), .long x.2, .int (nI i)] (some (.int (bI (lAhead x y)))) := by
  refine g_mR (cc := cX1_isAhead) (maxL := 5) (ret := (some .boolean)) (by decide) rfl (Nat.le_of_ble_eq_true rfl) ?_
  intro p e s m args below meth c ls Z hx hb hts hown hml hN hP hret hl
  have hl : lv_has ls 5 [(0, .ref h), (1, .int (nI x.1)), (2, .long x.2), (4, .int (nI i))] := hl
  have hown : s.vm.findClass RX1 = some m.cls := hown
  have hi1 : ∀ w ∈ wsX10, w ∈ wsX1_isAhead := by decide +kernel
  have hfX1_9 : Cond.fieldLink RX1 9 (TX1 0).1 (TX1 0).2.1 (TX1 0).2.2.1 ∈ wsX1_isAhead := by decide +kernel
  have hfX1_15 : Cond.fieldLink RX1 15 (TX1 1).1 (TX1 1).2.1 (TX1 1).2.2.1 ∈ wsX1_isAhead := by decide +kernel
  refine lv_lload_n hx hb dX1_isAhead_0 rfl (lv_at hl 2 rfl) ?_
  refine lv_aload_n hx hb dX1_isAhead_1 rfl (lv_at hl 0 rfl) ?_
  refine g_get (C := RX1) (T := TX1) (N := 4) hx hb hts hi1 hown hN hP hk rfl (by decide) 1 (by decide) hfX1_15 (v := .ref ad) h1 dX1_isAhead_2 ?_
  refine lv_iload hx hb dX1_isAhead_5 (lv_at hl 3 rfl) ?_
  refine g_lald (j := i) hx hb hN hP had (by decide) (show _ = nI i from rfl) hi (v := .long y.2) hyd dX1_isAhead_7 ?_
  refine W.lcmp hx hb dX1_isAhead_8 ?_
  refine lv_if_lt (tgt := 35) hx hb dX1_isAhead_9 (by decide) (fun c1 => ?_) (fun c1 => ?_)
  · have c1 : _ := (lg_cmp_lt _ _).mp c1
    refine lv_iconst (v := nI 1) hx hb dX1_isAhead_35 (by decide) ?_
    refine lv_goto (tgt := 40) hx hb dX1_isAhead_36 (by decide) ?_
    refine g_asi (show _ = bI true from bI_t') ?_
    exact hret (some (.int (bI true))) _ _ (by simp [lAhead, c1]) (rt_z dX1_isAhead_40)
  · have c1 : ¬ _ := fun z => c1 ((lg_cmp_lt _ _).mpr z)
    refine lv_lload_n hx hb dX1_isAhead_12 rfl (lv_at hl 2 rfl) ?_
    refine lv_aload_n hx hb dX1_isAhead_13 rfl (lv_at hl 0 rfl) ?_
    refine g_get (C := RX1) (T := TX1) (N := 4) hx hb hts hi1 hown hN hP hk rfl (by decide) 1 (by decide) hfX1_15 (v := .ref ad) h1 dX1_isAhead_14 ?_
    refine lv_iload hx hb dX1_isAhead_17 (lv_at hl 3 rfl) ?_
    refine g_lald (j := i) hx hb hN hP had (by decide) (show _ = nI i from rfl) hi (v := .long y.2) hyd dX1_isAhead_19 ?_
    refine W.lcmp hx hb dX1_isAhead_20 ?_
    refine lv_if_ne (tgt := 39) hx hb dX1_isAhead_21 (by decide) (fun c2 => ?_) (fun c2 => ?_)
    · have c2 : ¬ _ := fun z => c2 ((lg_cmp_eq _ _).mpr z)
      refine lv_iconst (v := nI 0) hx hb dX1_isAhead_39 (by decide) ?_
      refine g_asi (show _ = bI false from bI_f') ?_
      exact hret (some (.int (bI false))) _ _ (by simp [lAhead, c1, c2]) (rt_z dX1_isAhead_40)
    · have c2 : _ := (lg_cmp_eq _ _).mp c2
      refine lv_iload_n hx hb dX1_isAhead_24 rfl (lv_at hl 1 rfl) ?_
      refine lv_aload_n hx hb dX1_isAhead_25 rfl (lv_at hl 0 rfl) ?_
      refine g_get (C := RX1) (T := TX1) (N := 4) hx hb hts hi1 hown hN hP hk rfl (by decide) 0 (by decide) hfX1_9 (v := .ref ai) h0 dX1_isAhead_26 ?_
      refine lv_iload hx hb dX1_isAhead_29 (lv_at hl 3 rfl) ?_
      refine g_iald (j := i) hx hb hN hP hai (by decide) (show _ = nI i from rfl) hi (v := .int (nI y.1)) hyi dX1_isAhead_31 ?_
      refine lv_icmp_ge (tgt := 39) hx hb dX1_isAhead_32 (by decide) (fun c3 => ?_) (fun c3 => ?_)
      · have c3 : y.1 ≤ x.1 := (nI_leI (by omega) (by omega)).mp c3
        refine lv_iconst (v := nI 0) hx hb dX1_isAhead_39 (by decide) ?_
        refine g_asi (show _ = bI false from bI_f') ?_
        exact hret (some (.int (bI false))) _ _ (by simp [lAhead, c1, c2, Nat.not_lt.mpr c3]) (rt_z dX1_isAhead_40)
      · have c3 : x.1 < y.1 := Nat.not_le.mp (fun z => c3 ((nI_leI (by omega) (by omega)).mpr z))
        refine lv_iconst (v := nI 1) hx hb dX1_isAhead_35 (by decide) ?_
        refine lv_goto (tgt := 40) hx hb dX1_isAhead_36 (by decide) ?_
        refine g_asi (show _ = bI true from bI_t') ?_
        exact hret (some (.int (bI true))) _ _ (by simp [lAhead, c2, c3]) (rt_z dX1_isAhead_40)

set_option maxHeartbeats 4000000 in
set_option maxRecDepth 100000 in
theorem c_shutsOut (l : Launch) (Γ : gG) (K : gK) (F : gF) (h ad n lim : Nat) (yd g : Int64) (hk : K h = some (1, 0)) (had : K ad = some (9, 100)) (h1 : F h 1 = .ref ad) (h2 : F h 2 = .int (nI n)) (h3 : F h 3 = .int (nI lim)) (hn : n ≤ 100) (hlim : lim ≤ 100) (hy : 0 < n → F ad (n - 1) = .long yd) : gMR l yX1_shutsOut wsX1_shutsOut 1 Γ K F [.ref h, .long g] (some (.int (bI (decide (lim ≤ n ∧ (n = 0 ∨ yd < g)))))) := by
  refine g_mR (cc := cX1_shutsOut) (maxL := 3) (ret := (some .boolean)) (by decide) rfl (Nat.le_of_ble_eq_true rfl) ?_
  intro p e s m args below meth c ls Z hx hb hts hown hml hN hP hret hl
  have hl : lv_has ls 3 [(0, .ref h), (1, .long g)] := hl
  have hown : s.vm.findClass RX1 = some m.cls := hown
  have hi1 : ∀ w ∈ wsX10, w ∈ wsX1_shutsOut := by decide +kernel
  have hfX1_15 : Cond.fieldLink RX1 15 (TX1 1).1 (TX1 1).2.1 (TX1 1).2.2.1 ∈ wsX1_shutsOut := by decide +kernel
  have hfX1_19 : Cond.fieldLink RX1 19 (TX1 2).1 (TX1 2).2.1 (TX1 2).2.2.1 ∈ wsX1_shutsOut := by decide +kernel
  refine lv_aload_n hx hb dX1_shutsOut_0 rfl (lv_at hl 0 rfl) ?_
  refine g_cV (v := (some (.int (bI (decide (lim ≤ n)))))) (As := []) (b := h) (rest := []) hx hb hml hown hts hN hP (c_isFull l Γ K F h n lim hk h2 h3 hn hlim) gX1_shutsOut_X1_isFull rfl hk (by decide) rfl (na := 0) rfl (by decide +kernel) ⟨by decide, by decide⟩ ⟨Nat.zero_le _, Nat.zero_le _⟩ rfl hl.1 (Nat.le_of_ble_eq_true rfl) dX1_shutsOut_1 ?_
  show W _ _ _ _ _ _ _ _ _ _ _ _ _ _ _ (F0 m 4 ls [.int (bI (decide (lim ≤ n)))])
  refine lv_if_eq (tgt := 35) hx hb dX1_shutsOut_4 (by decide) (fun c1 => ?_) (fun c1 => ?_)
  · have c1 : (decide (lim ≤ n)) = false := bI_0.mp c1
    have c1 := of_decide_eq_false c1
    refine lv_iconst (v := nI 0) hx hb dX1_shutsOut_35 (by decide) ?_
    refine g_asi (show _ = bI false from bI_f') ?_
    exact hret (some (.int (bI false))) _ _ (by rw [decide_eq_false (fun z => c1 z.1)]) (rt_z dX1_shutsOut_36)
  · have c1 : (decide (lim ≤ n)) = true := bI_n0.mp c1
    have c1 := of_decide_eq_true c1
    refine lv_aload_n hx hb dX1_shutsOut_7 rfl (lv_at hl 0 rfl) ?_
    refine g_get (C := RX1) (T := TX1) (N := 4) hx hb hts hi1 hown hN hP hk rfl (by decide) 2 (by decide) hfX1_19 (v := .int (nI n)) h2 dX1_shutsOut_8 ?_
    refine lv_iconst (v := nI 1) hx hb dX1_shutsOut_11 (by decide) ?_
    refine lv_icmp_lt (tgt := 31) hx hb dX1_shutsOut_12 (by decide) (fun c2 => ?_) (fun c2 => ?_)
    · have c2 : n < 1 := (nI_ltI (by omega) (by omega)).mp c2
      refine lv_iconst (v := nI 1) hx hb dX1_shutsOut_31 (by decide) ?_
      refine lv_goto (tgt := 36) hx hb dX1_shutsOut_32 (by decide) ?_
      refine g_asi (show _ = bI true from bI_t') ?_
      exact hret (some (.int (bI true))) _ _ (by rw [decide_eq_true ⟨c1, Or.inl (by omega)⟩]) (rt_z dX1_shutsOut_36)
    · have c2 : 1 ≤ n := Nat.not_lt.mp (fun z => c2 ((nI_ltI (by omega) (by omega)).mpr z))
      refine lv_lload_n hx hb dX1_shutsOut_15 rfl (lv_at hl 1 rfl) ?_
      refine lv_aload_n hx hb dX1_shutsOut_16 rfl (lv_at hl 0 rfl) ?_
      refine g_get (C := RX1) (T := TX1) (N := 4) hx hb hts hi1 hown hN hP hk rfl (by decide) 1 (by decide) hfX1_15 (v := .ref ad) h1 dX1_shutsOut_17 ?_
      refine lv_aload_n hx hb dX1_shutsOut_20 rfl (lv_at hl 0 rfl) ?_
      refine g_get (C := RX1) (T := TX1) (N := 4) hx hb hts hi1 hown hN hP hk rfl (by decide) 2 (by decide) hfX1_19 (v := .int (nI n)) h2 dX1_shutsOut_21 ?_
      refine lv_iconst (v := nI 1) hx hb dX1_shutsOut_24 (by decide) ?_
      refine lv_isub hx hb dX1_shutsOut_25 ?_
      refine g_asi (show _ = nI (n - 1) from pk_sub (by omega)) ?_
      refine g_lald (j := n - 1) hx hb hN hP had (by decide) (show _ = nI (n - 1) from rfl) (by omega) (v := .long yd) (hy (by omega)) dX1_shutsOut_26 ?_
      refine W.lcmp hx hb dX1_shutsOut_27 ?_
      refine lv_if_le (tgt := 35) hx hb dX1_shutsOut_28 (by decide) (fun c3 => ?_) (fun c3 => ?_)
      · have c3 : _ := (lg_cmp_le _ _).mp c3
        refine lv_iconst (v := nI 0) hx hb dX1_shutsOut_35 (by decide) ?_
        refine g_asi (show _ = bI false from bI_f') ?_
        exact hret (some (.int (bI false))) _ _ (by rw [decide_eq_false (fun z => z.2.elim (fun q => by omega) (fun q => Int64.not_lt.mpr c3 q))]) (rt_z dX1_shutsOut_36)
      · have c3 : ¬ _ := fun z => c3 ((lg_cmp_le _ _).mpr z)
        refine lv_iconst (v := nI 1) hx hb dX1_shutsOut_31 (by decide) ?_
        refine lv_goto (tgt := 36) hx hb dX1_shutsOut_32 (by decide) ?_
        refine g_asi (show _ = bI true from bI_t') ?_
        exact hret (some (.int (bI true))) _ _ (by rw [decide_eq_true ⟨c1, Or.inr (Int64.not_le.mp c3)⟩]) (rt_z dX1_shutsOut_36)

set_option maxHeartbeats 4000000 in
set_option maxRecDepth 100000 in
theorem c_empty (l : Launch) (Γ : gG) (K : gK) (F : gF) (sz : Nat) (h ai k : Nat) (hk : K h = some (1, 0)) (hai : K ai = some (8, 100)) (h0 : F h 0 = .ref ai) (hk1 : k ≤ 100) : gMM l yX1_empty wsX1_empty 1 0 0 Γ K F sz [.ref h, .int (nI k)] (fun v K' F' => v = none ∧ K' = K ∧ F' = gU (gU F h 2 (.int (nI 0))) h 3 (.int (nI k))) := by
  refine g_mM (cc := cX1_empty) (maxL := 2) (ret := none) (by decide) rfl (Nat.le_of_ble_eq_true rfl) ?_
  intro p e s m args below meth c ls Z hsz hx hb hts hown hml hnm hN hW hret hl
  have hl : lv_has ls 2 [(0, .ref h), (1, .int (nI k))] := hl
  have hown : s.vm.findClass RX1 = some m.cls := hown
  have hi1 : ∀ w ∈ wsX10, w ∈ wsX1_empty := by decide +kernel
  have hfX1_9 : Cond.fieldLink RX1 9 (TX1 0).1 (TX1 0).2.1 (TX1 0).2.2.1 ∈ wsX1_empty := by decide +kernel
  have hfX1_19 : Cond.fieldLink RX1 19 (TX1 2).1 (TX1 2).2.1 (TX1 2).2.2.1 ∈ wsX1_empty := by decide +kernel
  have hfX1_32 : Cond.fieldLink RX1 32 (TX1 3).1 (TX1 3).2.1 (TX1 3).2.2.1 ∈ wsX1_empty := by decide +kernel
  refine lv_aload_n hx hb dX1_empty_0 rfl (lv_at hl 0 rfl) ?_
  refine lv_iconst (v := nI 0) hx hb dX1_empty_1 (by decide) ?_
  refine g_put (C := RX1) (T := TX1) (N := 4) hx hb hts hi1 tyX1 tyX1_ok nmX1 hown hN hW hk rfl (by decide) 2 (by decide) hfX1_19 rfl rfl rfl dX1_empty_2 (fun H locs hW => ?_)
  refine lv_aload_n hx hb dX1_empty_5 rfl (lv_at hl 0 rfl) ?_
  refine lv_iconst (v := nI 0) hx hb dX1_empty_6 (by decide) ?_
  refine lv_aload_n hx hb dX1_empty_7 rfl (lv_at hl 0 rfl) ?_
  refine g_get (C := RX1) (T := TX1) (N := 4) hx hb hts hi1 hown hN hW.1 hk rfl (by decide) 0 (by decide) hfX1_9 (v := .ref ai) ((gU_k (by decide)).trans h0) dX1_empty_8 ?_
  refine g_alen (t := 0) hx hb hN hW.1 hai rfl dX1_empty_11 ?_
  refine lv_iload_n hx hb dX1_empty_12 rfl (lv_at hl 1 rfl) ?_
  refine va_mmin hx hb (hml.trans hl.1.symm) hown (hts _ (show Cond.methodLink RX1 23 Lib.Math.min.name ∈ _ by decide +kernel)) (hts _ (by decide +kernel)) (hts _ (by decide +kernel)) (hts _ (by decide +kernel)) (by decide) (Nat.le_of_ble_eq_true rfl) (Nat.zero_le _) (Nat.zero_le _) dX1_empty_13 ?_
  refine g_asi (show _ = nI (min 100 k) from mx_min (by decide) (by omega)) ?_
  refine va_mmax hx hb (hml.trans hl.1.symm) hown (hts _ (show Cond.methodLink RX1 29 Lib.Math.max.name ∈ _ by decide +kernel)) (hts _ (by decide +kernel)) (hts _ (by decide +kernel)) (hts _ (by decide +kernel)) (by decide) (Nat.le_of_ble_eq_true rfl) (Nat.zero_le _) (Nat.zero_le _) dX1_empty_16 ?_
  refine g_asi (show _ = nI (max 0 (min 100 k)) from mx_max (by decide) (by omega)) ?_
  refine g_asi (show _ = nI k from by rw [show max 0 (min 100 k) = k by omega]) ?_
  refine g_put (C := RX1) (T := TX1) (N := 4) hx hb hts hi1 tyX1 tyX1_ok nmX1 hown hN hW hk rfl (by decide) 3 (by decide) hfX1_32 rfl rfl rfl dX1_empty_19 (fun H locs hW => ?_)
  exact hret none _ _ _ _ _ _ hW (⟨rfl, rfl, rfl⟩) (rt_v dX1_empty_22)

def offI (F F1 : gF) (h ai ad lim n : Nat) (P Q : List (Nat × Int64)) : Prop :=
  P.length = n ∧ n + Q.length + 1 ≤ lim ∧ F1 h 0 = .ref ai ∧ F1 h 1 = .ref ad ∧ F1 h 2 = .int (nI (n + Q.length + 1)) ∧ F1 h 3 = .int (nI lim) ∧ rowL F1 ai 0 (P.map vId) ∧ rowL F1 ad 0 (P.map vDi) ∧ rowL F1 ai (n + 1) (Q.map vId) ∧ rowL F1 ad (n + 1) (Q.map vDi) ∧ ∀ b j, b ≠ h → b ≠ ai → b ≠ ad → F1 b j = F b j
theorem offI.last {F F1 : gF} {h ai ad lim n : Nat} {P Q : List (Nat × Int64)} {z : Nat × Int64} (H : offI F F1 h ai ad lim (n + 1) (P ++ [z]) Q) : F1 ai n = .int (nI z.1) ∧ F1 ad n = .long z.2 := by
  obtain ⟨h1, -, -, -, -, -, h2, h3, -⟩ := H
  have e : P.length = n := by simpa using h1
  rw [List.map_append] at h2 h3
  have a := rowL.last (v := vId z) h2
  have b := rowL.last (v := vDi z) h3
  rw [List.length_map, e, Nat.zero_add] at a b
  exact ⟨a, b⟩
theorem offI.shift {F F1 : gF} {h ai ad lim n : Nat} {P Q : List (Nat × Int64)} {z : Nat × Int64} (d1 : h ≠ ai) (d2 : h ≠ ad) (d3 : ai ≠ ad) (H : offI F F1 h ai ad lim (n + 1) (P ++ [z]) Q) : offI F (gU (gU F1 ai (n + 1) (.int (nI z.1))) ad (n + 1) (.long z.2)) h ai ad lim n P (z :: Q) := by
  obtain ⟨h1, h2, h3, h4, h5, h6, h7, h8, h9, h10, h11⟩ := H
  have e : P.length = n := by simpa using h1
  have k : ∀ j, gU (gU F1 ai (n + 1) (.int (nI z.1))) ad (n + 1) (.long z.2) h j = F1 h j := fun j => by rw [gU_a d2, gU_a d1]
  rw [List.map_append] at h7 h8
  refine ⟨e, by simp; omega, by rw [k, h3], by rw [k, h4], by rw [k, h5, List.length_cons, show n + 1 + Q.length + 1 = n + (Q.length + 1) + 1 by omega], by rw [k, h6], ?_, ?_, ?_, ?_, fun b j b1 b2 b3 => by rw [gU_a b3, gU_a b2, h11 b j b1 b2 b3]⟩
  · exact (h7.left.up (Or.inr (Or.inr (by simp; omega)))).up (Or.inl (Ne.symm d3))
  · exact (h8.left.up (Or.inl d3)).up (Or.inr (Or.inr (by simp; omega)))
  · have q := rowL.shift (v := vId z) (o := 0) h7 (Q := Q.map vId) (by simpa [e] using h9)
    have q2 := q.2
    simp only [List.length_map, e, Nat.zero_add] at q2
    exact rowL.up q2 (Or.inl (Ne.symm d3))
  · have q := rowL.shift (v := vDi z) (o := 0) (F := gU F1 ai (n + 1) (.int (nI z.1))) (h8.up (Or.inl d3)) (Q := Q.map vDi) (by simpa [e] using h10.up (Or.inl d3))
    have q2 := q.2
    simp only [List.length_map, e, Nat.zero_add] at q2
    exact q2
theorem offI.fill {K : gK} {F F1 : gF} {h ai ad lim n : Nat} {P Q : List (Nat × Int64)} {x : Nat × Int64} (hk : K h = some (1, 0)) (hai : K ai = some (8, 100)) (had : K ad = some (9, 100)) (hlim : lim ≤ 100) (hid : ∀ y ∈ P ++ x :: Q, y.1 < 100) (H : offI F F1 h ai ad lim n P Q) :
    lsR K (gU (gU F1 ai n (.int (nI x.1))) ad n (.long x.2)) h ai ad (P ++ x :: Q) lim ∧ ∀ b j, b ≠ h → b ≠ ai → b ≠ ad → gU (gU F1 ai n (.int (nI x.1))) ad n (.long x.2) b j = F b j := by
  have d1 := kne hk hai (by decide)
  have d2 := kne hk had (by decide)
  have d3 := kne hai had (by decide)
  obtain ⟨h1, h2, h3, h4, h5, h6, h7, h8, h9, h10, h11⟩ := H
  have k : ∀ j, gU (gU F1 ai n (.int (nI x.1))) ad n (.long x.2) h j = F1 h j := fun j => by rw [gU_a d2, gU_a d1]
  refine ⟨⟨hk, hai, had, by rw [k, h3], by rw [k, h4], by rw [k, h5, List.length_append, List.length_cons, h1]; rfl, by rw [k, h6], ?_, ?_, by rw [List.length_append, List.length_cons, h1]; omega, hlim, hid⟩, fun b j b1 b2 b3 => by rw [gU_a b3, gU_a b2, h11 b j b1 b2 b3]⟩
  · have q := rowL.fill (v := vId x) h7 (Q := Q.map vId) (by simpa [h1] using h9)
    simp only [List.length_map, h1, Nat.zero_add] at q
    rw [List.map_append, List.map_cons]
    exact q.up (Or.inl (Ne.symm d3))
  · have q := rowL.fill (F := gU F1 ai n (.int (nI x.1))) (v := vDi x) (h8.up (Or.inl d3)) (Q := Q.map vDi) (by simpa [h1] using h10.up (Or.inl d3))
    simp only [List.length_map, h1, Nat.zero_add] at q
    rw [List.map_append, List.map_cons]
    exact q
theorem offL_zero {x : Nat × Int64} {S : List (Nat × Int64)} {lim : Nat} (h : S.length ≤ lim) (h0 : lim < 1) : offL lim x S = S := by
  have e : lim = 0 := by omega
  subst e
  rw [List.length_eq_zero_iff.mp (show S.length = 0 by omega)]
  rfl
theorem offL_room {x : Nat × Int64} {S : List (Nat × Int64)} {lim : Nat} (h : S.length < lim) : insR lAhead x S = offL lim x S := by
  unfold offL
  rw [List.take_of_length_le (by rw [insR_len]; omega)]
theorem insR_passed {α : Type} {lt : α → α → Bool} {x z : α} (hz : lt x z = true) : ∀ S : List α, insR lt x (S ++ [z]) = insR lt x S ++ [z]
  | [] => by simp [insR, hz]
  | y :: ys => by
    show insR lt x (y :: (ys ++ [z])) = insR lt x (y :: ys) ++ [z]
    unfold insR
    have e : (y :: (ys ++ [z])).all (lt x) = (y :: ys).all (lt x) := by simp [List.all_append, hz]
    rw [e]
    by_cases q : (y :: ys).all (lt x) = true
    · rw [if_pos q, if_pos q]; rfl
    · rw [if_neg q, if_neg q, insR_passed hz ys]; rfl
theorem offL_full {x z : Nat × Int64} {S : List (Nat × Int64)} {lim : Nat} (h : S.length + 1 = lim) (hz : lAhead x z = true) : insR lAhead x S = offL lim x (S ++ [z]) := by
  unfold offL
  rw [insR_passed hz, List.take_left' (by rw [insR_len]; exact h)]
theorem offL_shut {x z : Nat × Int64} {S : List (Nat × Int64)} {lim : Nat} (h : S.length + 1 = lim) (hz : lAhead x z = false) : offL lim x (S ++ [z]) = S ++ [z] := by
  unfold offL
  have := insR_eq (P := S) (Q := []) (x := x) (z := z) (lt := lAhead) (fun q h => by cases h) hz
  rw [List.append_nil] at this
  rw [this, List.take_left' (by simp; exact h)]
theorem offL_mem {x y : Nat × Int64} {S : List (Nat × Int64)} {lim : Nat} (h : y ∈ offL lim x S) : y = x ∨ y ∈ S := insR_mem.mp (List.mem_of_mem_take h)
theorem offL_len {x : Nat × Int64} {S : List (Nat × Int64)} {lim : Nat} : (offL lim x S).length ≤ lim := by
  unfold offL
  rw [List.length_take]
  omega
theorem snoc_of {α : Type} {S : List α} {n : Nat} (h : S.length = n + 1) : ∃ P z, S = P ++ [z] ∧ P.length = n := by
  rcases List.eq_nil_or_concat S with rfl | ⟨P, z, rfl⟩
  · simp at h
  · exact ⟨P, z, List.concat_eq_append, by simpa using h⟩
theorem offI.init {K : gK} {F : gF} {h ai ad lim n : Nat} {S T : List (Nat × Int64)} (hL : lsR K F h ai ad (S ++ T) lim) (hn : S.length = n) (hl : n + 1 ≤ lim) : offI F (gU F h 2 (.int (nI (n + 1)))) h ai ad lim n S [] := by
  obtain ⟨hk, hai, had, h0, h1, h2, h3, h4, h5, h6, h7, h8⟩ := hL
  have d1 := kne hk hai (by decide)
  have d2 := kne hk had (by decide)
  rw [List.map_append] at h4 h5
  exact ⟨hn, hl, by rw [gU_k (by decide), h0], by rw [gU_k (by decide), h1], gU_self, by rw [gU_k (by decide), h3], h4.left.up (Or.inl d1), h5.left.up (Or.inl d2), rowL.nil, rowL.nil, fun b j b1 _ _ => gU_a b1⟩

set_option maxHeartbeats 4000000 in
set_option maxRecDepth 100000 in
theorem c_offer (l : Launch) (Γ : gG) (K : gK) (F : gF) (sz : Nat) (h ai ad : Nat) (x : Nat × Int64) (S : List (Nat × Int64)) (lim : Nat) (hL : lsR K F h ai ad S lim) (hx1 : x.1 < 100) : gMM l yX1_offer wsX1_offer 1 0 0 Γ K F sz [.ref h, .int (nI x.1), .long x.2] (fun v K' F' => v = none ∧ K' = K ∧ lsR K F' h ai ad (offL lim x S) lim ∧ ∀ b j, b ≠ h → b ≠ ai → b ≠ ad → F' b j = F b j) := by
  refine g_mM (cc := cX1_offer) (maxL := 5) (ret := none) (by decide) rfl (Nat.le_of_ble_eq_true rfl) ?_
  intro p e s m args below meth c ls Z hsz hx hb hts hown hml hnm hN hW hret hl
  have hl : lv_has ls 5 [(0, .ref h), (1, .int (nI x.1)), (2, .long x.2)] := hl
  have hown : s.vm.findClass RX1 = some m.cls := hown
  have hi1 : ∀ w ∈ wsX10, w ∈ wsX1_offer := by decide +kernel
  have hfX1_9 : Cond.fieldLink RX1 9 (TX1 0).1 (TX1 0).2.1 (TX1 0).2.2.1 ∈ wsX1_offer := by decide +kernel
  have hfX1_15 : Cond.fieldLink RX1 15 (TX1 1).1 (TX1 1).2.1 (TX1 1).2.2.1 ∈ wsX1_offer := by decide +kernel
  have hfX1_19 : Cond.fieldLink RX1 19 (TX1 2).1 (TX1 2).2.1 (TX1 2).2.2.1 ∈ wsX1_offer := by decide +kernel
  have hfX1_32 : Cond.fieldLink RX1 32 (TX1 3).1 (TX1 3).2.1 (TX1 3).2.2.1 ∈ wsX1_offer := by decide +kernel
  obtain ⟨hk, hai, had, h0, h1, h2, h3, h4, h5, h6, h7, h8⟩ := hL
  have d1 := kne hk hai (by decide)
  have d2 := kne hk had (by decide)
  have d3 := kne hai had (by decide)
  have fin : ∀ (n : Nat) (P Q : List (Nat × Int64)) (F1 : gF) (H : Heap) (locs : List Loc) (ls : Array Slot), offI F F1 h ai ad lim n P Q → offL lim x S = P ++ x :: Q → gW Γ (gA K sz) s.heap K F1 H locs → lv_has ls 5 [(4, .int (nI n)), (0, .ref h), (1, .int (nI x.1)), (2, .long x.2)] → W p l e (gRm 1 0 0) s m args below meth c H locs 0 0 Z (F0 m 117 ls []) := by
    intro n P Q F1 H locs ls hI hres hW hl
    obtain ⟨i1, i2, i3, i4, i5, i6, i7, i8, i9, i10, i11⟩ := id hI
    refine lv_aload_n hx hb dX1_offer_117 rfl (lv_at hl 1 rfl) ?_
    refine g_get (C := RX1) (T := TX1) (N := 4) hx hb hts hi1 hown hN hW.1 hk rfl (by decide) 0 (by decide) hfX1_9 (v := .ref ai) i3 dX1_offer_118 ?_
    refine lv_iload hx hb dX1_offer_121 (lv_at hl 0 rfl) ?_
    refine lv_iload_n hx hb dX1_offer_123 rfl (lv_at hl 2 rfl) ?_
    refine g_iast (j := n) hx hb hN hW hai (by decide) (show _ = nI n from rfl) (by omega) dX1_offer_124 (fun H locs hW => ?_)
    refine lv_aload_n hx hb dX1_offer_125 rfl (lv_at hl 1 rfl) ?_
    refine g_get (C := RX1) (T := TX1) (N := 4) hx hb hts hi1 hown hN hW.1 hk rfl (by decide) 1 (by decide) hfX1_15 (v := .ref ad) ((gU_a d1).trans i4) dX1_offer_126 ?_
    refine lv_iload hx hb dX1_offer_129 (lv_at hl 0 rfl) ?_
    refine lv_lload_n hx hb dX1_offer_131 rfl (lv_at hl 3 rfl) ?_
    refine g_last (j := n) hx hb hN hW had (by decide) (show _ = nI n from rfl) (by omega) dX1_offer_132 (fun H locs hW => ?_)
    have q := hI.fill hk hai had h7 (x := x) (fun y hy => by
      rw [← hres] at hy
      rcases offL_mem hy with rfl | hy
      · exact hx1
      · exact h8 y hy)
    exact hret none _ _ _ _ _ _ hW (⟨rfl, rfl, by rw [hres]; exact q.1, q.2⟩) (rt_v dX1_offer_133)
  have loop : ∀ (n : Nat) (P Q : List (Nat × Int64)) (F1 : gF) (H : Heap) (locs : List Loc) (ls : Array Slot), offI F F1 h ai ad lim n P Q → insR lAhead x (P ++ Q) = offL lim x S → (∀ y ∈ P ++ Q, y ∈ S) → (∀ q ∈ Q, lAhead x q = true) → gW Γ (gA K sz) s.heap K F1 H locs → lv_has ls 5 [(4, .int (nI n)), (0, .ref h), (1, .int (nI x.1)), (2, .long x.2)] → W p l e (gRm 1 0 0) s m args below meth c H locs 0 0 Z (F0 m 61 ls []) := by
    intro n
    induction n with
    | zero =>
      intro P Q F1 H locs ls hI hS hsub hQ hW hl
      refine lv_iload hx hb dX1_offer_61 (lv_at hl 0 rfl) ?_
      refine lv_if_le (tgt := 117) hx hb dX1_offer_63 (by decide) (fun c1 => ?_) (fun c1 => ?_)
      · have c1 : 0 = 0 := (nI_le0 (by omega)).mp c1
        obtain rfl : P = [] := List.length_eq_zero_iff.mp hI.1
        exact fin 0 [] Q F1 H locs ls hI (by rw [← hS, List.nil_append, insR_all hQ]; rfl) hW hl
      · have c1 : 0 < 0 := Nat.pos_of_ne_zero (fun z => c1 ((nI_le0 (by omega)).mpr z))
        exact absurd c1 (by omega)
    | succ n ih =>
      intro P Q F1 H locs ls hI hS hsub hQ hW hl
      have hb1 := hI.2.1
      refine lv_iload hx hb dX1_offer_61 (lv_at hl 0 rfl) ?_
      refine lv_if_le (tgt := 117) hx hb dX1_offer_63 (by decide) (fun c1 => ?_) (fun c1 => ?_)
      · have c1 : (n + 1) = 0 := (nI_le0 (by omega)).mp c1
        exact absurd c1 (by omega)
      · have c1 : 0 < (n + 1) := Nat.pos_of_ne_zero (fun z => c1 ((nI_le0 (by omega)).mpr z))
        obtain ⟨P, z, rfl, hPn⟩ := snoc_of hI.1
        obtain ⟨i1, i2, i3, i4, i5, i6, i7, i8, i9, i10, i11⟩ := id hI
        have hl2 := hI.last
        have hz1 : z.1 < 100 := h8 z (hsub z (by simp))
        refine lv_aload_n hx hb dX1_offer_66 rfl (lv_at hl 1 rfl) ?_
        refine lv_iload_n hx hb dX1_offer_67 rfl (lv_at hl 2 rfl) ?_
        refine lv_lload_n hx hb dX1_offer_68 rfl (lv_at hl 3 rfl) ?_
        refine lv_iload hx hb dX1_offer_69 (lv_at hl 0 rfl) ?_
        refine lv_iconst (v := nI 1) hx hb dX1_offer_71 (by decide) ?_
        refine lv_isub hx hb dX1_offer_72 ?_
        refine g_asi (show _ = nI n from pk_sub (by omega)) ?_
        refine g_cV (v := (some (.int (bI (lAhead x z))))) (As := [.int (nI x.1), .long x.2, .int (nI n)]) (b := h) (rest := []) hx hb hml hown hts hN hW.1 (c_isAheadL l Γ K F1 h ai ad x z n hk hai had i3 i4 hl2.1 hl2.2 (by omega) hx1 hz1) gX1_offer_X1_isAhead rfl hk (by decide) rfl (na := 3) rfl (by decide +kernel) ⟨by decide, by decide⟩ ⟨Nat.zero_le _, Nat.zero_le _⟩ rfl hl.1 (Nat.le_of_ble_eq_true rfl) dX1_offer_73 ?_
        show W _ _ _ _ _ _ _ _ _ _ _ _ _ _ _ (F0 m 76 ls [.int (bI (lAhead x z))])
        refine lv_if_eq (tgt := 117) hx hb dX1_offer_76 (by decide) (fun c2 => ?_) (fun c2 => ?_)
        · have c2 : (lAhead x z) = false := bI_0.mp c2
          exact fin (n + 1) (P ++ [z]) Q F1 H locs ls hI (by rw [← hS, insR_eq hQ c2]) hW hl
        · have c2 : (lAhead x z) = true := bI_n0.mp c2
          refine lv_aload_n hx hb dX1_offer_79 rfl (lv_at hl 1 rfl) ?_
          refine g_get (C := RX1) (T := TX1) (N := 4) hx hb hts hi1 hown hN hW.1 hk rfl (by decide) 0 (by decide) hfX1_9 (v := .ref ai) i3 dX1_offer_80 ?_
          refine lv_iload hx hb dX1_offer_83 (lv_at hl 0 rfl) ?_
          refine lv_aload_n hx hb dX1_offer_85 rfl (lv_at hl 1 rfl) ?_
          refine g_get (C := RX1) (T := TX1) (N := 4) hx hb hts hi1 hown hN hW.1 hk rfl (by decide) 0 (by decide) hfX1_9 (v := .ref ai) i3 dX1_offer_86 ?_
          refine lv_iload hx hb dX1_offer_89 (lv_at hl 0 rfl) ?_
          refine lv_iconst (v := nI 1) hx hb dX1_offer_91 (by decide) ?_
          refine lv_isub hx hb dX1_offer_92 ?_
          refine g_asi (show _ = nI n from pk_sub (by omega)) ?_
          refine g_iald (j := n) hx hb hN hW.1 hai (by decide) (show _ = nI n from rfl) (by omega) (v := .int (nI z.1)) hl2.1 dX1_offer_93 ?_
          refine g_iast (j := n + 1) hx hb hN hW hai (by decide) (show _ = nI (n + 1) from rfl) (by omega) dX1_offer_94 (fun H locs hW => ?_)
          refine lv_aload_n hx hb dX1_offer_95 rfl (lv_at hl 1 rfl) ?_
          refine g_get (C := RX1) (T := TX1) (N := 4) hx hb hts hi1 hown hN hW.1 hk rfl (by decide) 1 (by decide) hfX1_15 (v := .ref ad) ((gU_a d1).trans i4) dX1_offer_96 ?_
          refine lv_iload hx hb dX1_offer_99 (lv_at hl 0 rfl) ?_
          refine lv_aload_n hx hb dX1_offer_101 rfl (lv_at hl 1 rfl) ?_
          refine g_get (C := RX1) (T := TX1) (N := 4) hx hb hts hi1 hown hN hW.1 hk rfl (by decide) 1 (by decide) hfX1_15 (v := .ref ad) ((gU_a d1).trans i4) dX1_offer_102 ?_
          refine lv_iload hx hb dX1_offer_105 (lv_at hl 0 rfl) ?_
          refine lv_iconst (v := nI 1) hx hb dX1_offer_107 (by decide) ?_
          refine lv_isub hx hb dX1_offer_108 ?_
          refine g_asi (show _ = nI n from pk_sub (by omega)) ?_
          refine g_lald (j := n) hx hb hN hW.1 had (by decide) (show _ = nI n from rfl) (by omega) (v := .long z.2) ((gU_a (Ne.symm d3)).trans hl2.2) dX1_offer_109 ?_
          refine g_last (j := n + 1) hx hb hN hW had (by decide) (show _ = nI (n + 1) from rfl) (by omega) dX1_offer_110 (fun H locs hW => ?_)
          refine lv_iinc (v := nI n) (lv' := [(4, .int (nI n)), (0, .ref h), (1, .int (nI x.1)), (2, .long x.2)]) hx hb dX1_offer_111 hl (k := 0) rfl (dec1s _) (by decide) rfl (fun ls hl => ?_)
          refine lv_goto (tgt := 61) hx hb dX1_offer_114 (by decide) ?_
          exact ih P (z :: Q) _ H locs ls (hI.shift d1 d2 d3) (by rw [← hS]; simp) (fun y hy => hsub y (by simpa using hy)) (fun q hq => by
            rcases List.mem_cons.mp hq with rfl | hq
            · exact c2
            · exact hQ q hq) hW (lv_sub hl [0, 1, 2, 3] rfl)
  refine lv_aload_n hx hb dX1_offer_0 rfl (lv_at hl 0 rfl) ?_
  refine g_get (C := RX1) (T := TX1) (N := 4) hx hb hts hi1 hown hN hW.1 hk rfl (by decide) 3 (by decide) hfX1_32 (v := .int (nI lim)) h3 dX1_offer_1 ?_
  refine lv_iconst (v := nI 1) hx hb dX1_offer_4 (by decide) ?_
  refine lv_icmp_lt (tgt := 30) hx hb dX1_offer_5 (by decide) (fun c1 => ?_) (fun c1 => ?_)
  · have c1 : lim < 1 := (nI_ltI (by omega) (by omega)).mp c1
    exact hret none _ _ _ _ _ _ hW (⟨rfl, rfl, by rw [offL_zero h6 c1]; exact ⟨hk, hai, had, h0, h1, h2, h3, h4, h5, h6, h7, h8⟩, fun _ _ _ _ _ => rfl⟩) (rt_v dX1_offer_30)
  · have c1 : 1 ≤ lim := Nat.not_lt.mp (fun z => c1 ((nI_ltI (by omega) (by omega)).mpr z))
    refine lv_aload_n hx hb dX1_offer_8 rfl (lv_at hl 0 rfl) ?_
    refine g_cV (v := (some (.int (bI (decide (lim ≤ S.length)))))) (As := []) (b := h) (rest := []) hx hb hml hown hts hN hW.1 (c_isFull l Γ K F h S.length lim hk h2 h3 (by omega) h7) gX1_offer_X1_isFull rfl hk (by decide) rfl (na := 0) rfl (by decide +kernel) ⟨by decide, by decide⟩ ⟨Nat.zero_le _, Nat.zero_le _⟩ rfl hl.1 (Nat.le_of_ble_eq_true rfl) dX1_offer_9 ?_
    show W _ _ _ _ _ _ _ _ _ _ _ _ _ _ _ (F0 m 12 ls [.int (bI (decide (lim ≤ S.length)))])
    refine lv_if_eq (tgt := 31) hx hb dX1_offer_12 (by decide) (fun c2 => ?_) (fun c2 => ?_)
    · have c2 : (decide (lim ≤ S.length)) = false := bI_0.mp c2
      have c2 := of_decide_eq_false c2
      refine lv_aload_n hx hb dX1_offer_31 rfl (lv_at hl 0 rfl) ?_
      refine g_cV (v := (some (.int (bI (decide (lim ≤ S.length)))))) (As := []) (b := h) (rest := []) hx hb hml hown hts hN hW.1 (c_isFull l Γ K F h S.length lim hk h2 h3 (by omega) h7) gX1_offer_X1_isFull rfl hk (by decide) rfl (na := 0) rfl (by decide +kernel) ⟨by decide, by decide⟩ ⟨Nat.zero_le _, Nat.zero_le _⟩ rfl hl.1 (Nat.le_of_ble_eq_true rfl) dX1_offer_32 ?_
      show W _ _ _ _ _ _ _ _ _ _ _ _ _ _ _ (F0 m 35 ls [.int (bI (decide (lim ≤ S.length)))])
      refine lv_if_eq (tgt := 47) hx hb dX1_offer_35 (by decide) (fun c3 => ?_) (fun c3 => ?_)
      · have c3 : (decide (lim ≤ S.length)) = false := bI_0.mp c3
        refine lv_aload_n hx hb dX1_offer_47 rfl (lv_at hl 0 rfl) ?_
        refine g_get (C := RX1) (T := TX1) (N := 4) hx hb hts hi1 hown hN hW.1 hk rfl (by decide) 2 (by decide) hfX1_19 (v := .int (nI S.length)) h2 dX1_offer_48 ?_
        refine lv_istore (lv' := [(4, .int (nI S.length)), (0, .ref h), (1, .int (nI x.1)), (2, .long x.2)]) hx hb dX1_offer_51 hl (by decide) rfl (fun ls hl => ?_)
        refine lv_aload_n hx hb dX1_offer_53 rfl (lv_at hl 1 rfl) ?_
        refine lv_iload hx hb dX1_offer_54 (lv_at hl 0 rfl) ?_
        refine lv_iconst (v := nI 1) hx hb dX1_offer_56 (by decide) ?_
        refine lv_iadd hx hb dX1_offer_57 ?_
        refine g_asi (show _ = nI (S.length + 1) from (nI_add _ _).trans (by rfl)) ?_
        refine g_put (C := RX1) (T := TX1) (N := 4) hx hb hts hi1 tyX1 tyX1_ok nmX1 hown hN hW hk rfl (by decide) 2 (by decide) hfX1_19 rfl rfl rfl dX1_offer_58 (fun H locs hW => ?_)
        exact loop S.length S [] _ H locs ls (offI.init (T := []) (by rw [List.append_nil]; exact ⟨hk, hai, had, h0, h1, h2, h3, h4, h5, h6, h7, h8⟩) rfl (by omega)) (by rw [List.append_nil]; exact offL_room (by omega)) (fun y hy => by simpa using hy) (fun q hq => by cases hq) hW (lv_sub hl [0, 1, 2, 3] rfl)
      · have c3 : (decide (lim ≤ S.length)) = true := bI_n0.mp c3
        exact absurd (of_decide_eq_true c3) c2
    · have c2 : (decide (lim ≤ S.length)) = true := bI_n0.mp c2
      have c2 := of_decide_eq_true c2
      obtain ⟨n, rfl⟩ : ∃ n, lim = n + 1 := ⟨lim - 1, by omega⟩
      obtain ⟨S, z, rfl, hSn⟩ := snoc_of (show S.length = n + 1 by omega)
      have hz1 : z.1 < 100 := h8 z (by simp)
      rw [List.map_append] at h4 h5
      have q1 := rowL.last (v := vId z) h4
      have q2 := rowL.last (v := vDi z) h5
      rw [List.length_map, hSn, Nat.zero_add] at q1 q2
      refine lv_aload_n hx hb dX1_offer_15 rfl (lv_at hl 0 rfl) ?_
      refine lv_iload_n hx hb dX1_offer_16 rfl (lv_at hl 1 rfl) ?_
      refine lv_lload_n hx hb dX1_offer_17 rfl (lv_at hl 2 rfl) ?_
      refine lv_aload_n hx hb dX1_offer_18 rfl (lv_at hl 0 rfl) ?_
      refine g_get (C := RX1) (T := TX1) (N := 4) hx hb hts hi1 hown hN hW.1 hk rfl (by decide) 3 (by decide) hfX1_32 (v := .int (nI (n + 1))) h3 dX1_offer_19 ?_
      refine lv_iconst (v := nI 1) hx hb dX1_offer_22 (by decide) ?_
      refine lv_isub hx hb dX1_offer_23 ?_
      refine g_asi (show _ = nI n from pk_sub (by omega)) ?_
      refine g_cV (v := (some (.int (bI (lAhead x z))))) (As := [.int (nI x.1), .long x.2, .int (nI n)]) (b := h) (rest := []) hx hb hml hown hts hN hW.1 (c_isAheadL l Γ K F h ai ad x z n hk hai had h0 h1 q1 q2 (by omega) hx1 hz1) gX1_offer_X1_isAhead rfl hk (by decide) rfl (na := 3) rfl (by decide +kernel) ⟨by decide, by decide⟩ ⟨Nat.zero_le _, Nat.zero_le _⟩ rfl hl.1 (Nat.le_of_ble_eq_true rfl) dX1_offer_24 ?_
      show W _ _ _ _ _ _ _ _ _ _ _ _ _ _ _ (F0 m 27 ls [.int (bI (lAhead x z))])
      refine lv_if_ne (tgt := 31) hx hb dX1_offer_27 (by decide) (fun c3 => ?_) (fun c3 => ?_)
      · have c3 : (lAhead x z) = true := bI_n0.mp c3
        refine lv_aload_n hx hb dX1_offer_31 rfl (lv_at hl 0 rfl) ?_
        refine g_cV (v := (some (.int (bI (decide (n + 1 ≤ (S ++ [z]).length)))))) (As := []) (b := h) (rest := []) hx hb hml hown hts hN hW.1 (c_isFull l Γ K F h (S ++ [z]).length (n + 1) hk h2 h3 (by omega) h7) gX1_offer_X1_isFull rfl hk (by decide) rfl (na := 0) rfl (by decide +kernel) ⟨by decide, by decide⟩ ⟨Nat.zero_le _, Nat.zero_le _⟩ rfl hl.1 (Nat.le_of_ble_eq_true rfl) dX1_offer_32 ?_
        show W _ _ _ _ _ _ _ _ _ _ _ _ _ _ _ (F0 m 35 ls [.int (bI (decide (n + 1 ≤ (S ++ [z]).length)))])
        refine lv_if_eq (tgt := 47) hx hb dX1_offer_35 (by decide) (fun c4 => ?_) (fun c4 => ?_)
        · have c4 : (decide (n + 1 ≤ (S ++ [z]).length)) = false := bI_0.mp c4
          exact absurd c2 (of_decide_eq_false c4)
        · have c4 : (decide (n + 1 ≤ (S ++ [z]).length)) = true := bI_n0.mp c4
          refine lv_aload_n hx hb dX1_offer_38 rfl (lv_at hl 0 rfl) ?_
          refine g_get (C := RX1) (T := TX1) (N := 4) hx hb hts hi1 hown hN hW.1 hk rfl (by decide) 3 (by decide) hfX1_32 (v := .int (nI (n + 1))) h3 dX1_offer_39 ?_
          refine lv_iconst (v := nI 1) hx hb dX1_offer_42 (by decide) ?_
          refine lv_isub hx hb dX1_offer_43 ?_
          refine g_asi (show _ = nI n from pk_sub (by omega)) ?_
          refine lv_goto (tgt := 51) hx hb dX1_offer_44 (by decide) ?_
          refine lv_istore (lv' := [(4, .int (nI n)), (0, .ref h), (1, .int (nI x.1)), (2, .long x.2)]) hx hb dX1_offer_51 hl (by decide) rfl (fun ls hl => ?_)
          refine lv_aload_n hx hb dX1_offer_53 rfl (lv_at hl 1 rfl) ?_
          refine lv_iload hx hb dX1_offer_54 (lv_at hl 0 rfl) ?_
          refine lv_iconst (v := nI 1) hx hb dX1_offer_56 (by decide) ?_
          refine lv_iadd hx hb dX1_offer_57 ?_
          refine g_asi (show _ = nI (n + 1) from (nI_add _ _).trans (by rfl)) ?_
          refine g_put (C := RX1) (T := TX1) (N := 4) hx hb hts hi1 tyX1 tyX1_ok nmX1 hown hN hW hk rfl (by decide) 2 (by decide) hfX1_19 rfl rfl rfl dX1_offer_58 (fun H locs hW => ?_)
          exact loop n S [] _ H locs ls (offI.init ⟨hk, hai, had, h0, h1, h2, h3, by rw [List.map_append]; exact h4, by rw [List.map_append]; exact h5, h6, h7, h8⟩ hSn (by omega)) (by rw [List.append_nil]; exact offL_full (by omega) c3) (fun y hy => by simp at hy; simp [hy]) (fun q hq => by cases hq) hW (lv_sub hl [0, 1, 2, 3] rfl)
      · have c3 : (lAhead x z) = false := bI_0.mp c3
        exact hret none _ _ _ _ _ _ hW (⟨rfl, rfl, by rw [offL_shut (by omega) c3]; exact ⟨hk, hai, had, h0, h1, h2, h3, by rw [List.map_append]; exact h4, by rw [List.map_append]; exact h5, h6, h7, h8⟩, fun _ _ _ _ _ => rfl⟩) (rt_v dX1_offer_30)
