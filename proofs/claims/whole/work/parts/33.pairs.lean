def prtN (ln : Nat → Int64) (n : Nat) (most : Int64) (k : Nat) : Nat := itr (fun i c => if most < ln i then c + 1 else c) 1 k (if 0 < n then 1 else 0)
def sumN (ln : Nat → Int64) (k : Nat) : Int64 := itr (fun i s => s + ln i) 1 k 0
theorem prtN_le (ln : Nat → Int64) (n : Nat) (most : Int64) (k : Nat) : prtN ln n most k ≤ k + 1 := by
  induction k with
  | zero => show (if 0 < n then 1 else 0) ≤ 1; split <;> omega
  | succ k ih =>
    show (if most < ln (1 + k) then prtN ln n most k + 1 else prtN ln n most k) ≤ _
    split <;> omega

set_option maxHeartbeats 4000000 in
set_option maxRecDepth 100000 in
theorem c_partsWithin (l : Launch) (Γ : gG) (K : gK) (F : gF) (J lens n : Nat) (most : Int64) (ln : Nat → Int64) (hk : K J = some (0, 0)) (hke : K lens = some (9, 60)) (h1 : F J 1 = .ref lens) (h2 : F J 2 = .int (nI n)) (hln : ∀ i, i < n → F lens i = .long (ln i)) (h60 : n ≤ 60) : gMR l yX0_partsWithin wsX0_partsWithin 0 Γ K F [.ref J, .long most] (some (.int (nI (prtN ln n most (n - 1))))) := by
  refine g_mR (cc := cX0_partsWithin) (maxL := 5) (ret := (some .int)) (by decide) rfl (Nat.le_of_ble_eq_true rfl) ?_
  intro p e s m args below meth c ls Z hx hb hts hown hml hN hP hret hl
  have hl : lv_has ls 5 [(0, .ref J), (1, .long most)] := hl
  have hown : s.vm.findClass RX0 = some m.cls := hown
  have hi0 : ∀ w ∈ wsX00, w ∈ wsX0_partsWithin := by decide +kernel
  have hfX0_17 : Cond.fieldLink RX0 17 (TX0 1).1 (TX0 1).2.1 (TX0 1).2.2.1 ∈ wsX0_partsWithin := by decide +kernel
  have hfX0_21 : Cond.fieldLink RX0 21 (TX0 2).1 (TX0 2).2.1 (TX0 2).2.2.1 ∈ wsX0_partsWithin := by decide +kernel
  have loop : ∀ (j k : Nat) (ls : Array Slot), k + j = n - 1 → lv_has ls 5 [(4, .int (nI (1 + k))), (3, .int (nI (prtN ln n most k))), (0, .ref J), (1, .long most)] → W p l e (gRm 0 0 0) s m args below meth c s.heap [] 0 0 Z (F0 m 16 ls []) := by
    intro j
    induction j with
    | zero =>
      intro k ls hj hl
      refine lv_iload hx hb dX0_partsWithin_16 (lv_at hl 0 rfl) ?_
      refine lv_aload_n hx hb dX0_partsWithin_18 rfl (lv_at hl 2 rfl) ?_
      refine g_get (C := RX0) (T := TX0) (N := 6) hx hb hts hi0 hown hN hP hk rfl (by decide) 2 (by decide) hfX0_21 (v := .int (nI n)) h2 dX0_partsWithin_19 ?_
      refine lv_icmp_ge (tgt := 46) hx hb dX0_partsWithin_22 (by decide) (fun c1 => ?_) (fun c1 => ?_)
      · have c1 : n ≤ (1 + k) := (nI_leI (by omega) (by omega)).mp c1
        refine lv_iload_n hx hb dX0_partsWithin_46 rfl (lv_at hl 1 rfl) ?_
        exact hret (some (.int (nI (prtN ln n most k)))) _ _ (by rw [show k = n - 1 by omega]) (rt_i dX0_partsWithin_47)
      · have c1 : (1 + k) < n := Nat.not_le.mp (fun z => c1 ((nI_leI (by omega) (by omega)).mpr z))
        exact absurd c1 (by omega)
    | succ j ih =>
      intro k ls hj hl
      have hb9 := prtN_le ln n most k
      refine lv_iload hx hb dX0_partsWithin_16 (lv_at hl 0 rfl) ?_
      refine lv_aload_n hx hb dX0_partsWithin_18 rfl (lv_at hl 2 rfl) ?_
      refine g_get (C := RX0) (T := TX0) (N := 6) hx hb hts hi0 hown hN hP hk rfl (by decide) 2 (by decide) hfX0_21 (v := .int (nI n)) h2 dX0_partsWithin_19 ?_
      refine lv_icmp_ge (tgt := 46) hx hb dX0_partsWithin_22 (by decide) (fun c1 => ?_) (fun c1 => ?_)
      · have c1 : n ≤ (1 + k) := (nI_leI (by omega) (by omega)).mp c1
        exact absurd c1 (by omega)
      · have c1 : (1 + k) < n := Nat.not_le.mp (fun z => c1 ((nI_leI (by omega) (by omega)).mpr z))
        refine lv_aload_n hx hb dX0_partsWithin_25 rfl (lv_at hl 2 rfl) ?_
        refine g_get (C := RX0) (T := TX0) (N := 6) hx hb hts hi0 hown hN hP hk rfl (by decide) 1 (by decide) hfX0_17 (v := .ref lens) h1 dX0_partsWithin_26 ?_
        refine lv_iload hx hb dX0_partsWithin_29 (lv_at hl 0 rfl) ?_
        refine g_lald (j := 1 + k) hx hb hN hP hke (by decide) (show _ = nI (1 + k) from rfl) (by omega) (v := .long (ln (1 + k))) (hln _ c1) dX0_partsWithin_31 ?_
        refine lv_lload_n hx hb dX0_partsWithin_32 rfl (lv_at hl 3 rfl) ?_
        refine W.lcmp hx hb dX0_partsWithin_33 ?_
        refine lv_if_le (tgt := 40) hx hb dX0_partsWithin_34 (by decide) (fun c2 => ?_) (fun c2 => ?_)
        · have c2 : _ := (lg_cmp_le _ _).mp c2
          refine lv_iinc (v := nI ((1 + k) + 1)) (lv' := [(4, .int (nI ((1 + k) + 1))), (3, .int (nI (prtN ln n most k))), (0, .ref J), (1, .long most)]) hx hb dX0_partsWithin_40 hl (k := 0) rfl (inc1 _) (by decide) rfl (fun ls hl => ?_)
          refine lv_goto (tgt := 16) hx hb dX0_partsWithin_43 (by decide) ?_
          exact ih (k + 1) ls (by omega) (by rw [show prtN ln n most (k + 1) = prtN ln n most k from if_neg (Int64.not_lt.mpr c2)]; exact lv_sub hl [0, 1, 2, 3] rfl)
        · have c2 : ¬ _ := fun z => c2 ((lg_cmp_le _ _).mpr z)
          refine lv_iinc (v := nI ((prtN ln n most k) + 1)) (lv' := [(3, .int (nI ((prtN ln n most k) + 1))), (4, .int (nI (1 + k))), (0, .ref J), (1, .long most)]) hx hb dX0_partsWithin_37 hl (k := 1) rfl (inc1 _) (by decide) rfl (fun ls hl => ?_)
          refine lv_iinc (v := nI ((1 + k) + 1)) (lv' := [(4, .int (nI ((1 + k) + 1))), (3, .int (nI ((prtN ln n most k) + 1))), (0, .ref J), (1, .long most)]) hx hb dX0_partsWithin_40 hl (k := 1) rfl (inc1 _) (by decide) rfl (fun ls hl => ?_)
          refine lv_goto (tgt := 16) hx hb dX0_partsWithin_43 (by decide) ?_
          exact ih (k + 1) ls (by omega) (by rw [show prtN ln n most (k + 1) = prtN ln n most k + 1 from if_pos (Int64.not_le.mp c2)]; exact lv_sub hl [0, 1, 2, 3] rfl)
  refine lv_aload_n hx hb dX0_partsWithin_0 rfl (lv_at hl 0 rfl) ?_
  refine g_get (C := RX0) (T := TX0) (N := 6) hx hb hts hi0 hown hN hP hk rfl (by decide) 2 (by decide) hfX0_21 (v := .int (nI n)) h2 dX0_partsWithin_1 ?_
  refine lv_if_le (tgt := 11) hx hb dX0_partsWithin_4 (by decide) (fun c1 => ?_) (fun c1 => ?_)
  · have c1 : n = 0 := (nI_le0 (by omega)).mp c1
    refine lv_iconst (v := nI 0) hx hb dX0_partsWithin_11 (by decide) ?_
    refine lv_istore_n (lv' := [(3, .int (nI 0)), (0, .ref J), (1, .long most)]) hx hb dX0_partsWithin_12 rfl hl (by decide) rfl (fun ls hl => ?_)
    refine lv_iconst (v := nI 1) hx hb dX0_partsWithin_13 (by decide) ?_
    refine lv_istore (lv' := [(4, .int (nI 1)), (3, .int (nI 0)), (0, .ref J), (1, .long most)]) hx hb dX0_partsWithin_14 hl (by decide) rfl (fun ls hl => ?_)
    exact loop (n - 1) 0 ls (by omega) (by rw [show prtN ln n most 0 = 0 from if_neg (by omega)]; exact lv_sub hl [0, 1, 2, 3] rfl)
  · have c1 : 0 < n := Nat.pos_of_ne_zero (fun z => c1 ((nI_le0 (by omega)).mpr z))
    refine lv_iconst (v := nI 1) hx hb dX0_partsWithin_7 (by decide) ?_
    refine lv_goto (tgt := 12) hx hb dX0_partsWithin_8 (by decide) ?_
    refine lv_istore_n (lv' := [(3, .int (nI 1)), (0, .ref J), (1, .long most)]) hx hb dX0_partsWithin_12 rfl hl (by decide) rfl (fun ls hl => ?_)
    refine lv_iconst (v := nI 1) hx hb dX0_partsWithin_13 (by decide) ?_
    refine lv_istore (lv' := [(4, .int (nI 1)), (3, .int (nI 1)), (0, .ref J), (1, .long most)]) hx hb dX0_partsWithin_14 hl (by decide) rfl (fun ls hl => ?_)
    exact loop (n - 1) 0 ls (by omega) (by rw [show prtN ln n most 0 = 1 from if_pos c1]; exact lv_sub hl [0, 1, 2, 3] rfl)

set_option maxHeartbeats 4000000 in
set_option maxRecDepth 100000 in
theorem c_sum (l : Launch) (Γ : gG) (K : gK) (F : gF) (J lens n : Nat) (ln : Nat → Int64) (hk : K J = some (0, 0)) (hke : K lens = some (9, 60)) (h1 : F J 1 = .ref lens) (h2 : F J 2 = .int (nI n)) (hln : ∀ i, i < n → F lens i = .long (ln i)) (h60 : n ≤ 60) : gMR l yX0_sum wsX0_sum 0 Γ K F [.ref J] (some (.long (sumN ln (n - 1)))) := by
  refine g_mR (cc := cX0_sum) (maxL := 4) (ret := (some .long)) (by decide) rfl (Nat.le_of_ble_eq_true rfl) ?_
  intro p e s m args below meth c ls Z hx hb hts hown hml hN hP hret hl
  have hl : lv_has ls 4 [(0, .ref J)] := hl
  have hown : s.vm.findClass RX0 = some m.cls := hown
  have hi0 : ∀ w ∈ wsX00, w ∈ wsX0_sum := by decide +kernel
  have hfX0_17 : Cond.fieldLink RX0 17 (TX0 1).1 (TX0 1).2.1 (TX0 1).2.2.1 ∈ wsX0_sum := by decide +kernel
  have hfX0_21 : Cond.fieldLink RX0 21 (TX0 2).1 (TX0 2).2.1 (TX0 2).2.2.1 ∈ wsX0_sum := by decide +kernel
  have loop : ∀ (j k : Nat) (ls : Array Slot), k + j = n - 1 → lv_has ls 4 [(3, .int (nI (1 + k))), (1, .long (sumN ln k)), (0, .ref J)] → W p l e (gRm 0 0 0) s m args below meth c s.heap [] 0 0 Z (F0 m 4 ls []) := by
    intro j
    induction j with
    | zero =>
      intro k ls hj hl
      refine lv_iload_n hx hb dX0_sum_4 rfl (lv_at hl 0 rfl) ?_
      refine lv_aload_n hx hb dX0_sum_5 rfl (lv_at hl 2 rfl) ?_
      refine g_get (C := RX0) (T := TX0) (N := 6) hx hb hts hi0 hown hN hP hk rfl (by decide) 2 (by decide) hfX0_21 (v := .int (nI n)) h2 dX0_sum_6 ?_
      refine lv_icmp_ge (tgt := 27) hx hb dX0_sum_9 (by decide) (fun c1 => ?_) (fun c1 => ?_)
      · have c1 : n ≤ (1 + k) := (nI_leI (by omega) (by omega)).mp c1
        refine lv_lload_n hx hb dX0_sum_27 rfl (lv_at hl 1 rfl) ?_
        exact hret (some (.long (sumN ln k))) _ _ (by rw [show k = n - 1 by omega]) (rt_l dX0_sum_28)
      · have c1 : (1 + k) < n := Nat.not_le.mp (fun z => c1 ((nI_leI (by omega) (by omega)).mpr z))
        exact absurd c1 (by omega)
    | succ j ih =>
      intro k ls hj hl
      refine lv_iload_n hx hb dX0_sum_4 rfl (lv_at hl 0 rfl) ?_
      refine lv_aload_n hx hb dX0_sum_5 rfl (lv_at hl 2 rfl) ?_
      refine g_get (C := RX0) (T := TX0) (N := 6) hx hb hts hi0 hown hN hP hk rfl (by decide) 2 (by decide) hfX0_21 (v := .int (nI n)) h2 dX0_sum_6 ?_
      refine lv_icmp_ge (tgt := 27) hx hb dX0_sum_9 (by decide) (fun c1 => ?_) (fun c1 => ?_)
      · have c1 : n ≤ (1 + k) := (nI_leI (by omega) (by omega)).mp c1
        exact absurd c1 (by omega)
      · have c1 : (1 + k) < n := Nat.not_le.mp (fun z => c1 ((nI_leI (by omega) (by omega)).mpr z))
        refine lv_lload_n hx hb dX0_sum_12 rfl (lv_at hl 1 rfl) ?_
        refine lv_aload_n hx hb dX0_sum_13 rfl (lv_at hl 2 rfl) ?_
        refine g_get (C := RX0) (T := TX0) (N := 6) hx hb hts hi0 hown hN hP hk rfl (by decide) 1 (by decide) hfX0_17 (v := .ref lens) h1 dX0_sum_14 ?_
        refine lv_iload_n hx hb dX0_sum_17 rfl (lv_at hl 0 rfl) ?_
        refine g_lald (j := 1 + k) hx hb hN hP hke (by decide) (show _ = nI (1 + k) from rfl) (by omega) (v := .long (ln (1 + k))) (hln _ c1) dX0_sum_18 ?_
        refine lv_ladd hx hb dX0_sum_19 ?_
        refine lv_lstore_n (lv' := [(1, .long ((sumN ln k) + (ln (1 + k)))), (3, .int (nI (1 + k))), (0, .ref J)]) hx hb dX0_sum_20 rfl hl (by decide) rfl (fun ls hl => ?_)
        refine lv_iinc (v := nI ((1 + k) + 1)) (lv' := [(3, .int (nI ((1 + k) + 1))), (1, .long ((sumN ln k) + (ln (1 + k)))), (0, .ref J)]) hx hb dX0_sum_21 hl (k := 1) rfl (inc1 _) (by decide) rfl (fun ls hl => ?_)
        refine lv_goto (tgt := 4) hx hb dX0_sum_24 (by decide) ?_
        exact ih (k + 1) ls (by omega) (lv_sub hl [0, 1, 2] rfl)
  refine lv_lconst (v := 0) hx hb dX0_sum_0 (by decide) ?_
  refine lv_lstore_n (lv' := [(1, .long 0), (0, .ref J)]) hx hb dX0_sum_1 rfl hl (by decide) rfl (fun ls hl => ?_)
  refine lv_iconst (v := nI 1) hx hb dX0_sum_2 (by decide) ?_
  refine lv_istore_n (lv' := [(3, .int (nI 1)), (1, .long 0), (0, .ref J)]) hx hb dX0_sum_3 rfl hl (by decide) rfl (fun ls hl => ?_)
  exact loop (n - 1) 0 ls (by omega) (lv_sub hl [0, 1, 2] rfl)

def prS (dt : Nat → gPt) (r1 r2 : Option Nat) (st : Int64 × Nat × Nat) : Int64 × Nat × Nat := match r1, r2 with
  | some a, some b => if dA dt a b < st.1 then (dA dt a b, (dt a).1, (dt b).1) else st
  | _, _ => st
def prR (K : gK) (F : gF) (J : Nat) (st : Int64 × Nat × Nat) : Prop := F J 3 = .int (nI st.2.1) ∧ F J 4 = .int (nI st.2.2) ∧ F J 5 = .long st.1

set_option maxHeartbeats 4000000 in
set_option maxRecDepth 100000 in
theorem c_cmp0 (l : Launch) (Γ : gG) (K : gK) (F : gF) (sz : Nat) (J : Nat) (r2 : Option Nat) (st : Int64 × Nat × Nat) (hS : prR K F J st) : gMM l yX0_comparePair wsX0_comparePair 2 0 0 Γ K F sz [.ref J, .null, va_rf r2] (fun v K' F' => v = none ∧ K' = K ∧ prR K F' J (st) ∧ ∀ b i, ¬ (b = J ∧ 3 ≤ i) → F' b i = F b i) := by
  refine g_mM (cc := cX0_comparePair) (maxL := 5) (ret := none) (by decide) rfl (by cases r2 <;> exact Nat.le_of_ble_eq_true rfl) ?_
  intro p e s m args below meth c ls Z hsz hx hb hts hown hml hnm hN hW hret hl
  have hl : lv_has ls 5 [(0, .ref J), (1, .null), (2, va_rf r2)] := by cases r2 <;> exact hl
  have hown : s.vm.findClass RX0 = some m.cls := hown
  refine lv_aload_nN hx hb dX0_comparePair_0 rfl (lv_at hl 1 rfl) ?_
  refine lv_ifnullN (tgt := 8) hx hb dX0_comparePair_1 (by decide) ?_
  exact hret none _ _ _ _ _ _ hW (⟨rfl, rfl, hS, fun _ _ _ => rfl⟩) (rt_v dX0_comparePair_8)

set_option maxHeartbeats 4000000 in
set_option maxRecDepth 100000 in
theorem c_cmp1 (l : Launch) (Γ : gG) (K : gK) (F : gF) (sz : Nat) (J a : Nat) (st : Int64 × Nat × Nat) (hS : prR K F J st) : gMM l yX0_comparePair wsX0_comparePair 2 0 0 Γ K F sz [.ref J, .ref a, .null] (fun v K' F' => v = none ∧ K' = K ∧ prR K F' J (st) ∧ ∀ b i, ¬ (b = J ∧ 3 ≤ i) → F' b i = F b i) := by
  refine g_mM (cc := cX0_comparePair) (maxL := 5) (ret := none) (by decide) rfl (Nat.le_of_ble_eq_true rfl) ?_
  intro p e s m args below meth c ls Z hsz hx hb hts hown hml hnm hN hW hret hl
  have hl : lv_has ls 5 [(0, .ref J), (1, .ref a), (2, .null)] := hl
  have hown : s.vm.findClass RX0 = some m.cls := hown
  refine lv_aload_n hx hb dX0_comparePair_0 rfl (lv_at hl 1 rfl) ?_
  refine lv_ifnull hx hb dX0_comparePair_1 ?_
  refine lv_aload_nN hx hb dX0_comparePair_4 rfl (lv_at hl 2 rfl) ?_
  refine lv_ifnonnullN hx hb dX0_comparePair_5 ?_
  exact hret none _ _ _ _ _ _ hW (⟨rfl, rfl, hS, fun _ _ _ => rfl⟩) (rt_v dX0_comparePair_8)

set_option maxHeartbeats 4000000 in
set_option maxRecDepth 100000 in
theorem c_cmp2 (l : Launch) (Γ : gG) (K : gK) (F : gF) (sz : Nat) (J a b : Nat) (st : Int64 × Nat × Nat) (dt : Nat → gPt) (pl : Nat → Nat) (hk : K J = some (0, 0)) (ha : ndD K F a (pl a) (dt a)) (hb2 : ndD K F b (pl b) (dt b)) (hS : prR K F J st) : gMM l yX0_comparePair wsX0_comparePair 2 0 0 Γ K F sz [.ref J, .ref a, .ref b] (fun v K' F' => v = none ∧ K' = K ∧ prR K F' J (prS dt (some a) (some b) st) ∧ ∀ b i, ¬ (b = J ∧ 3 ≤ i) → F' b i = F b i) := by
  refine g_mM (cc := cX0_comparePair) (maxL := 5) (ret := none) (by decide) rfl (Nat.le_of_ble_eq_true rfl) ?_
  intro p e s m args below meth c ls Z hsz hx hb hts hown hml hnm hN hW hret hl
  have hl : lv_has ls 5 [(0, .ref J), (1, .ref a), (2, .ref b)] := hl
  have hown : s.vm.findClass RX0 = some m.cls := hown
  have hi0 : ∀ w ∈ wsX00, w ∈ wsX0_comparePair := by decide +kernel
  have hi2 : ∀ w ∈ wsX20, w ∈ wsX0_comparePair := by decide +kernel
  have hfX0_29 : Cond.fieldLink RX0 29 (TX0 5).1 (TX0 5).2.1 (TX0 5).2.2.1 ∈ wsX0_comparePair := by decide +kernel
  have hfX0_37 : Cond.fieldLink RX0 37 (TX2 1).1 (TX2 1).2.1 (TX2 1).2.2.1 ∈ wsX0_comparePair := by decide +kernel
  have hfX0_47 : Cond.fieldLink RX0 47 (TX2 0).1 (TX2 0).2.1 (TX2 0).2.2.1 ∈ wsX0_comparePair := by decide +kernel
  have hfX0_50 : Cond.fieldLink RX0 50 (TX0 3).1 (TX0 3).2.1 (TX0 3).2.2.1 ∈ wsX0_comparePair := by decide +kernel
  have hfX0_53 : Cond.fieldLink RX0 53 (TX0 4).1 (TX0 4).2.1 (TX0 4).2.2.1 ∈ wsX0_comparePair := by decide +kernel
  refine lv_aload_n hx hb dX0_comparePair_0 rfl (lv_at hl 1 rfl) ?_
  refine lv_ifnull hx hb dX0_comparePair_1 ?_
  refine lv_aload_n hx hb dX0_comparePair_4 rfl (lv_at hl 2 rfl) ?_
  refine lv_ifnonnull (tgt := 9) hx hb dX0_comparePair_5 (by decide) ?_
  refine lv_aload_n hx hb dX0_comparePair_9 rfl (lv_at hl 1 rfl) ?_
  refine g_get (C := RX2) (T := TX2) (N := 9) hx hb hts hi2 hown hN hW.1 ha.1 rfl (by decide) 1 (by decide) hfX0_37 (v := .ref (pl a)) ha.2.2.2.1 dX0_comparePair_10 ?_
  refine lv_aload_n hx hb dX0_comparePair_13 rfl (lv_at hl 2 rfl) ?_
  refine g_get (C := RX2) (T := TX2) (N := 9) hx hb hts hi2 hown hN hW.1 hb2.1 rfl (by decide) 1 (by decide) hfX0_37 (v := .ref (pl b)) hb2.2.2.2.1 dX0_comparePair_14 ?_
  refine g_cV (v := (some (.long (dA dt a b)))) (As := [.ref (pl b)]) (b := pl a) (rest := []) hx hb hml hown hts hN hW.1 (c_distanceTo l Γ K F (pl a) (pl b) (dt a).2 (dt b).2 ha.2.1 ha.2.2.2.2.1 hb2.2.1 hb2.2.2.2.2.1) gX0_comparePair_X3_distanceTo rfl ha.2.1 (by decide) rfl (na := 1) rfl (by decide +kernel) ⟨by decide, by decide⟩ ⟨Nat.zero_le _, Nat.zero_le _⟩ rfl hl.1 (Nat.le_of_ble_eq_true rfl) dX0_comparePair_17 ?_
  show W _ _ _ _ _ _ _ _ _ _ _ _ _ _ _ (F0 m 20 ls [.long (dA dt a b)])
  refine lv_lstore_n (lv' := [(3, .long (dA dt a b)), (0, .ref J), (1, .ref a), (2, .ref b)]) hx hb dX0_comparePair_20 rfl hl (by decide) rfl (fun ls hl => ?_)
  refine lv_lload_n hx hb dX0_comparePair_21 rfl (lv_at hl 0 rfl) ?_
  refine lv_aload_n hx hb dX0_comparePair_22 rfl (lv_at hl 1 rfl) ?_
  refine g_get (C := RX0) (T := TX0) (N := 6) hx hb hts hi0 hown hN hW.1 hk rfl (by decide) 5 (by decide) hfX0_29 (v := .long st.1) hS.2.2 dX0_comparePair_23 ?_
  refine W.lcmp hx hb dX0_comparePair_26 ?_
  refine lv_if_ge (tgt := 51) hx hb dX0_comparePair_27 (by decide) (fun c1 => ?_) (fun c1 => ?_)
  · have c1 : _ := (lg_cmp_ge _ _).mp c1
    exact hret none _ _ _ _ _ _ hW (⟨rfl, rfl, by rw [show prS dt (some a) (some b) st = st from if_neg (Int64.not_lt.mpr c1)]; exact hS, fun _ _ _ => rfl⟩) (rt_v dX0_comparePair_51)
  · have c1 : ¬ _ := fun z => c1 ((lg_cmp_ge _ _).mpr z)
    refine lv_aload_n hx hb dX0_comparePair_30 rfl (lv_at hl 1 rfl) ?_
    refine lv_lload_n hx hb dX0_comparePair_31 rfl (lv_at hl 0 rfl) ?_
    refine g_put (C := RX0) (T := TX0) (N := 6) hx hb hts hi0 tyX0 tyX0_ok nmX0 hown hN hW hk rfl (by decide) 5 (by decide) hfX0_29 rfl rfl rfl dX0_comparePair_32 (fun H locs hW => ?_)
    refine lv_aload_n hx hb dX0_comparePair_35 rfl (lv_at hl 1 rfl) ?_
    refine lv_aload_n hx hb dX0_comparePair_36 rfl (lv_at hl 2 rfl) ?_
    refine g_get (C := RX2) (T := TX2) (N := 9) hx hb hts hi2 hown hN hW.1 ha.1 rfl (by decide) 0 (by decide) hfX0_47 (v := .int (nI (dt a).1)) ((gU_k (by decide)).trans ha.2.2.1) dX0_comparePair_37 ?_
    refine g_put (C := RX0) (T := TX0) (N := 6) hx hb hts hi0 tyX0 tyX0_ok nmX0 hown hN hW hk rfl (by decide) 3 (by decide) hfX0_50 rfl rfl rfl dX0_comparePair_40 (fun H locs hW => ?_)
    refine lv_aload_n hx hb dX0_comparePair_43 rfl (lv_at hl 1 rfl) ?_
    refine lv_aload_n hx hb dX0_comparePair_44 rfl (lv_at hl 3 rfl) ?_
    refine g_get (C := RX2) (T := TX2) (N := 9) hx hb hts hi2 hown hN hW.1 hb2.1 rfl (by decide) 0 (by decide) hfX0_47 (v := .int (nI (dt b).1)) ((gU_k (by decide)).trans ((gU_k (by decide)).trans hb2.2.2.1)) dX0_comparePair_45 ?_
    refine g_put (C := RX0) (T := TX0) (N := 6) hx hb hts hi0 tyX0 tyX0_ok nmX0 hown hN hW hk rfl (by decide) 4 (by decide) hfX0_53 rfl rfl rfl dX0_comparePair_48 (fun H locs hW => ?_)
    exact hret none _ _ _ _ _ _ hW (⟨rfl, rfl, by rw [show prS dt (some a) (some b) st = _ from if_pos (Int64.not_le.mp c1)]; exact ⟨by rw [gU_k (by decide)]; exact gU_self, gU_self, by rw [gU_k (by decide), gU_k (by decide)]; exact gU_self⟩, fun b i h => by rw [gU_ne (fun z => h ⟨z.1, by omega⟩), gU_ne (fun z => h ⟨z.1, by omega⟩), gU_ne (fun z => h ⟨z.1, by omega⟩)]⟩) (rt_v dX0_comparePair_51)

theorem c_comparePair (l : Launch) (Γ : gG) (K : gK) (F : gF) (sz : Nat) (J : Nat) (r1 r2 : Option Nat) (st : Int64 × Nat × Nat) (dt : Nat → gPt) (pl : Nat → Nat) (hk : K J = some (0, 0)) (h1 : ∀ a, r1 = some a → ndD K F a (pl a) (dt a)) (h2 : ∀ a, r2 = some a → ndD K F a (pl a) (dt a)) (hS : prR K F J st) : gMM l yX0_comparePair wsX0_comparePair 2 0 0 Γ K F sz [.ref J, va_rf r1, va_rf r2] (fun v K' F' => v = none ∧ K' = K ∧ prR K F' J (prS dt r1 r2 st) ∧ ∀ b i, ¬ (b = J ∧ 3 ≤ i) → F' b i = F b i) := by
  cases r1 with
  | none => exact c_cmp0 l Γ K F sz J r2 st hS
  | some a =>
    cases r2 with
    | none => exact c_cmp1 l Γ K F sz J a st hS
    | some b => exact c_cmp2 l Γ K F sz J a b st dt pl hk (h1 a rfl) (h2 b rfl) hS

def prIn (dt : Nat → gPt) (nd : Nat → Option Nat) (i k : Nat) (st : Int64 × Nat × Nat) : Int64 × Nat × Nat := itr (fun j s => prS dt (nd i) (nd j) s) (i + 1) k st
def prOut (dt : Nat → gPt) (nd : Nat → Option Nat) (k : Nat) (st : Int64 × Nat × Nat) : Int64 × Nat × Nat := itr (fun i s => prIn dt nd i (99 - i) s) 0 k st

set_option maxHeartbeats 4000000 in
set_option maxRecDepth 100000 in
theorem c_findNearestPair (l : Launch) (Γ : gG) (K : gK) (F : gF) (sz : Nat) (J lb : Nat) (nd : Nat → Option Nat) (dt : Nat → gPt) (pl : Nat → Nat) (st : Int64 × Nat × Nat) (hk : K J = some (0, 0)) (hkl : K lb = some (11, 100)) (hN9 : rowN F lb nd) (hND : ∀ i a, i < 100 → nd i = some a → ndD K F a (pl a) (dt a)) (hS : prR K F J st) : gMM l yX0_findNearestPair wsX0_findNearestPair 3 0 0 Γ K F sz [.ref J, .ref lb] (fun v K' F' => v = none ∧ K' = K ∧ prR K F' J (prOut dt nd 100 (9223372036854775807, st.2)) ∧ ∀ b i, ¬ (b = J ∧ 3 ≤ i) → F' b i = F b i) := by
  refine g_mM (cc := cX0_findNearestPair) (maxL := 4) (ret := none) (by decide) rfl (Nat.le_of_ble_eq_true rfl) ?_
  intro p e s m args below meth c ls Z hsz hx hb hts hown hml hnm hN hW hret hl
  have hl : lv_has ls 4 [(0, .ref J), (1, .ref lb)] := hl
  have hown : s.vm.findClass RX0 = some m.cls := hown
  have hi0 : ∀ w ∈ wsX00, w ∈ wsX0_findNearestPair := by decide +kernel
  have hfX0_29 : Cond.fieldLink RX0 29 (TX0 5).1 (TX0 5).2.1 (TX0 5).2.2.1 ∈ wsX0_findNearestPair := by decide +kernel
  obtain ⟨s0, hs0⟩ : ∃ s0 : Int64 × Nat × Nat, s0 = (9223372036854775807, st.2) := ⟨_, rfl⟩
  rw [← hs0] at hret
  have hJl : lb ≠ J := kne hkl hk (by decide)
  have inner : ∀ (r k i : Nat) (s1 : Int64 × Nat × Nat) (F1 : gF) (H : Heap) (locs : List Loc) (ls : Array Slot), i < 100 → i + 1 + k + r = 100 → prR K F1 J (prIn dt nd i k s1) → (∀ b i, ¬ (b = J ∧ 3 ≤ i) → F1 b i = F b i) → gW Γ (gA K sz) s.heap K F1 H locs → lv_has ls 4 [(3, .int (nI (i + 1 + k))), (2, .int (nI i)), (0, .ref J), (1, .ref lb)] → (∀ (F1 : gF) (H : Heap) (locs : List Loc) (ls : Array Slot), prR K F1 J (prIn dt nd i (99 - i) s1) → (∀ b i, ¬ (b = J ∧ 3 ≤ i) → F1 b i = F b i) → gW Γ (gA K sz) s.heap K F1 H locs → lv_has ls 4 [(2, .int (nI i)), (0, .ref J), (1, .ref lb)] → W p l e (gRm 3 0 0) s m args below meth c H locs 0 0 Z (F0 m 41 ls [])) → W p l e (gRm 3 0 0) s m args below meth c H locs 0 0 Z (F0 m 19 ls []) := by
    intro r
    induction r with
    | zero =>
      intro k i s1 F1 H locs ls hi hr hS hfr hW hl kk
      refine lv_iload_n hx hb dX0_findNearestPair_19 rfl (lv_at hl 0 rfl) ?_
      refine lv_aload_n hx hb dX0_findNearestPair_20 rfl (lv_at hl 3 rfl) ?_
      refine g_alen (t := 3) hx hb hN hW.1 hkl rfl dX0_findNearestPair_21 ?_
      refine lv_icmp_ge (tgt := 41) hx hb dX0_findNearestPair_22 (by decide) (fun c1 => ?_) (fun c1 => ?_)
      · have c1 : 100 ≤ (i + 1 + k) := (nI_leI (by omega) (by omega)).mp c1
        exact kk F1 H locs ls (by rw [show 99 - i = k by omega]; exact hS) hfr hW (lv_sub hl [1, 2, 3] rfl)
      · have c1 : (i + 1 + k) < 100 := Nat.not_le.mp (fun z => c1 ((nI_leI (by omega) (by omega)).mpr z))
        exact absurd c1 (by omega)
    | succ r ih =>
      intro k i s1 F1 H locs ls hi hr hS hfr hW hl kk
      refine lv_iload_n hx hb dX0_findNearestPair_19 rfl (lv_at hl 0 rfl) ?_
      refine lv_aload_n hx hb dX0_findNearestPair_20 rfl (lv_at hl 3 rfl) ?_
      refine g_alen (t := 3) hx hb hN hW.1 hkl rfl dX0_findNearestPair_21 ?_
      refine lv_icmp_ge (tgt := 41) hx hb dX0_findNearestPair_22 (by decide) (fun c1 => ?_) (fun c1 => ?_)
      · have c1 : 100 ≤ (i + 1 + k) := (nI_leI (by omega) (by omega)).mp c1
        exact absurd c1 (by omega)
      · have c1 : (i + 1 + k) < 100 := Nat.not_le.mp (fun z => c1 ((nI_leI (by omega) (by omega)).mpr z))
        have nlb : ∀ i, i < 100 → F1 lb i = va_rf (nd i) := fun i hi => (hfr lb i (fun z => hJl z.1)).trans (hN9 i hi)
        have np : ∀ b j, (K b = some (2, 0) ∧ j < 2) ∨ K b = some (3, 0) → F1 b j = F b j := fun b j q => hfr b j (fun z => q.elim (fun q => kne q.1 hk (by decide) z.1) (fun q => kne q hk (by decide) z.1))
        have nn : ∀ i a, i < 100 → nd i = some a → ndD K F1 a (pl a) (dt a) := fun i a hi ha => ndD_congr np (hND i a hi ha)
        refine lv_aload_n hx hb dX0_findNearestPair_25 rfl (lv_at hl 2 rfl) ?_
        refine lv_aload_n hx hb dX0_findNearestPair_26 rfl (lv_at hl 3 rfl) ?_
        refine lv_iload_n hx hb dX0_findNearestPair_27 rfl (lv_at hl 1 rfl) ?_
        refine g_aald (j := i) hx hb hN hW.1 hkl (by decide) (show _ = nI i from rfl) hi (v := va_rf (nd i)) (nlb i hi) dX0_findNearestPair_28 ?_
        refine lv_aload_n hx hb dX0_findNearestPair_29 rfl (lv_at hl 3 rfl) ?_
        refine lv_iload_n hx hb dX0_findNearestPair_30 rfl (lv_at hl 0 rfl) ?_
        refine g_aald (j := i + 1 + k) hx hb hN hW.1 hkl (by decide) (show _ = nI (i + 1 + k) from rfl) (by omega) (v := va_rf (nd (i + 1 + k))) (nlb _ (by omega)) dX0_findNearestPair_31 ?_
        refine g_mV (As := [va_rf (nd i), va_rf (nd (i + 1 + k))]) (b := J) (rest := []) hx hb hml hown hts hN hW (c_comparePair l Γ K F1 H.size J (nd i) (nd (i + 1 + k)) (prIn dt nd i k s1) dt pl hk (fun a h => nn i a hi h) (fun a h => nn _ a (by omega) h) hS) gX0_findNearestPair_X0_comparePair rfl hk (by decide) rfl (na := 2) rfl (by decide +kernel) ⟨by decide, by decide⟩ ⟨Nat.le_of_ble_eq_true rfl, Nat.le_of_ble_eq_true rfl⟩ rfl hl.1 (Nat.le_of_ble_eq_true rfl) dX0_findNearestPair_32 (fun v K' F2 H locs hp hW hsz' => ?_)
        obtain ⟨rfl, hK9, hS2, hfr2⟩ := hp
        subst K'
        show W _ _ _ _ _ _ _ _ _ _ _ _ _ _ _ (F0 m 35 ls [])
        refine lv_iinc (v := nI ((i + 1 + k) + 1)) (lv' := [(3, .int (nI ((i + 1 + k) + 1))), (2, .int (nI i)), (0, .ref J), (1, .ref lb)]) hx hb dX0_findNearestPair_35 hl (k := 0) rfl (inc1 _) (by decide) rfl (fun ls hl => ?_)
        refine lv_goto (tgt := 19) hx hb dX0_findNearestPair_38 (by decide) ?_
        exact ih (k + 1) i s1 F2 H locs ls hi (by omega) hS2 (fun b i hb => (hfr2 b i hb).trans (hfr b i hb)) hW (lv_sub hl [0, 1, 2, 3] rfl) kk
  have outer : ∀ (r i : Nat) (F1 : gF) (H : Heap) (locs : List Loc) (ls : Array Slot), i + r = 100 → prR K F1 J (prOut dt nd i s0) → (∀ b i, ¬ (b = J ∧ 3 ≤ i) → F1 b i = F b i) → gW Γ (gA K sz) s.heap K F1 H locs → lv_has ls 4 [(2, .int (nI i)), (0, .ref J), (1, .ref lb)] → W p l e (gRm 3 0 0) s m args below meth c H locs 0 0 Z (F0 m 9 ls []) := by
    intro r
    induction r with
    | zero =>
      intro i F1 H locs ls hr hS hfr hW hl
      refine lv_iload_n hx hb dX0_findNearestPair_9 rfl (lv_at hl 0 rfl) ?_
      refine lv_aload_n hx hb dX0_findNearestPair_10 rfl (lv_at hl 2 rfl) ?_
      refine g_alen (t := 3) hx hb hN hW.1 hkl rfl dX0_findNearestPair_11 ?_
      refine lv_icmp_ge (tgt := 47) hx hb dX0_findNearestPair_12 (by decide) (fun c1 => ?_) (fun c1 => ?_)
      · have c1 : 100 ≤ i := (nI_leI (by omega) (by omega)).mp c1
        obtain rfl : i = 100 := by omega
        exact hret none _ _ _ _ _ _ hW (⟨rfl, rfl, hS, hfr⟩) (rt_v dX0_findNearestPair_47)
      · have c1 : i < 100 := Nat.not_le.mp (fun z => c1 ((nI_leI (by omega) (by omega)).mpr z))
        exact absurd c1 (by omega)
    | succ r ih =>
      intro i F1 H locs ls hr hS hfr hW hl
      refine lv_iload_n hx hb dX0_findNearestPair_9 rfl (lv_at hl 0 rfl) ?_
      refine lv_aload_n hx hb dX0_findNearestPair_10 rfl (lv_at hl 2 rfl) ?_
      refine g_alen (t := 3) hx hb hN hW.1 hkl rfl dX0_findNearestPair_11 ?_
      refine lv_icmp_ge (tgt := 47) hx hb dX0_findNearestPair_12 (by decide) (fun c1 => ?_) (fun c1 => ?_)
      · have c1 : 100 ≤ i := (nI_leI (by omega) (by omega)).mp c1
        exact absurd c1 (by omega)
      · have c1 : i < 100 := Nat.not_le.mp (fun z => c1 ((nI_leI (by omega) (by omega)).mpr z))
        refine lv_iload_n hx hb dX0_findNearestPair_15 rfl (lv_at hl 0 rfl) ?_
        refine lv_iconst (v := nI 1) hx hb dX0_findNearestPair_16 (by decide) ?_
        refine lv_iadd hx hb dX0_findNearestPair_17 ?_
        refine g_asi (show _ = nI (i + 1) from (nI_add _ _).trans (by rfl)) ?_
        refine lv_istore_n (lv' := [(3, .int (nI (i + 1))), (2, .int (nI i)), (0, .ref J), (1, .ref lb)]) hx hb dX0_findNearestPair_18 rfl hl (by decide) rfl (fun ls hl => ?_)
        refine inner (99 - i) 0 i (prOut dt nd i s0) F1 H locs ls c1 (by omega) hS hfr hW (lv_sub hl [0, 1, 2, 3] rfl) (fun F1 H locs ls hS hfr hW hl => ?_)
        refine lv_iinc (v := nI (i + 1)) (lv' := [(2, .int (nI (i + 1))), (0, .ref J), (1, .ref lb)]) hx hb dX0_findNearestPair_41 hl (k := 0) rfl (inc1 _) (by decide) rfl (fun ls hl => ?_)
        refine lv_goto (tgt := 9) hx hb dX0_findNearestPair_44 (by decide) ?_
        exact ih (i + 1) F1 H locs ls (by omega) (by show prR K F1 J (prIn dt nd (0 + i) (99 - (0 + i)) (prOut dt nd i s0)); rw [Nat.zero_add]; exact hS) hfr hW (lv_sub hl [0, 1, 2] rfl)
  refine lv_aload_n hx hb dX0_findNearestPair_0 rfl (lv_at hl 0 rfl) ?_
  refine lv_ldc2 (v := 9223372036854775807) hx hb hown (hts _ (show Cond.constantLong RX0 27 (9223372036854775807) ∈ _ by decide +kernel)) dX0_findNearestPair_1 ?_
  refine g_put (C := RX0) (T := TX0) (N := 6) hx hb hts hi0 tyX0 tyX0_ok nmX0 hown hN hW hk rfl (by decide) 5 (by decide) hfX0_29 rfl rfl rfl dX0_findNearestPair_4 (fun H locs hW => ?_)
  refine lv_iconst (v := nI 0) hx hb dX0_findNearestPair_7 (by decide) ?_
  refine lv_istore_n (lv' := [(2, .int (nI 0)), (0, .ref J), (1, .ref lb)]) hx hb dX0_findNearestPair_8 rfl hl (by decide) rfl (fun ls hl => ?_)
  exact outer 100 0 _ H locs ls rfl (by rw [hs0]; exact ⟨(gU_k (by decide)).trans hS.1, (gU_k (by decide)).trans hS.2.1, gU_self⟩) (fun b i hb => gU_ne (fun z => hb ⟨z.1, by omega⟩)) hW (lv_sub hl [0, 1, 2] rfl)
