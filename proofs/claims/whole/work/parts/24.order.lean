theorem rowL.get {F : gF} {a o : Nat} {L : List Value} (h : rowL F a o L) {j : Nat} {v : Value} (hj : L[j]? = some v) : F a (o + j) = v := h j v hj

set_option maxHeartbeats 4000000 in
set_option maxRecDepth 100000 in
theorem c_order (l : Launch) (Γ : gG) (K : gK) (F : gF) (sz : Nat) (T row fr ax : Nat) (L : List Nat) (dt : Nat → gPt) (pl : Nat → Nat) (dd : Nat → Bool) (hk : K T = some (5, 0)) (hkr : K row = some (11, 60)) (h1 : F T 1 = .ref row) (hrow : rowL F row fr (L.map vRf)) (hND : NDs K F dt pl dd L) (hax : ax < 4) (h60 : fr + L.length ≤ 60) : gMM l yX5_order wsX5_order 3 0 0 Γ K F sz [.ref T, .int (nI fr), .int (nI (fr + L.length)), .int (nI ax)] (fun v K' F' => v = none ∧ K' = K ∧ rowL F' row fr ((isort (ltA dt ax) [] L).map vRf) ∧ ∀ b i, ¬ (b = row ∧ fr ≤ i ∧ i < fr + L.length) → F' b i = F b i) := by
  refine g_mM (cc := cX5_order) (maxL := 7) (ret := none) (by decide) rfl (Nat.le_of_ble_eq_true rfl) ?_
  intro p e s m args below meth c ls Z hsz hx hb hts hown hml hnm hN hW hret hl
  have hl : lv_has ls 7 [(0, .ref T), (1, .int (nI fr)), (2, .int (nI (fr + L.length))), (3, .int (nI ax))] := hl
  have hown : s.vm.findClass RX5 = some m.cls := hown
  have hi5 : ∀ w ∈ wsX50, w ∈ wsX5_order := by decide +kernel
  have hfX5_17 : Cond.fieldLink RX5 17 (TX5 1).1 (TX5 1).2.1 (TX5 1).2.2.1 ∈ wsX5_order := by decide +kernel
  have dRT := kne hk hkr (by decide)
  have inner : ∀ (n : Nat) (P Q M : List Nat) (x nx : Nat) (F1 : gF) (H : Heap) (locs : List Loc) (ls : Array Slot), P.length = n → n + Q.length + 1 + M.length = L.length → (∀ z ∈ P ++ Q, z ∈ L) → x ∈ L → (∀ q ∈ Q, ltA dt ax x q = true) → rowL F1 row fr (P.map vRf) → rowL F1 row (fr + n + 1) ((Q ++ M).map vRf) → (∀ b i, ¬ (b = row ∧ fr ≤ i ∧ i < fr + L.length) → F1 b i = F b i) → gW Γ (gA K sz) s.heap K F1 H locs → lv_has ls 7 [(6, .int (nI (fr + n))), (5, .ref x), (4, .int (nI nx)), (0, .ref T), (1, .int (nI fr)), (2, .int (nI (fr + L.length))), (3, .int (nI ax))] →
        (∀ (F2 : gF) (H : Heap) (locs : List Loc) (ls : Array Slot), rowL F2 row fr ((insR (ltA dt ax) x (P ++ Q) ++ M).map vRf) → (∀ b i, ¬ (b = row ∧ fr ≤ i ∧ i < fr + L.length) → F2 b i = F b i) → gW Γ (gA K sz) s.heap K F2 H locs → lv_has ls 7 [(4, .int (nI nx)), (0, .ref T), (1, .int (nI fr)), (2, .int (nI (fr + L.length))), (3, .int (nI ax))] → W p l e (gRm 3 0 0) s m args below meth c H locs 0 0 Z (F0 m 79 ls [])) → W p l e (gRm 3 0 0) s m args below meth c H locs 0 0 Z (F0 m 24 ls []) := by
    intro n
    induction n with
    | zero =>
      intro P Q M x nx F1 H locs ls hPn hlen hsub hxL hQ hP hQM hfr hW hl kk
      have f2 : F1 T 1 = .ref row := (hfr T 1 (fun z => dRT z.1)).trans h1
      refine lv_iload hx hb dX5_order_24 (lv_at hl 0 rfl) ?_
      refine lv_iload_n hx hb dX5_order_26 rfl (lv_at hl 4 rfl) ?_
      refine lv_icmp_le (tgt := 70) hx hb dX5_order_27 (by decide) (fun c1 => ?_) (fun c1 => ?_)
      · have c1 : (fr + 0) ≤ fr := (nI_leI (by omega) (by omega)).mp c1
        obtain rfl : P = [] := List.length_eq_zero_iff.mp hPn
        refine lv_aload_n hx hb dX5_order_70 rfl (lv_at hl 3 rfl) ?_
        refine g_get (C := RX5) (T := TX5) (N := 4) hx hb hts hi5 hown hN hW.1 hk rfl (by decide) 1 (by decide) hfX5_17 (v := .ref row) f2 dX5_order_71 ?_
        refine lv_iload hx hb dX5_order_74 (lv_at hl 0 rfl) ?_
        refine lv_aload hx hb dX5_order_76 (lv_at hl 1 rfl) ?_
        refine g_aast (j := fr + 0) hx hb hN hW hkr (by decide) (hND x hxL).1.1 (show _ = nI (fr + 0) from rfl) (by omega) dX5_order_78 (fun H locs hW => ?_)
        have q := rowL.fill (v := vRf x) hP (Q := (Q ++ M).map vRf) hQM
        refine kk _ H locs ls (by rw [List.nil_append, insR_all hQ, List.cons_append]; exact q) (fun b i hb => by rw [gU_ne (fun z => hb ⟨z.1, by omega, by omega⟩)]; exact hfr b i hb) hW (lv_sub hl [2, 3, 4, 5, 6] rfl)
      · have c1 : fr < (fr + 0) := Nat.not_le.mp (fun z => c1 ((nI_leI (by omega) (by omega)).mpr z))
        exact absurd c1 (by omega)
    | succ n ih =>
      intro P Q M x nx F1 H locs ls hPn hlen hsub hxL hQ hP hQM hfr hW hl kk
      have f2 : F1 T 1 = .ref row := (hfr T 1 (fun z => dRT z.1)).trans h1
      refine lv_iload hx hb dX5_order_24 (lv_at hl 0 rfl) ?_
      refine lv_iload_n hx hb dX5_order_26 rfl (lv_at hl 4 rfl) ?_
      refine lv_icmp_le (tgt := 70) hx hb dX5_order_27 (by decide) (fun c1 => ?_) (fun c1 => ?_)
      · have c1 : (fr + (n + 1)) ≤ fr := (nI_leI (by omega) (by omega)).mp c1
        exact absurd c1 (by omega)
      · have c1 : fr < (fr + (n + 1)) := Nat.not_le.mp (fun z => c1 ((nI_leI (by omega) (by omega)).mpr z))
        obtain ⟨P, z, rfl, hPl⟩ := snoc_of hPn
        have hzL : z ∈ L := hsub z (by simp)
        rw [List.map_append] at hP
        have hz := rowL.last (v := vRf z) hP
        rw [List.length_map, hPl] at hz
        have nx1 : ndD K F1 x (pl x) (dt x) := ndD_congr (fun b j q => hfr b j (fun z => q.elim (fun q => kne q.1 hkr (by decide) z.1) (fun q => kne q hkr (by decide) z.1))) (hND x hxL).1
        have nz1 : ndD K F1 z (pl z) (dt z) := ndD_congr (fun b j q => hfr b j (fun z => q.elim (fun q => kne q.1 hkr (by decide) z.1) (fun q => kne q hkr (by decide) z.1))) (hND z hzL).1
        refine lv_aload hx hb dX5_order_30 (lv_at hl 1 rfl) ?_
        refine lv_aload_n hx hb dX5_order_32 rfl (lv_at hl 3 rfl) ?_
        refine g_get (C := RX5) (T := TX5) (N := 4) hx hb hts hi5 hown hN hW.1 hk rfl (by decide) 1 (by decide) hfX5_17 (v := .ref row) f2 dX5_order_33 ?_
        refine lv_iload hx hb dX5_order_36 (lv_at hl 0 rfl) ?_
        refine lv_iconst (v := nI 1) hx hb dX5_order_38 (by decide) ?_
        refine lv_isub hx hb dX5_order_39 ?_
        refine g_asi (show _ = nI ((fr + (n + 1)) - 1) from pk_sub (by omega)) ?_
        refine g_aald (j := fr + n) hx hb hN hW.1 hkr (by decide) (show _ = nI (fr + n) from rfl) (by omega) (v := .ref z) hz dX5_order_40 ?_
        refine lv_iload_n hx hb dX5_order_41 rfl (lv_at hl 6 rfl) ?_
        refine g_cS (v := (some (.int (bI (ltA dt ax x z))))) (As := [.ref x, .ref z, .int (nI ax)]) (rest := []) hx hb hml hown hts hN hW.1 (c_isAheadT l Γ K F1 x z (pl x) (pl z) (dt x) (dt z) ax nx1 nz1 hax) gX5_order_X5_isAhead rfl (na := 3) rfl (by decide +kernel) ⟨by decide, by decide⟩ ⟨Nat.zero_le _, Nat.zero_le _⟩ rfl hl.1 (Nat.le_of_ble_eq_true rfl) dX5_order_42 ?_
        show W _ _ _ _ _ _ _ _ _ _ _ _ _ _ _ (F0 m 45 ls [.int (bI (ltA dt ax x z))])
        refine lv_if_eq (tgt := 70) hx hb dX5_order_45 (by decide) (fun c2 => ?_) (fun c2 => ?_)
        · have c2 : (ltA dt ax x z) = false := bI_0.mp c2
          refine lv_aload_n hx hb dX5_order_70 rfl (lv_at hl 3 rfl) ?_
          refine g_get (C := RX5) (T := TX5) (N := 4) hx hb hts hi5 hown hN hW.1 hk rfl (by decide) 1 (by decide) hfX5_17 (v := .ref row) f2 dX5_order_71 ?_
          refine lv_iload hx hb dX5_order_74 (lv_at hl 0 rfl) ?_
          refine lv_aload hx hb dX5_order_76 (lv_at hl 1 rfl) ?_
          refine g_aast (j := fr + (n + 1)) hx hb hN hW hkr (by decide) (hND x hxL).1.1 (show _ = nI (fr + (n + 1)) from rfl) (by omega) dX5_order_78 (fun H locs hW => ?_)
          have q := rowL.fill (v := vRf x) hP (Q := (Q ++ M).map vRf) (by rw [List.length_append, List.length_map, hPl]; exact hQM)
          rw [List.length_append, List.length_map, hPl] at q
          refine kk _ H locs ls (by rw [insR_eq hQ c2, List.append_assoc, List.map_append, List.map_append]; exact q) (fun b i hb => by rw [gU_ne (fun z => hb ⟨z.1, by omega, by omega⟩)]; exact hfr b i hb) hW (lv_sub hl [2, 3, 4, 5, 6] rfl)
        · have c2 : (ltA dt ax x z) = true := bI_n0.mp c2
          refine lv_aload_n hx hb dX5_order_48 rfl (lv_at hl 3 rfl) ?_
          refine g_get (C := RX5) (T := TX5) (N := 4) hx hb hts hi5 hown hN hW.1 hk rfl (by decide) 1 (by decide) hfX5_17 (v := .ref row) f2 dX5_order_49 ?_
          refine lv_iload hx hb dX5_order_52 (lv_at hl 0 rfl) ?_
          refine lv_aload_n hx hb dX5_order_54 rfl (lv_at hl 3 rfl) ?_
          refine g_get (C := RX5) (T := TX5) (N := 4) hx hb hts hi5 hown hN hW.1 hk rfl (by decide) 1 (by decide) hfX5_17 (v := .ref row) f2 dX5_order_55 ?_
          refine lv_iload hx hb dX5_order_58 (lv_at hl 0 rfl) ?_
          refine lv_iconst (v := nI 1) hx hb dX5_order_60 (by decide) ?_
          refine lv_isub hx hb dX5_order_61 ?_
          refine g_asi (show _ = nI ((fr + (n + 1)) - 1) from pk_sub (by omega)) ?_
          refine g_aald (j := fr + n) hx hb hN hW.1 hkr (by decide) (show _ = nI (fr + n) from rfl) (by omega) (v := .ref z) hz dX5_order_62 ?_
          refine g_aast (j := fr + (n + 1)) hx hb hN hW hkr (by decide) (hND z hzL).1.1 (show _ = nI (fr + (n + 1)) from rfl) (by omega) dX5_order_63 (fun H locs hW => ?_)
          have hl : lv_has ls 7 [(6, .int (nI (fr + n + 1))), (5, .ref x), (4, .int (nI nx)), (0, .ref T), (1, .int (nI fr)), (2, .int (nI (fr + L.length))), (3, .int (nI ax))] := hl
          refine lv_iinc (v := nI (fr + n)) (lv' := [(6, .int (nI (fr + n))), (5, .ref x), (4, .int (nI nx)), (0, .ref T), (1, .int (nI fr)), (2, .int (nI (fr + L.length))), (3, .int (nI ax))]) hx hb dX5_order_64 hl (k := 0) rfl (dec1s _) (by decide) rfl (fun ls hl => ?_)
          refine lv_goto (tgt := 24) hx hb dX5_order_67 (by decide) ?_
          have q := rowL.shift (v := vRf z) hP (Q := (Q ++ M).map vRf) (by rw [List.length_map, hPl]; exact hQM)
          rw [List.length_map, hPl] at q
          exact ih P (z :: Q) M x nx _ H locs ls hPl (by rw [← hlen, List.length_cons]; omega) (fun y hy => hsub y (by simpa using hy)) hxL (fun y hy => by
            rcases List.mem_cons.mp hy with rfl | hy
            · exact c2
            · exact hQ y hy) q.1 q.2 (fun b i hb => by rw [gU_ne (fun z => hb ⟨z.1, by omega, by omega⟩)]; exact hfr b i hb) hW (lv_sub hl [0, 1, 2, 3, 4, 5, 6] rfl) (by rw [show P ++ z :: Q = P ++ [z] ++ Q by simp]; exact kk)
  have outer : ∀ (M L0 : List Nat) (n : Nat) (F1 : gF) (H : Heap) (locs : List Loc) (ls : Array Slot), L = L0 ++ M → L0.length = n → rowL F1 row fr ((isort (ltA dt ax) [] L0 ++ M).map vRf) → (∀ b i, ¬ (b = row ∧ fr ≤ i ∧ i < fr + L.length) → F1 b i = F b i) → gW Γ (gA K sz) s.heap K F1 H locs → lv_has ls 7 [(4, .int (nI (fr + n))), (0, .ref T), (1, .int (nI fr)), (2, .int (nI (fr + L.length))), (3, .int (nI ax))] → W p l e (gRm 3 0 0) s m args below meth c H locs 0 0 Z (F0 m 5 ls []) := by
    intro M
    induction M with
    | nil =>
      intro L0 n F1 H locs ls hL0 hn hrow hfr hW hl
      have f2 : F1 T 1 = .ref row := (hfr T 1 (fun z => dRT z.1)).trans h1
      have hLn : L.length = n := by rw [hL0, List.append_nil, hn]
      refine lv_iload hx hb dX5_order_5 (lv_at hl 0 rfl) ?_
      refine lv_iload_n hx hb dX5_order_7 rfl (lv_at hl 3 rfl) ?_
      refine lv_icmp_ge (tgt := 85) hx hb dX5_order_8 (by decide) (fun c1 => ?_) (fun c1 => ?_)
      · have c1 : (fr + L.length) ≤ (fr + n) := (nI_leI (by omega) (by omega)).mp c1
        exact hret none _ _ _ _ _ _ hW (⟨rfl, rfl, by rw [List.append_nil] at hL0 hrow; rw [hL0]; exact hrow, hfr⟩) (rt_v dX5_order_85)
      · have c1 : (fr + n) < (fr + L.length) := Nat.not_le.mp (fun z => c1 ((nI_leI (by omega) (by omega)).mpr z))
        exact absurd c1 (by omega)
    | cons x M ih =>
      intro L0 n F1 H locs ls hL0 hn hrow hfr hW hl
      have f2 : F1 T 1 = .ref row := (hfr T 1 (fun z => dRT z.1)).trans h1
      have hLn : L.length = n + (M.length + 1) := by rw [hL0, List.length_append, List.length_cons, hn]
      refine lv_iload hx hb dX5_order_5 (lv_at hl 0 rfl) ?_
      refine lv_iload_n hx hb dX5_order_7 rfl (lv_at hl 3 rfl) ?_
      refine lv_icmp_ge (tgt := 85) hx hb dX5_order_8 (by decide) (fun c1 => ?_) (fun c1 => ?_)
      · have c1 : (fr + L.length) ≤ (fr + n) := (nI_leI (by omega) (by omega)).mp c1
        exact absurd c1 (by omega)
      · have c1 : (fr + n) < (fr + L.length) := Nat.not_le.mp (fun z => c1 ((nI_leI (by omega) (by omega)).mpr z))
        have hS : (isort (ltA dt ax) [] L0).length = n := by rw [isort_len, hn]; exact Nat.zero_add n
        have hxL : x ∈ L := by rw [hL0]; simp
        rw [List.map_append] at hrow
        have hxv : F1 row (fr + n) = .ref x := by
          have := hrow.right.head
          rw [List.length_map, hS] at this
          exact this
        refine lv_aload_n hx hb dX5_order_11 rfl (lv_at hl 1 rfl) ?_
        refine g_get (C := RX5) (T := TX5) (N := 4) hx hb hts hi5 hown hN hW.1 hk rfl (by decide) 1 (by decide) hfX5_17 (v := .ref row) f2 dX5_order_12 ?_
        refine lv_iload hx hb dX5_order_15 (lv_at hl 0 rfl) ?_
        refine g_aald (j := fr + n) hx hb hN hW.1 hkr (by decide) (show _ = nI (fr + n) from rfl) (by omega) (v := .ref x) hxv dX5_order_17 ?_
        refine lv_astore (lv' := [(5, .ref x), (4, .int (nI (fr + n))), (0, .ref T), (1, .int (nI fr)), (2, .int (nI (fr + L.length))), (3, .int (nI ax))]) hx hb dX5_order_18 hl (by decide) rfl (fun ls hl => ?_)
        refine lv_iload hx hb dX5_order_20 (lv_at hl 1 rfl) ?_
        refine lv_istore (lv' := [(6, .int (nI (fr + n))), (5, .ref x), (4, .int (nI (fr + n))), (0, .ref T), (1, .int (nI fr)), (2, .int (nI (fr + L.length))), (3, .int (nI ax))]) hx hb dX5_order_22 hl (by decide) rfl (fun ls hl => ?_)
        refine inner n (isort (ltA dt ax) [] L0) [] M x (fr + n) _ H locs ls hS (by simp; omega) (fun y hy => by
          rw [List.append_nil] at hy
          rw [hL0]
          rcases isort_mem.mp hy with h | h
          · cases h
          · exact List.mem_append_left _ h) hxL (fun y hy => by cases hy) hrow.left (by
          have := hrow.right.tail
          rw [List.length_map, hS] at this
          exact this) hfr hW (lv_sub hl [0, 1, 2, 3, 4, 5, 6] rfl) (fun F2 H locs ls hrow2 hfr2 hW hl => ?_)
        refine lv_iinc (v := nI ((fr + n) + 1)) (lv' := [(4, .int (nI ((fr + n) + 1))), (0, .ref T), (1, .int (nI fr)), (2, .int (nI (fr + L.length))), (3, .int (nI ax))]) hx hb dX5_order_79 hl (k := 0) rfl (inc1 _) (by decide) rfl (fun ls hl => ?_)
        refine lv_goto (tgt := 5) hx hb dX5_order_82 (by decide) ?_
        exact ih (L0 ++ [x]) (n + 1) F2 H locs ls (by rw [hL0]; simp) (by simp [hn]) (by rw [isort_snoc]; rw [List.append_nil] at hrow2; exact hrow2) hfr2 hW (lv_sub hl [0, 1, 2, 3, 4] rfl)
  refine lv_iload_n hx hb dX5_order_0 rfl (lv_at hl 1 rfl) ?_
  refine lv_iconst (v := nI 1) hx hb dX5_order_1 (by decide) ?_
  refine lv_iadd hx hb dX5_order_2 ?_
  refine g_asi (show _ = nI (fr + 1) from (nI_add _ _).trans (by rfl)) ?_
  refine lv_istore (lv' := [(4, .int (nI (fr + 1))), (0, .ref T), (1, .int (nI fr)), (2, .int (nI (fr + L.length))), (3, .int (nI ax))]) hx hb dX5_order_3 hl (by decide) rfl (fun ls hl => ?_)
  rcases L with _ | ⟨x, M⟩
  · have hl : lv_has ls 7 [(4, .int (nI (fr + 1))), (0, .ref T), (1, .int (nI fr)), (2, .int (nI fr)), (3, .int (nI ax))] := hl
    refine lv_iload hx hb dX5_order_5 (lv_at hl 0 rfl) ?_
    refine lv_iload_n hx hb dX5_order_7 rfl (lv_at hl 3 rfl) ?_
    refine lv_icmp_ge (tgt := 85) hx hb dX5_order_8 (by decide) (fun c1 => ?_) (fun c1 => ?_)
    · have c1 : fr ≤ (fr + 1) := (nI_leI (by omega) (by omega)).mp c1
      exact hret none _ _ _ _ _ _ hW (⟨rfl, rfl, rowL.nil, fun _ _ _ => rfl⟩) (rt_v dX5_order_85)
    · have c1 : (fr + 1) < fr := Nat.not_le.mp (fun z => c1 ((nI_leI (by omega) (by omega)).mpr z))
      exact absurd c1 (by omega)
  · exact outer M [x] 1 F _ _ ls rfl rfl hrow (fun _ _ _ => rfl) hW (lv_sub hl [0, 1, 2, 3, 4] rfl)
