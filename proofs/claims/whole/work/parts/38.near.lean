def ndP (nd : Nat → Option Nat) (dt : Nat → gPt) : Nat → Option (Nat → Int32) := fun i => (nd i).map (fun n => (dt n).2)
def inBx (p : Nat → Int32) (a : Nat) (lo hi : Int32) (b : Nat) (lo2 hi2 : Int32) : Bool := decide (lo ≤ p a ∧ p a ≤ hi) && decide (lo2 ≤ p b ∧ p b ≤ hi2)
def bxS (P : Nat → Option (Nat → Int32)) (a : Nat) (lo hi : Int32) (b : Nat) (lo2 hi2 : Int32) (i c : Nat) : Nat := match P i with
  | none => c
  | some p => if inBx p a lo hi b lo2 hi2 then c + 1 else c
def bxN (P : Nat → Option (Nat → Int32)) (a : Nat) (lo hi : Int32) (b : Nat) (lo2 hi2 : Int32) (k : Nat) : Nat := itr (bxS P a lo hi b lo2 hi2) 0 k 0
theorem bxN_le (P : Nat → Option (Nat → Int32)) (a : Nat) (lo hi : Int32) (b : Nat) (lo2 hi2 : Int32) (k : Nat) : bxN P a lo hi b lo2 hi2 k ≤ k := by
  induction k with
  | zero => exact Nat.le_refl 0
  | succ k ih =>
    have ih : itr (bxS P a lo hi b lo2 hi2) 0 k 0 ≤ k := ih
    show bxS P a lo hi b lo2 hi2 (0 + k) (itr (bxS P a lo hi b lo2 hi2) 0 k 0) ≤ _
    generalize itr (bxS P a lo hi b lo2 hi2) 0 k 0 = c at ih
    unfold bxS
    split
    · omega
    · split <;> omega
theorem bxN_none {P : Nat → Option (Nat → Int32)} {a : Nat} {lo hi : Int32} {b : Nat} {lo2 hi2 : Int32} {k : Nat} (h : P k = none) : bxN P a lo hi b lo2 hi2 (k + 1) = bxN P a lo hi b lo2 hi2 k := by
  show bxS P a lo hi b lo2 hi2 (0 + k) (itr (bxS P a lo hi b lo2 hi2) 0 k 0) = _
  rw [Nat.zero_add]; unfold bxS; rw [h]; rfl
theorem bxN_some {P : Nat → Option (Nat → Int32)} {a : Nat} {lo hi : Int32} {b : Nat} {lo2 hi2 : Int32} {k : Nat} {p : Nat → Int32} (h : P k = some p) : bxN P a lo hi b lo2 hi2 (k + 1) = if inBx p a lo hi b lo2 hi2 then bxN P a lo hi b lo2 hi2 k + 1 else bxN P a lo hi b lo2 hi2 k := by
  show bxS P a lo hi b lo2 hi2 (0 + k) (itr (bxS P a lo hi b lo2 hi2) 0 k 0) = _
  rw [Nat.zero_add]; unfold bxS; rw [h]; rfl
def pairA (st : Int64 × Nat × Nat) (w : Nat) : Int64 := if w = 0 then (nI st.2.1).toInt64 else if w = 1 then (nI st.2.2).toInt64 else st.1

set_option maxHeartbeats 4000000 in
set_option maxRecDepth 100000 in
theorem c_inBox (l : Launch) (hfl : l.stackTraces = false) (Γ : gG) (K : gK) (F : gF) (sz : Nat) (x lb T row h ai ad J pts lens d : Nat) (tc : TT Nat) (nd : Nat → Option Nat) (dt : Nat → gPt) (pl : Nat → Nat) (dd : Nat → Bool) (S : List (Nat × Int64)) (lim lk bc bg bp : Nat) (hNT : NT K F x lb T row h ai ad J pts lens d tc nd dt pl dd S lim lk bc bg bp) (a9 lo hi9 b9 lo2 ze2 : Int32) : gMX l yX6_inBox wsX6_inBox 8 1 6 Γ K F sz [.ref x, .int a9, .int lo, .int hi9, .int b9, .int lo2, .int ze2] (fun v K' F' => K' = K ∧ F' = F ∧ ∃ a b, a < d ∧ b < d ∧ a9 = nI a ∧ b9 = nI b ∧ v = some (.int (nI (bxN (ndP nd dt) a lo hi9 b lo2 ze2 100)))) (fun E => E = nIAE ∧ ¬ ((¬ a9 < 0 ∧ a9 < nI d) ∧ (¬ b9 < 0 ∧ b9 < nI d))) := by
  refine g_mX (cc := cX6_inBox) (maxL := 12) (ret := (some .int)) hfl rfl (by decide) rfl (Nat.le_of_ble_eq_true rfl) ?_
  intro p e s m args below meth c ls Z hsz hx hb hts hown hml hN hW hret hthr hl
  have hl : lv_has ls 12 [(0, .ref x), (1, .int a9), (2, .int lo), (3, .int hi9), (4, .int b9), (5, .int lo2), (6, .int ze2)] := hl
  have hown : s.vm.findClass RX6 = some m.cls := hown
  have hi2 : ∀ w ∈ wsX20, w ∈ wsX6_inBox := by decide +kernel
  have hi6 : ∀ w ∈ wsX60, w ∈ wsX6_inBox := by decide +kernel
  have hfX6_24 : Cond.fieldLink RX6 24 (TX6 1).1 (TX6 1).2.1 (TX6 1).2.2.1 ∈ wsX6_inBox := by decide +kernel
  have hfX6_122 : Cond.fieldLink RX6 122 (TX2 1).1 (TX2 1).2.1 (TX2 1).2.2.1 ∈ wsX6_inBox := by decide +kernel
  obtain ⟨⟨kx, klb, kT, krow, kh, kai, kad, kJ, kpts, klens, krp⟩, ⟨hd1, hd4⟩, ⟨x0, x1, x2, x3, x4, x5, x6, x7, x8⟩, ⟨t0, t1, t2, t3, hC⟩, ⟨j0, j1, stJ, hstJ⟩, hrN, hLS, hND, ⟨p1, p2, p3, p4, p5, p6, p7⟩⟩ := id hNT
  have hlive : ∀ i a, i < 100 → nd i = some a → ndD K F a (pl a) (dt a) ∧ F a 2 = .int (bI (dd a)) := fun i a hi ha => hND a (p2 i a hi ha).1
  refine lv_aload_n hx hb dX6_inBox_0 rfl (lv_at hl 0 rfl) ?_
  refine lv_iload_n hx hb dX6_inBox_1 rfl (lv_at hl 1 rfl) ?_
  refine g_cV (v := (some (.int (bI (decide (¬ a9 < 0 ∧ a9 < nI d)))))) (As := [.int a9]) (b := x) (rest := []) hx hb hml hown hts hN hW.1 (c_isCountingAxis l Γ K F x d a9 kx x0) gX6_inBox_X6_isCountingAxis rfl kx (by decide) rfl (na := 1) rfl (by decide +kernel) ⟨by decide, by decide⟩ ⟨Nat.zero_le _, Nat.zero_le _⟩ rfl hl.1 (Nat.le_of_ble_eq_true rfl) dX6_inBox_2 ?_
  show W _ _ _ _ _ _ _ _ _ _ _ _ _ _ _ (F0 m 5 ls [.int (bI (decide (¬ a9 < 0 ∧ a9 < nI d)))])
  refine lv_if_eq (tgt := 17) hx hb dX6_inBox_5 (by decide) (fun c1 => ?_) (fun c1 => ?_)
  · have c1 : (decide (¬ a9 < 0 ∧ a9 < nI d)) = false := bI_0.mp c1
    exact hthr nIAE "inBox: an axis does not count" 59 186 63 17 _ _ ls (⟨rfl, fun z => of_decide_eq_false c1 z.1⟩) x_IAE (show (186, "inBox: an axis does not count") ∈ gStr by decide +kernel) (by decide +kernel) (by decide +kernel) (fun w h => List.mem_cons_of_mem _ (List.mem_append_right _ h)) dX6_inBox_17 dX6_inBox_20 dX6_inBox_21 dX6_inBox_23 dX6_inBox_26 (by decide) (by decide) (by decide) hW hl.1
  · have c1 : (decide (¬ a9 < 0 ∧ a9 < nI d)) = true := bI_n0.mp c1
    refine lv_aload_n hx hb dX6_inBox_8 rfl (lv_at hl 0 rfl) ?_
    refine lv_iload hx hb dX6_inBox_9 (lv_at hl 4 rfl) ?_
    refine g_cV (v := (some (.int (bI (decide (¬ b9 < 0 ∧ b9 < nI d)))))) (As := [.int b9]) (b := x) (rest := []) hx hb hml hown hts hN hW.1 (c_isCountingAxis l Γ K F x d b9 kx x0) gX6_inBox_X6_isCountingAxis rfl kx (by decide) rfl (na := 1) rfl (by decide +kernel) ⟨by decide, by decide⟩ ⟨Nat.zero_le _, Nat.zero_le _⟩ rfl hl.1 (Nat.le_of_ble_eq_true rfl) dX6_inBox_11 ?_
    show W _ _ _ _ _ _ _ _ _ _ _ _ _ _ _ (F0 m 14 ls [.int (bI (decide (¬ b9 < 0 ∧ b9 < nI d)))])
    refine lv_if_ne (tgt := 27) hx hb dX6_inBox_14 (by decide) (fun c2 => ?_) (fun c2 => ?_)
    · have c2 : (decide (¬ b9 < 0 ∧ b9 < nI d)) = true := bI_n0.mp c2
      have c1 := of_decide_eq_true c1
      have c2 := of_decide_eq_true c2
      obtain ⟨a, ha, rfl⟩ := i32_nI (show d < 2 ^ 31 by omega) c1.1 c1.2
      obtain ⟨b, hb9, rfl⟩ := i32_nI (show d < 2 ^ 31 by omega) c2.1 c2.2
      have loop : ∀ (j k : Nat) (ls : Array Slot), k + j = 100 → lv_has ls 12 [(10, .int (nI k)), (7, .int (nI (bxN (ndP nd dt) a lo hi9 b lo2 ze2 k))), (9, .int (nI 100)), (8, .ref lb), (0, .ref x), (1, .int (nI a)), (2, .int lo), (3, .int hi9), (4, .int (nI b)), (5, .int lo2), (6, .int ze2)] → W p l e (gRm 8 1 6) s m args below meth c s.heap [] 0 0 Z (F0 m 44 ls []) := by
        intro j
        induction j with
        | zero =>
          intro k ls hj hl
          have hb5 := bxN_le (ndP nd dt) a lo hi9 b lo2 ze2 k
          refine lv_iload hx hb dX6_inBox_44 (lv_at hl 0 rfl) ?_
          refine lv_iload hx hb dX6_inBox_46 (lv_at hl 2 rfl) ?_
          refine lv_icmp_ge (tgt := 103) hx hb dX6_inBox_48 (by decide) (fun c3 => ?_) (fun c3 => ?_)
          · have c3 : 100 ≤ k := (nI_leI (by omega) (by omega)).mp c3
            obtain rfl : k = 100 := by omega
            refine lv_iload hx hb dX6_inBox_103 (lv_at hl 1 rfl) ?_
            exact hret (some (.int (nI (bxN (ndP nd dt) a lo hi9 b lo2 ze2 100)))) _ _ _ _ _ _ _ _ (Nat.le_of_ble_eq_true rfl) (Nat.le_of_ble_eq_true rfl) hW (⟨rfl, rfl, a, b, ha, hb9, rfl, rfl, rfl⟩) (rt_i dX6_inBox_105)
          · have c3 : k < 100 := Nat.not_le.mp (fun z => c3 ((nI_leI (by omega) (by omega)).mpr z))
            exact absurd c3 (by omega)
        | succ j ih =>
          intro k ls hj hl
          have hb5 := bxN_le (ndP nd dt) a lo hi9 b lo2 ze2 k
          refine lv_iload hx hb dX6_inBox_44 (lv_at hl 0 rfl) ?_
          refine lv_iload hx hb dX6_inBox_46 (lv_at hl 2 rfl) ?_
          refine lv_icmp_ge (tgt := 103) hx hb dX6_inBox_48 (by decide) (fun c3 => ?_) (fun c3 => ?_)
          · have c3 : 100 ≤ k := (nI_leI (by omega) (by omega)).mp c3
            exact absurd c3 (by omega)
          · have c3 : k < 100 := Nat.not_le.mp (fun z => c3 ((nI_leI (by omega) (by omega)).mpr z))
            refine lv_aload hx hb dX6_inBox_51 (lv_at hl 3 rfl) ?_
            refine lv_iload hx hb dX6_inBox_53 (lv_at hl 0 rfl) ?_
            refine g_aald (j := k) hx hb hN hW.1 klb (by decide) (show _ = nI k from rfl) (by omega) (v := va_rf (nd k)) (hrN k (by omega)) dX6_inBox_55 ?_
            refine g_astore (r := nd k) (lv' := [(11, va_rf (nd k)), (10, .int (nI k)), (7, .int (nI (bxN (ndP nd dt) a lo hi9 b lo2 ze2 k))), (9, .int (nI 100)), (8, .ref lb), (0, .ref x), (1, .int (nI a)), (2, .int lo), (3, .int hi9), (4, .int (nI b)), (5, .int lo2), (6, .int ze2)]) hx hb dX6_inBox_56 hl (by decide) rfl (fun ls hl => ?_)
            refine g_aload (r := nd k) hx hb dX6_inBox_58 (lv_at hl 0 rfl) ?_
            refine g_ifnull (r := nd k) (tgt := 97) hx hb dX6_inBox_60 (by decide) (fun c4 => ?_) (fun xc4 c4 => ?_)
            · refine lv_iinc (v := nI (k + 1)) (lv' := [(10, .int (nI (k + 1))), (11, va_rf (nd k)), (7, .int (nI (bxN (ndP nd dt) a lo hi9 b lo2 ze2 k))), (9, .int (nI 100)), (8, .ref lb), (0, .ref x), (1, .int (nI a)), (2, .int lo), (3, .int hi9), (4, .int (nI b)), (5, .int lo2), (6, .int ze2)]) hx hb dX6_inBox_97 hl (k := 1) rfl (inc1 _) (by decide) rfl (fun ls hl => ?_)
              refine lv_goto (tgt := 44) hx hb dX6_inBox_100 (by decide) ?_
              exact ih (k + 1) ls (by omega) (by rw [bxN_none (by simp [ndP, c4])]; exact lv_sub hl [0, 2, 3, 4, 5, 6, 7, 8, 9, 10, 11] rfl)
            · rw [c4] at hl
              have hl : lv_has ls 12 [(11, .ref xc4), (10, .int (nI k)), (7, .int (nI (bxN (ndP nd dt) a lo hi9 b lo2 ze2 k))), (9, .int (nI 100)), (8, .ref lb), (0, .ref x), (1, .int (nI a)), (2, .int lo), (3, .int hi9), (4, .int (nI b)), (5, .int lo2), (6, .int ze2)] := hl
              have q := (hlive k xc4 (by omega) c4).1
              have hP9 : ndP nd dt k = some (dt xc4).2 := by simp [ndP, c4]
              refine lv_aload hx hb dX6_inBox_63 (lv_at hl 0 rfl) ?_
              refine g_get (C := RX2) (T := TX2) (N := 9) hx hb hts hi2 hown hN hW.1 q.1 rfl (by decide) 1 (by decide) hfX6_122 (v := .ref (pl xc4)) q.2.2.2.1 dX6_inBox_65 ?_
              refine lv_iload_n hx hb dX6_inBox_68 rfl (lv_at hl 6 rfl) ?_
              refine lv_iload_n hx hb dX6_inBox_69 rfl (lv_at hl 7 rfl) ?_
              refine lv_iload_n hx hb dX6_inBox_70 rfl (lv_at hl 8 rfl) ?_
              refine g_cV (v := (some (.int (bI (decide (lo ≤ (dt xc4).2 a ∧ (dt xc4).2 a ≤ hi9)))))) (As := [.int (nI a), .int lo, .int hi9]) (b := pl xc4) (rest := []) hx hb hml hown hts hN hW.1 (c_isBetween l Γ K F (pl xc4) (dt xc4).2 a lo hi9 q.2.1 q.2.2.2.2.1 (by omega)) gX6_inBox_X3_isBetween rfl q.2.1 (by decide) rfl (na := 3) rfl (by decide +kernel) ⟨by decide, by decide⟩ ⟨Nat.zero_le _, Nat.zero_le _⟩ rfl hl.1 (Nat.le_of_ble_eq_true rfl) dX6_inBox_71 ?_
              show W _ _ _ _ _ _ _ _ _ _ _ _ _ _ _ (F0 m 74 ls [.int (bI (decide (lo ≤ (dt xc4).2 a ∧ (dt xc4).2 a ≤ hi9)))])
              refine lv_if_eq (tgt := 97) hx hb dX6_inBox_74 (by decide) (fun c5 => ?_) (fun c5 => ?_)
              · have c5 : (decide (lo ≤ (dt xc4).2 a ∧ (dt xc4).2 a ≤ hi9)) = false := bI_0.mp c5
                refine lv_iinc (v := nI (k + 1)) (lv' := [(10, .int (nI (k + 1))), (11, .ref xc4), (7, .int (nI (bxN (ndP nd dt) a lo hi9 b lo2 ze2 k))), (9, .int (nI 100)), (8, .ref lb), (0, .ref x), (1, .int (nI a)), (2, .int lo), (3, .int hi9), (4, .int (nI b)), (5, .int lo2), (6, .int ze2)]) hx hb dX6_inBox_97 hl (k := 1) rfl (inc1 _) (by decide) rfl (fun ls hl => ?_)
                refine lv_goto (tgt := 44) hx hb dX6_inBox_100 (by decide) ?_
                exact ih (k + 1) ls (by omega) (by rw [bxN_some hP9, if_neg (by simp [inBx, c5])]; exact lv_sub hl [0, 2, 3, 4, 5, 6, 7, 8, 9, 10, 11] rfl)
              · have c5 : (decide (lo ≤ (dt xc4).2 a ∧ (dt xc4).2 a ≤ hi9)) = true := bI_n0.mp c5
                refine lv_aload hx hb dX6_inBox_77 (lv_at hl 0 rfl) ?_
                refine g_get (C := RX2) (T := TX2) (N := 9) hx hb hts hi2 hown hN hW.1 q.1 rfl (by decide) 1 (by decide) hfX6_122 (v := .ref (pl xc4)) q.2.2.2.1 dX6_inBox_79 ?_
                refine lv_iload hx hb dX6_inBox_82 (lv_at hl 9 rfl) ?_
                refine lv_iload hx hb dX6_inBox_84 (lv_at hl 10 rfl) ?_
                refine lv_iload hx hb dX6_inBox_86 (lv_at hl 11 rfl) ?_
                refine g_cV (v := (some (.int (bI (decide (lo2 ≤ (dt xc4).2 b ∧ (dt xc4).2 b ≤ ze2)))))) (As := [.int (nI b), .int lo2, .int ze2]) (b := pl xc4) (rest := []) hx hb hml hown hts hN hW.1 (c_isBetween l Γ K F (pl xc4) (dt xc4).2 b lo2 ze2 q.2.1 q.2.2.2.2.1 (by omega)) gX6_inBox_X3_isBetween rfl q.2.1 (by decide) rfl (na := 3) rfl (by decide +kernel) ⟨by decide, by decide⟩ ⟨Nat.zero_le _, Nat.zero_le _⟩ rfl hl.1 (Nat.le_of_ble_eq_true rfl) dX6_inBox_88 ?_
                show W _ _ _ _ _ _ _ _ _ _ _ _ _ _ _ (F0 m 91 ls [.int (bI (decide (lo2 ≤ (dt xc4).2 b ∧ (dt xc4).2 b ≤ ze2)))])
                refine lv_if_eq (tgt := 97) hx hb dX6_inBox_91 (by decide) (fun c6 => ?_) (fun c6 => ?_)
                · have c6 : (decide (lo2 ≤ (dt xc4).2 b ∧ (dt xc4).2 b ≤ ze2)) = false := bI_0.mp c6
                  refine lv_iinc (v := nI (k + 1)) (lv' := [(10, .int (nI (k + 1))), (11, .ref xc4), (7, .int (nI (bxN (ndP nd dt) a lo hi9 b lo2 ze2 k))), (9, .int (nI 100)), (8, .ref lb), (0, .ref x), (1, .int (nI a)), (2, .int lo), (3, .int hi9), (4, .int (nI b)), (5, .int lo2), (6, .int ze2)]) hx hb dX6_inBox_97 hl (k := 1) rfl (inc1 _) (by decide) rfl (fun ls hl => ?_)
                  refine lv_goto (tgt := 44) hx hb dX6_inBox_100 (by decide) ?_
                  exact ih (k + 1) ls (by omega) (by rw [bxN_some hP9, if_neg (by simp [inBx, c6])]; exact lv_sub hl [0, 2, 3, 4, 5, 6, 7, 8, 9, 10, 11] rfl)
                · have c6 : (decide (lo2 ≤ (dt xc4).2 b ∧ (dt xc4).2 b ≤ ze2)) = true := bI_n0.mp c6
                  refine lv_iinc (v := nI ((bxN (ndP nd dt) a lo hi9 b lo2 ze2 k) + 1)) (lv' := [(7, .int (nI ((bxN (ndP nd dt) a lo hi9 b lo2 ze2 k) + 1))), (11, .ref xc4), (10, .int (nI k)), (9, .int (nI 100)), (8, .ref lb), (0, .ref x), (1, .int (nI a)), (2, .int lo), (3, .int hi9), (4, .int (nI b)), (5, .int lo2), (6, .int ze2)]) hx hb dX6_inBox_94 hl (k := 2) rfl (inc1 _) (by decide) rfl (fun ls hl => ?_)
                  refine lv_iinc (v := nI (k + 1)) (lv' := [(10, .int (nI (k + 1))), (7, .int (nI ((bxN (ndP nd dt) a lo hi9 b lo2 ze2 k) + 1))), (11, .ref xc4), (9, .int (nI 100)), (8, .ref lb), (0, .ref x), (1, .int (nI a)), (2, .int lo), (3, .int hi9), (4, .int (nI b)), (5, .int lo2), (6, .int ze2)]) hx hb dX6_inBox_97 hl (k := 2) rfl (inc1 _) (by decide) rfl (fun ls hl => ?_)
                  refine lv_goto (tgt := 44) hx hb dX6_inBox_100 (by decide) ?_
                  exact ih (k + 1) ls (by omega) (by rw [bxN_some hP9, if_pos (show inBx _ _ _ _ _ _ _ = true by unfold inBx; rw [c5, c6]; rfl)]; exact lv_sub hl [0, 1, 3, 4, 5, 6, 7, 8, 9, 10, 11] rfl)
      refine lv_iconst (v := nI 0) hx hb dX6_inBox_27 (by decide) ?_
      refine lv_istore (lv' := [(7, .int (nI 0)), (0, .ref x), (1, .int (nI a)), (2, .int lo), (3, .int hi9), (4, .int (nI b)), (5, .int lo2), (6, .int ze2)]) hx hb dX6_inBox_28 hl (by decide) rfl (fun ls hl => ?_)
      refine lv_aload_n hx hb dX6_inBox_30 rfl (lv_at hl 1 rfl) ?_
      refine g_get (C := RX6) (T := TX6) (N := 9) hx hb hts hi6 hown hN hW.1 kx rfl (by decide) 1 (by decide) hfX6_24 (v := .ref lb) x1 dX6_inBox_31 ?_
      refine lv_astore (lv' := [(8, .ref lb), (7, .int (nI 0)), (0, .ref x), (1, .int (nI a)), (2, .int lo), (3, .int hi9), (4, .int (nI b)), (5, .int lo2), (6, .int ze2)]) hx hb dX6_inBox_34 hl (by decide) rfl (fun ls hl => ?_)
      refine lv_aload hx hb dX6_inBox_36 (lv_at hl 0 rfl) ?_
      refine g_alen (t := 3) hx hb hN hW.1 klb rfl dX6_inBox_38 ?_
      refine lv_istore (lv' := [(9, .int (nI 100)), (8, .ref lb), (7, .int (nI 0)), (0, .ref x), (1, .int (nI a)), (2, .int lo), (3, .int hi9), (4, .int (nI b)), (5, .int lo2), (6, .int ze2)]) hx hb dX6_inBox_39 hl (by decide) rfl (fun ls hl => ?_)
      refine lv_iconst (v := nI 0) hx hb dX6_inBox_41 (by decide) ?_
      refine lv_istore (lv' := [(10, .int (nI 0)), (9, .int (nI 100)), (8, .ref lb), (7, .int (nI 0)), (0, .ref x), (1, .int (nI a)), (2, .int lo), (3, .int hi9), (4, .int (nI b)), (5, .int lo2), (6, .int ze2)]) hx hb dX6_inBox_42 hl (by decide) rfl (fun ls hl => ?_)
      exact loop 100 0 ls (by omega) (lv_sub hl [0, 3, 1, 2, 4, 5, 6, 7, 8, 9, 10] rfl)
    · have c2 : (decide (¬ b9 < 0 ∧ b9 < nI d)) = false := bI_0.mp c2
      exact hthr nIAE "inBox: an axis does not count" 59 186 63 17 _ _ ls (⟨rfl, fun z => of_decide_eq_false c2 z.2⟩) x_IAE (show (186, "inBox: an axis does not count") ∈ gStr by decide +kernel) (by decide +kernel) (by decide +kernel) (fun w h => List.mem_cons_of_mem _ (List.mem_append_right _ h)) dX6_inBox_17 dX6_inBox_20 dX6_inBox_21 dX6_inBox_23 dX6_inBox_26 (by decide) (by decide) (by decide) hW hl.1

set_option maxHeartbeats 4000000 in
set_option maxRecDepth 100000 in
theorem c_pair (l : Launch) (hfl : l.stackTraces = false) (Γ : gG) (K : gK) (F : gF) (sz : Nat) (x lb T row h ai ad J pts lens d : Nat) (tc : TT Nat) (nd : Nat → Option Nat) (dt : Nat → gPt) (pl : Nat → Nat) (dd : Nat → Bool) (S : List (Nat × Int64)) (lim lk bc bg bp : Nat) (hNT : NT K F x lb T row h ai ad J pts lens d tc nd dt pl dd S lim lk bc bg bp) (w9 : Int32) : gMX l yX6_pair wsX6_pair 8 1 6 Γ K F sz [.ref x, .int w9] (fun v K' F' => K' = K ∧ NT K F' x lb T row h ai ad J pts lens d tc nd dt pl dd S lim lk bc bg bp ∧ ∃ st w, w < 3 ∧ w9 = nI w ∧ 2 ≤ (gLive nd 100).length ∧ v = some (.long (pairA (prOut dt nd 100 (9223372036854775807, st)) w))) (fun E => (E = nIAE ∧ ¬ (¬ w9 < 0 ∧ w9 ≤ nI 2)) ∨ (E = nISE ∧ (¬ w9 < 0 ∧ w9 ≤ nI 2) ∧ (gLive nd 100).length < 2)) := by
  refine g_mX (cc := cX6_pair) (maxL := 2) (ret := (some .long)) hfl rfl (by decide) rfl (Nat.le_of_ble_eq_true rfl) ?_
  intro p e s m args below meth c ls Z hsz hx hb hts hown hml hN hW hret hthr hl
  have hl : lv_has ls 2 [(0, .ref x), (1, .int w9)] := hl
  have hown : s.vm.findClass RX6 = some m.cls := hown
  have hi0 : ∀ w ∈ wsX00, w ∈ wsX6_pair := by decide +kernel
  have hi6 : ∀ w ∈ wsX60, w ∈ wsX6_pair := by decide +kernel
  have hfX6_24 : Cond.fieldLink RX6 24 (TX6 1).1 (TX6 1).2.1 (TX6 1).2.2.1 ∈ wsX6_pair := by decide +kernel
  have hfX6_47 : Cond.fieldLink RX6 47 (TX6 4).1 (TX6 4).2.1 (TX6 4).2.2.1 ∈ wsX6_pair := by decide +kernel
  have hfX6_66 : Cond.fieldLink RX6 66 (TX6 5).1 (TX6 5).2.1 (TX6 5).2.2.1 ∈ wsX6_pair := by decide +kernel
  have hfX6_200 : Cond.fieldLink RX6 200 (TX0 3).1 (TX0 3).2.1 (TX0 3).2.2.1 ∈ wsX6_pair := by decide +kernel
  have hfX6_203 : Cond.fieldLink RX6 203 (TX0 4).1 (TX0 4).2.1 (TX0 4).2.2.1 ∈ wsX6_pair := by decide +kernel
  have hfX6_206 : Cond.fieldLink RX6 206 (TX0 5).1 (TX0 5).2.1 (TX0 5).2.2.1 ∈ wsX6_pair := by decide +kernel
  obtain ⟨⟨kx, klb, kT, krow, kh, kai, kad, kJ, kpts, klens, krp⟩, ⟨hd1, hd4⟩, ⟨x0, x1, x2, x3, x4, x5, x6, x7, x8⟩, ⟨t0, t1, t2, t3, hC⟩, ⟨j0, j1, stJ, hstJ⟩, hrN, hLS, hND, ⟨p1, p2, p3, p4, p5, p6, p7⟩⟩ := id hNT
  have hlive : ∀ i a, i < 100 → nd i = some a → ndD K F a (pl a) (dt a) ∧ F a 2 = .int (bI (dd a)) := fun i a hi ha => hND a (p2 i a hi ha).1
  refine lv_iload_n hx hb dX6_pair_0 rfl (lv_at hl 1 rfl) ?_
  refine lv_if_lt (tgt := 9) hx hb dX6_pair_1 (by decide) (fun c1 => ?_) (fun c1 => ?_)
  · exact hthr nIAE "pair: what is out of range" 59 192 63 9 _ _ ls (Or.inl ⟨rfl, fun z => z.1 c1⟩) x_IAE (show (192, "pair: what is out of range") ∈ gStr by decide +kernel) (by decide +kernel) (by decide +kernel) (fun w h => List.mem_cons_of_mem _ (List.mem_append_left _ (List.mem_append_right _ h))) dX6_pair_9 dX6_pair_12 dX6_pair_13 dX6_pair_15 dX6_pair_18 (by decide) (by decide) (by decide) hW hl.1
  · refine lv_iload_n hx hb dX6_pair_4 rfl (lv_at hl 1 rfl) ?_
    refine lv_iconst (v := nI 2) hx hb dX6_pair_5 (by decide) ?_
    refine lv_icmp_le (tgt := 19) hx hb dX6_pair_6 (by decide) (fun c2 => ?_) (fun c2 => ?_)
    · obtain ⟨w, hw, rfl⟩ : ∃ w : Nat, w < 3 ∧ w9 = nI w := by
        obtain ⟨w, hw, e⟩ := nI_of c1
        rw [e] at c2
        have := (nI_leI hw (by decide)).mp c2
        exact ⟨w, by omega, e⟩
      refine lv_aload_n hx hb dX6_pair_19 rfl (lv_at hl 0 rfl) ?_
      refine g_get (C := RX6) (T := TX6) (N := 9) hx hb hts hi6 hown hN hW.1 kx rfl (by decide) 5 (by decide) hfX6_66 (v := .int (nI (gLive nd 100).length)) x5 dX6_pair_20 ?_
      refine lv_iconst (v := nI 2) hx hb dX6_pair_23 (by decide) ?_
      refine lv_icmp_ge (tgt := 37) hx hb dX6_pair_24 (by decide) (fun c3 => ?_) (fun c3 => ?_)
      · have c3 : 2 ≤ (gLive nd 100).length := (nI_leI (by omega) (by omega)).mp c3
        refine lv_aload_n hx hb dX6_pair_37 rfl (lv_at hl 0 rfl) ?_
        refine g_get (C := RX6) (T := TX6) (N := 9) hx hb hts hi6 hown hN hW.1 kx rfl (by decide) 4 (by decide) hfX6_47 (v := .ref J) x4 dX6_pair_38 ?_
        refine lv_aload_n hx hb dX6_pair_41 rfl (lv_at hl 0 rfl) ?_
        refine g_get (C := RX6) (T := TX6) (N := 9) hx hb hts hi6 hown hN hW.1 kx rfl (by decide) 1 (by decide) hfX6_24 (v := .ref lb) x1 dX6_pair_42 ?_
        refine g_mV (As := [.ref lb]) (b := J) (rest := []) hx hb hml hown hts hN hW (c_findNearestPair l Γ K F s.heap.size J lb nd dt pl stJ kJ klb hrN (fun i a hi ha => (hlive i a hi ha).1) hstJ) gX6_pair_X0_findNearestPair rfl kJ (by decide) rfl (na := 1) rfl (by decide +kernel) ⟨by decide, by decide⟩ ⟨Nat.le_of_ble_eq_true rfl, Nat.le_of_ble_eq_true rfl⟩ rfl hl.1 (Nat.le_of_ble_eq_true rfl) dX6_pair_45 (fun v K' F1 H locs hp hW hsz' => ?_)
        obtain ⟨rfl, hK9, hpr, hfr⟩ := hp
        subst K'
        show W _ _ _ _ _ _ _ _ _ _ _ _ _ _ _ (F0 m 48 ls [])
        have hx9 : ∀ i, F1 x i = F x i := fun i => hfr x i (fun z => kne kx kJ (by decide) z.1)
        have hNT1 := NT_congr hNT (F' := F1) (fun b i _ _ _ h4 => hfr b i (fun z => h4 ⟨z.1, by omega⟩)) ⟨_, hpr⟩
        rcases (show w = 0 ∨ w = 1 ∨ w = 2 by omega) with rfl | rfl | rfl
        · refine lv_iload_n hx hb dX6_pair_48 rfl (lv_at hl 1 rfl) ?_
          refine lv_lookup (off := 27) (tgt := 76) hx hb dX6_pair_49 (by decide) (by decide) (by decide) ?_
          refine lv_aload_n hx hb dX6_pair_76 rfl (lv_at hl 0 rfl) ?_
          refine g_get (C := RX6) (T := TX6) (N := 9) hx hb hts hi6 hown hN hW.1 kx rfl (by decide) 4 (by decide) hfX6_47 (v := .ref J) ((hx9 4).trans x4) dX6_pair_77 ?_
          refine g_get (C := RX0) (T := TX0) (N := 6) hx hb hts hi0 hown hN hW.1 kJ rfl (by decide) 3 (by decide) hfX6_200 (v := .int (nI (prOut dt nd 100 (9223372036854775807, stJ.2)).2.1)) hpr.1 dX6_pair_80 ?_
          refine lv_i2l (v := (nI (prOut dt nd 100 (9223372036854775807, stJ.2)).2.1).toInt64) hx hb dX6_pair_83 rfl ?_
          exact hret (some (.long ((nI (prOut dt nd 100 (9223372036854775807, stJ.2)).2.1).toInt64))) _ _ _ _ _ _ _ _ (Nat.le_of_ble_eq_true rfl) (Nat.le_of_ble_eq_true rfl) hW (⟨rfl, hNT1, stJ.2, 0, by decide, rfl, c3, rfl⟩) (rt_l dX6_pair_84)
        · refine lv_iload_n hx hb dX6_pair_48 rfl (lv_at hl 1 rfl) ?_
          refine lv_lookup (off := 36) (tgt := 85) hx hb dX6_pair_49 (by decide) (by decide) (by decide) ?_
          refine lv_aload_n hx hb dX6_pair_85 rfl (lv_at hl 0 rfl) ?_
          refine g_get (C := RX6) (T := TX6) (N := 9) hx hb hts hi6 hown hN hW.1 kx rfl (by decide) 4 (by decide) hfX6_47 (v := .ref J) ((hx9 4).trans x4) dX6_pair_86 ?_
          refine g_get (C := RX0) (T := TX0) (N := 6) hx hb hts hi0 hown hN hW.1 kJ rfl (by decide) 4 (by decide) hfX6_203 (v := .int (nI (prOut dt nd 100 (9223372036854775807, stJ.2)).2.2)) hpr.2.1 dX6_pair_89 ?_
          refine lv_i2l (v := (nI (prOut dt nd 100 (9223372036854775807, stJ.2)).2.2).toInt64) hx hb dX6_pair_92 rfl ?_
          exact hret (some (.long ((nI (prOut dt nd 100 (9223372036854775807, stJ.2)).2.2).toInt64))) _ _ _ _ _ _ _ _ (Nat.le_of_ble_eq_true rfl) (Nat.le_of_ble_eq_true rfl) hW (⟨rfl, hNT1, stJ.2, 1, by decide, rfl, c3, rfl⟩) (rt_l dX6_pair_93)
        · refine lv_iload_n hx hb dX6_pair_48 rfl (lv_at hl 1 rfl) ?_
          refine lv_lookup (off := 45) (tgt := 94) hx hb dX6_pair_49 (by decide) (by decide) (by decide) ?_
          refine lv_aload_n hx hb dX6_pair_94 rfl (lv_at hl 0 rfl) ?_
          refine g_get (C := RX6) (T := TX6) (N := 9) hx hb hts hi6 hown hN hW.1 kx rfl (by decide) 4 (by decide) hfX6_47 (v := .ref J) ((hx9 4).trans x4) dX6_pair_95 ?_
          refine g_get (C := RX0) (T := TX0) (N := 6) hx hb hts hi0 hown hN hW.1 kJ rfl (by decide) 5 (by decide) hfX6_206 (v := .long ((prOut dt nd 100 (9223372036854775807, stJ.2)).1)) hpr.2.2 dX6_pair_98 ?_
          exact hret (some (.long ((prOut dt nd 100 (9223372036854775807, stJ.2)).1))) _ _ _ _ _ _ _ _ (Nat.le_of_ble_eq_true rfl) (Nat.le_of_ble_eq_true rfl) hW (⟨rfl, hNT1, stJ.2, 2, by decide, rfl, c3, rfl⟩) (rt_l dX6_pair_101)
      · have c3 : (gLive nd 100).length < 2 := Nat.not_le.mp (fun z => c3 ((nI_leI (by omega) (by omega)).mpr z))
        exact hthr nISE "pair: fewer than two points are live" 69 194 73 27 _ _ ls (Or.inr ⟨rfl, ⟨c1, c2⟩, c3⟩) x_ISE (show (194, "pair: fewer than two points are live") ∈ gStr by decide +kernel) (by decide +kernel) (by decide +kernel) (fun w h => List.mem_cons_of_mem _ (List.mem_append_right _ h)) dX6_pair_27 dX6_pair_30 dX6_pair_31 dX6_pair_33 dX6_pair_36 (by decide) (by decide) (by decide) hW hl.1
    · exact hthr nIAE "pair: what is out of range" 59 192 63 9 _ _ ls (Or.inl ⟨rfl, fun z => c2 z.2⟩) x_IAE (show (192, "pair: what is out of range") ∈ gStr by decide +kernel) (by decide +kernel) (by decide +kernel) (fun w h => List.mem_cons_of_mem _ (List.mem_append_left _ (List.mem_append_right _ h))) dX6_pair_9 dX6_pair_12 dX6_pair_13 dX6_pair_15 dX6_pair_18 (by decide) (by decide) (by decide) hW hl.1

set_option maxHeartbeats 4000000 in
set_option maxRecDepth 100000 in
theorem c_parts (l : Launch) (hfl : l.stackTraces = false) (Γ : gG) (K : gK) (F : gF) (sz : Nat) (x lb T row h ai ad J pts lens d : Nat) (tc : TT Nat) (nd : Nat → Option Nat) (dt : Nat → gPt) (pl : Nat → Nat) (dd : Nat → Bool) (S : List (Nat × Int64)) (lim lk bc bg bp : Nat) (hNT : NT K F x lb T row h ai ad J pts lens d tc nd dt pl dd S lim lk bc bg bp) (most : Int64) : gMX l yX6_parts wsX6_parts 8 1 6 Γ K F sz [.ref x, .long most] (fun v K' F' => K' = K ∧ NT K F' x lb T row h ai ad J pts lens d tc nd dt pl dd S lim lk bc bg bp ∧ ¬ most < 0 ∧ ∃ (A : Nat → Nat) (ln : Nat → Int64), pPrm (gLive nd 100) A (gLive nd 100).length ∧ pFin (dA dt) A ln (gLive nd 100).length (gLive nd 100).length ∧ v = some (.int (nI (prtN ln (gLive nd 100).length most ((gLive nd 100).length - 1))))) (fun E => E = nIAE ∧ most < 0) := by
  refine g_mX (cc := cX6_parts) (maxL := 3) (ret := (some .int)) hfl rfl (by decide) rfl (Nat.le_of_ble_eq_true rfl) ?_
  intro p e s m args below meth c ls Z hsz hx hb hts hown hml hN hW hret hthr hl
  have hl : lv_has ls 3 [(0, .ref x), (1, .long most)] := hl
  have hown : s.vm.findClass RX6 = some m.cls := hown
  have hi6 : ∀ w ∈ wsX60, w ∈ wsX6_parts := by decide +kernel
  have hfX6_24 : Cond.fieldLink RX6 24 (TX6 1).1 (TX6 1).2.1 (TX6 1).2.2.1 ∈ wsX6_parts := by decide +kernel
  have hfX6_47 : Cond.fieldLink RX6 47 (TX6 4).1 (TX6 4).2.1 (TX6 4).2.2.1 ∈ wsX6_parts := by decide +kernel
  obtain ⟨⟨kx, klb, kT, krow, kh, kai, kad, kJ, kpts, klens, krp⟩, ⟨hd1, hd4⟩, ⟨x0, x1, x2, x3, x4, x5, x6, x7, x8⟩, ⟨t0, t1, t2, t3, hC⟩, ⟨j0, j1, stJ, hstJ⟩, hrN, hLS, hND, ⟨p1, p2, p3, p4, p5, p6, p7⟩⟩ := id hNT
  have hlive : ∀ i a, i < 100 → nd i = some a → ndD K F a (pl a) (dt a) ∧ F a 2 = .int (bI (dd a)) := fun i a hi ha => hND a (p2 i a hi ha).1
  refine lv_lload_n hx hb dX6_parts_0 rfl (lv_at hl 1 rfl) ?_
  refine lv_lconst (v := 0) hx hb dX6_parts_1 (by decide) ?_
  refine W.lcmp hx hb dX6_parts_2 ?_
  refine lv_if_ge (tgt := 16) hx hb dX6_parts_3 (by decide) (fun c1 => ?_) (fun c1 => ?_)
  · have c1 : _ := (lg_cmp_ge _ _).mp c1
    refine lv_aload_n hx hb dX6_parts_16 rfl (lv_at hl 0 rfl) ?_
    refine g_get (C := RX6) (T := TX6) (N := 9) hx hb hts hi6 hown hN hW.1 kx rfl (by decide) 4 (by decide) hfX6_47 (v := .ref J) x4 dX6_parts_17 ?_
    refine lv_aload_n hx hb dX6_parts_20 rfl (lv_at hl 0 rfl) ?_
    refine g_get (C := RX6) (T := TX6) (N := 9) hx hb hts hi6 hown hN hW.1 kx rfl (by decide) 1 (by decide) hfX6_24 (v := .ref lb) x1 dX6_parts_21 ?_
    refine g_mV (As := [.ref lb]) (b := J) (rest := []) hx hb hml hown hts hN hW (c_joinAll l Γ K F s.heap.size J lb pts lens nd dt pl dd kJ klb kpts klens (kne klb kpts (by decide)) j0 j1 hrN (fun i a hi ha => (hlive i a hi ha).1.1) (fun a ha => by
        obtain ⟨i, hi, hia⟩ := gLive_mem.mp ha
        exact hlive i a hi hia) (gLive_nodup (fun i a hi ha => (p2 i a hi ha).2.1) 100 (Nat.le_refl _)) p6) gX6_parts_X0_joinAll rfl kJ (by decide) rfl (na := 1) rfl (by decide +kernel) ⟨by decide, by decide⟩ ⟨Nat.le_of_ble_eq_true rfl, Nat.le_of_ble_eq_true rfl⟩ rfl hl.1 (Nat.le_of_ble_eq_true rfl) dX6_parts_24 (fun v K' F1 H locs hp hW hsz' => ?_)
    obtain ⟨rfl, hK9, A, ln, hprm, hfin, hz, hln, hfr⟩ := hp
    subst K'
    show W _ _ _ _ _ _ _ _ _ _ _ _ _ _ _ (F0 m 27 ls [])
    have hx9 : ∀ i, F1 x i = F x i := fun i => hfr x i (kne kx kpts (by decide)) (kne kx klens (by decide)) (fun z => kne kx kJ (by decide) z.1)
    have hJ9 : ∀ i, i ≠ 2 → F1 J i = F J i := fun i hi => hfr J i (kne kJ kpts (by decide)) (kne kJ klens (by decide)) (fun z => hi z.2)
    have hNT1 := NT_congr hNT (F' := F1) (fun b i h1 h2 _ h4 => hfr b i h1 h2 (fun z => h4 ⟨z.1, by omega⟩)) ⟨stJ, (hJ9 3 (by decide)).trans hstJ.1, (hJ9 4 (by decide)).trans hstJ.2.1, (hJ9 5 (by decide)).trans hstJ.2.2⟩
    refine lv_aload_n hx hb dX6_parts_27 rfl (lv_at hl 0 rfl) ?_
    refine g_get (C := RX6) (T := TX6) (N := 9) hx hb hts hi6 hown hN hW.1 kx rfl (by decide) 4 (by decide) hfX6_47 (v := .ref J) ((hx9 4).trans x4) dX6_parts_28 ?_
    refine lv_lload_n hx hb dX6_parts_31 rfl (lv_at hl 1 rfl) ?_
    refine g_cV (v := (some (.int (nI (prtN ln (gLive nd 100).length most ((gLive nd 100).length - 1)))))) (As := [.long most]) (b := J) (rest := []) hx hb hml hown hts hN hW.1 (c_partsWithin l Γ K F1 J lens (gLive nd 100).length most ln kJ klens ((hJ9 1 (by decide)).trans j1) hz hln p6) gX6_parts_X0_partsWithin rfl kJ (by decide) rfl (na := 1) rfl (by decide +kernel) ⟨by decide, by decide⟩ ⟨Nat.zero_le _, Nat.zero_le _⟩ rfl hl.1 (Nat.le_of_ble_eq_true rfl) dX6_parts_32 ?_
    show W _ _ _ _ _ _ _ _ _ _ _ _ _ _ _ (F0 m 35 ls [.int (nI (prtN ln (gLive nd 100).length most ((gLive nd 100).length - 1)))])
    exact hret (some (.int (nI (prtN ln (gLive nd 100).length most ((gLive nd 100).length - 1))))) _ _ _ _ _ _ _ _ (Nat.le_of_ble_eq_true rfl) (Nat.le_of_ble_eq_true rfl) hW (⟨rfl, hNT1, Int64.not_lt.mpr c1, A, ln, hprm, hfin, rfl⟩) (rt_i dX6_parts_35)
  · have c1 : ¬ _ := fun z => c1 ((lg_cmp_ge _ _).mpr z)
    exact hthr nIAE "parts: most is below 0" 59 210 63 6 _ _ ls (⟨rfl, Int64.not_le.mp c1⟩) x_IAE (show (210, "parts: most is below 0") ∈ gStr by decide +kernel) (by decide +kernel) (by decide +kernel) (fun w h => List.mem_cons_of_mem _ (List.mem_append_right _ h)) dX6_parts_6 dX6_parts_9 dX6_parts_10 dX6_parts_12 dX6_parts_15 (by decide) (by decide) (by decide) hW hl.1

set_option maxHeartbeats 4000000 in
set_option maxRecDepth 100000 in
theorem c_span (l : Launch) (Γ : gG) (K : gK) (F : gF) (sz : Nat) (x lb T row h ai ad J pts lens d : Nat) (tc : TT Nat) (nd : Nat → Option Nat) (dt : Nat → gPt) (pl : Nat → Nat) (dd : Nat → Bool) (S : List (Nat × Int64)) (lim lk bc bg bp : Nat) (hNT : NT K F x lb T row h ai ad J pts lens d tc nd dt pl dd S lim lk bc bg bp) : gMM l yX6_span wsX6_span 8 0 0 Γ K F sz [.ref x] (fun v K' F' => K' = K ∧ NT K F' x lb T row h ai ad J pts lens d tc nd dt pl dd S lim lk bc bg bp ∧ ∃ (A : Nat → Nat) (ln : Nat → Int64), pPrm (gLive nd 100) A (gLive nd 100).length ∧ pFin (dA dt) A ln (gLive nd 100).length (gLive nd 100).length ∧ v = some (.long (sumN ln ((gLive nd 100).length - 1)))) := by
  refine g_mM (cc := cX6_span) (maxL := 1) (ret := (some .long)) (by decide) rfl (Nat.le_of_ble_eq_true rfl) ?_
  intro p e s m args below meth c ls Z hsz hx hb hts hown hml hnm hN hW hret hl
  have hl : lv_has ls 1 [(0, .ref x)] := hl
  have hown : s.vm.findClass RX6 = some m.cls := hown
  have hi6 : ∀ w ∈ wsX60, w ∈ wsX6_span := by decide +kernel
  have hfX6_24 : Cond.fieldLink RX6 24 (TX6 1).1 (TX6 1).2.1 (TX6 1).2.2.1 ∈ wsX6_span := by decide +kernel
  have hfX6_47 : Cond.fieldLink RX6 47 (TX6 4).1 (TX6 4).2.1 (TX6 4).2.2.1 ∈ wsX6_span := by decide +kernel
  obtain ⟨⟨kx, klb, kT, krow, kh, kai, kad, kJ, kpts, klens, krp⟩, ⟨hd1, hd4⟩, ⟨x0, x1, x2, x3, x4, x5, x6, x7, x8⟩, ⟨t0, t1, t2, t3, hC⟩, ⟨j0, j1, stJ, hstJ⟩, hrN, hLS, hND, ⟨p1, p2, p3, p4, p5, p6, p7⟩⟩ := id hNT
  have hlive : ∀ i a, i < 100 → nd i = some a → ndD K F a (pl a) (dt a) ∧ F a 2 = .int (bI (dd a)) := fun i a hi ha => hND a (p2 i a hi ha).1
  refine lv_aload_n hx hb dX6_span_0 rfl (lv_at hl 0 rfl) ?_
  refine g_get (C := RX6) (T := TX6) (N := 9) hx hb hts hi6 hown hN hW.1 kx rfl (by decide) 4 (by decide) hfX6_47 (v := .ref J) x4 dX6_span_1 ?_
  refine lv_aload_n hx hb dX6_span_4 rfl (lv_at hl 0 rfl) ?_
  refine g_get (C := RX6) (T := TX6) (N := 9) hx hb hts hi6 hown hN hW.1 kx rfl (by decide) 1 (by decide) hfX6_24 (v := .ref lb) x1 dX6_span_5 ?_
  refine g_mV (As := [.ref lb]) (b := J) (rest := []) hx hb hml hown hts hN hW (c_joinAll l Γ K F s.heap.size J lb pts lens nd dt pl dd kJ klb kpts klens (kne klb kpts (by decide)) j0 j1 hrN (fun i a hi ha => (hlive i a hi ha).1.1) (fun a ha => by
      obtain ⟨i, hi, hia⟩ := gLive_mem.mp ha
      exact hlive i a hi hia) (gLive_nodup (fun i a hi ha => (p2 i a hi ha).2.1) 100 (Nat.le_refl _)) p6) gX6_span_X0_joinAll rfl kJ (by decide) rfl (na := 1) rfl (by decide +kernel) ⟨by decide, by decide⟩ ⟨Nat.le_of_ble_eq_true rfl, Nat.le_of_ble_eq_true rfl⟩ rfl hl.1 (Nat.le_of_ble_eq_true rfl) dX6_span_8 (fun v K' F1 H locs hp hW hsz' => ?_)
  obtain ⟨rfl, hK9, A, ln, hprm, hfin, hz, hln, hfr⟩ := hp
  subst K'
  show W _ _ _ _ _ _ _ _ _ _ _ _ _ _ _ (F0 m 11 ls [])
  have hx9 : ∀ i, F1 x i = F x i := fun i => hfr x i (kne kx kpts (by decide)) (kne kx klens (by decide)) (fun z => kne kx kJ (by decide) z.1)
  have hJ9 : ∀ i, i ≠ 2 → F1 J i = F J i := fun i hi => hfr J i (kne kJ kpts (by decide)) (kne kJ klens (by decide)) (fun z => hi z.2)
  have hNT1 := NT_congr hNT (F' := F1) (fun b i h1 h2 _ h4 => hfr b i h1 h2 (fun z => h4 ⟨z.1, by omega⟩)) ⟨stJ, (hJ9 3 (by decide)).trans hstJ.1, (hJ9 4 (by decide)).trans hstJ.2.1, (hJ9 5 (by decide)).trans hstJ.2.2⟩
  refine lv_aload_n hx hb dX6_span_11 rfl (lv_at hl 0 rfl) ?_
  refine g_get (C := RX6) (T := TX6) (N := 9) hx hb hts hi6 hown hN hW.1 kx rfl (by decide) 4 (by decide) hfX6_47 (v := .ref J) ((hx9 4).trans x4) dX6_span_12 ?_
  refine g_cV (v := (some (.long (sumN ln ((gLive nd 100).length - 1))))) (As := []) (b := J) (rest := []) hx hb hml hown hts hN hW.1 (c_sum l Γ K F1 J lens (gLive nd 100).length ln kJ klens ((hJ9 1 (by decide)).trans j1) hz hln p6) gX6_span_X0_sum rfl kJ (by decide) rfl (na := 0) rfl (by decide +kernel) ⟨by decide, by decide⟩ ⟨Nat.zero_le _, Nat.zero_le _⟩ rfl hl.1 (Nat.le_of_ble_eq_true rfl) dX6_span_15 ?_
  show W _ _ _ _ _ _ _ _ _ _ _ _ _ _ _ (F0 m 18 ls [.long (sumN ln ((gLive nd 100).length - 1))])
  exact hret (some (.long (sumN ln ((gLive nd 100).length - 1)))) _ _ _ _ _ _ hW (⟨rfl, hNT1, A, ln, hprm, hfin, rfl⟩) (rt_l dX6_span_18)
