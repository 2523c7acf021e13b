def pS (P : Nat → Option (Nat → Int32)) (i j : Nat) (st : Int64 × Nat × Nat) : Int64 × Nat × Nat := match P i, P j with
  | some p, some q => if pDist p q < st.1 then (pDist p q, i, j) else st
  | _, _ => st
def pIn (P : Nat → Option (Nat → Int32)) (i k : Nat) (st : Int64 × Nat × Nat) : Int64 × Nat × Nat := itr (fun j s => pS P i j s) (i + 1) k st
def pOut (P : Nat → Option (Nat → Int32)) (k : Nat) (st : Int64 × Nat × Nat) : Int64 × Nat × Nat := itr (fun i s => pIn P i (99 - i) s) 0 k st
theorem pS_n1 {P : Nat → Option (Nat → Int32)} {i j : Nat} {st : Int64 × Nat × Nat} (h : P i = none) : pS P i j st = st := by unfold pS; rw [h]
theorem pS_n2 {P : Nat → Option (Nat → Int32)} {i j : Nat} {st : Int64 × Nat × Nat} (h : P j = none) : pS P i j st = st := by unfold pS; rw [h]; cases P i <;> rfl
theorem pS_ss {P : Nat → Option (Nat → Int32)} {i j : Nat} {p q : Nat → Int32} {st : Int64 × Nat × Nat} (h1 : P i = some p) (h2 : P j = some q) : pS P i j st = if pDist p q < st.1 then (pDist p q, i, j) else st := by unfold pS; rw [h1, h2]
theorem pOut_succ (P : Nat → Option (Nat → Int32)) (k : Nat) (st : Int64 × Nat × Nat) : pOut P (k + 1) st = pIn P k (99 - k) (pOut P k st) := by
  show pIn P (0 + k) (99 - (0 + k)) _ = _
  rw [Nat.zero_add]; rfl
def PI (P : Nat → Option (Nat → Int32)) (i j : Nat) (f : Nat × Nat → Int64 × Nat × Nat) (one oth : Int32) : Prop :=
  (one = -1 ∧ (∀ s0, f s0 = (9223372036854775807, s0)) ∧ ∀ a b, a < b → b < 100 → (a < i ∨ (a = i ∧ b < j)) → P a = none ∨ P b = none) ∨ ∃ a b p q, a < 100 ∧ b < 100 ∧ P a = some p ∧ P b = some q ∧ one = nI a ∧ oth = nI b ∧ ∀ s0, f s0 = (pDist p q, a, b)
theorem two_live {P : Nat → Option (Nat → Int32)} (h : 2 ≤ lcP P) : ∃ i j p q, i < j ∧ j < 100 ∧ P i = some p ∧ P j = some q := by
  unfold lcP at h
  have hn : ((List.range 100).filter (fun i => (P i).isSome)).Nodup := List.nodup_range.filter _
  have hm : ∀ x ∈ (List.range 100).filter (fun i => (P i).isSome), x < 100 ∧ ∃ p, P x = some p := fun x hx => by
    have := List.mem_filter.mp hx
    exact ⟨List.mem_range.mp this.1, Option.isSome_iff_exists.mp this.2⟩
  rcases hL : (List.range 100).filter (fun i => (P i).isSome) with _ | ⟨a, _ | ⟨b, L⟩⟩
  · rw [hL] at h; exact absurd h (by simp)
  · rw [hL] at h; exact absurd h (by simp)
  · rw [hL] at hn hm
    have hab : a ≠ b := fun e => (List.nodup_cons.mp hn).1 (by rw [e]; exact List.mem_cons_self)
    obtain ⟨a1, p, hp⟩ := hm a List.mem_cons_self
    obtain ⟨b1, q, hq⟩ := hm b (List.mem_cons_of_mem _ List.mem_cons_self)
    rcases Nat.lt_or_gt_of_ne hab with h1 | h1
    · exact ⟨a, b, p, q, h1, b1, hp, hq⟩
    · exact ⟨b, a, q, p, h1, a1, hq, hp⟩
theorem pDist_max {p q : Nat → Int32} (hp : ∀ a, a < 4 → okNum (p a) = true) (hq : ∀ a, a < 4 → okNum (q a) = true) : pDist p q < 9223372036854775807 := by
  have h := (pDist_int hp hq).2
  rw [Int64.lt_iff_toInt_lt, show (9223372036854775807 : Int64).toInt = 9223372036854775807 from by decide]
  omega

set_option maxHeartbeats 4000000 in
set_option maxRecDepth 100000 in
theorem m_pair (l : Launch) (Γ : gG) (K : gK) (F : gF) (sz : Nat) (m9 : Nat) (B : Nat → Nat) (hk : MKk K m9 B) (d : Nat) (P : Nat → Option (Nat → Int32)) (t : TT gLb) (S : List (Nat × Int64)) (lk bc bg bp : Nat) (hR : RS F m9 B d P t S lk bc bg bp) (hoP : okP P) (h60 : lcP P ≤ 60) (w9 : Int32) : gMM l yX7_pair wsX7_pair 1 0 0 Γ K F sz [.ref m9, .int w9] (fun v K' F' => ∃ th r, v = some (.long r) ∧ K' = K ∧ F' m9 0 = .int (nI th) ∧ thR th (¬ w9 < 0 ∧ w9 < nI 3) (2 ≤ lcP P) ∧ RS F' m9 B d P t S lk bc bg bp ∧ (th = 0 → ∀ w s0, w < 3 → w9 = nI w → r = pairA (pOut P 100 (9223372036854775807, s0)) w)) := by
  refine g_mM (cc := cX7_pair) (maxL := 6) (ret := (some .long)) (by decide) rfl (Nat.le_of_ble_eq_true rfl) ?_
  intro p e s m args below meth c ls Z hsz hx hb hts hown hml hnm hN hW hret hl
  have hl : lv_has ls 6 [(0, .ref m9), (1, .int w9)] := hl
  have hown : s.vm.findClass RX7 = some m.cls := hown
  have hi7 : ∀ w ∈ wsX70, w ∈ wsX7_pair := by decide +kernel
  have hfX7_1 : Cond.fieldLink RX7 1 (TX7 0).1 (TX7 0).2.1 (TX7 0).2.2.1 ∈ wsX7_pair := by decide +kernel
  have hfX7_13 : Cond.fieldLink RX7 13 (TX7 2).1 (TX7 2).2.1 (TX7 2).2.2.1 ∈ wsX7_pair := by decide +kernel
  have hfX7_125 : Cond.fieldLink RX7 125 (TX7 5).1 (TX7 5).2.1 (TX7 5).2.2.1 ∈ wsX7_pair := by decide +kernel
  have hf := hR.1
  refine lv_aload_n hx hb dX7_pair_0 rfl (lv_at hl 0 rfl) ?_
  refine lv_iload_n hx hb dX7_pair_1 rfl (lv_at hl 1 rfl) ?_
  refine lv_i2l (v := w9.toInt64) hx hb dX7_pair_2 rfl ?_
  refine lv_lconst (v := 0) hx hb dX7_pair_3 (by decide) ?_
  refine lv_ldc2 (v := 2) hx hb hown (hts _ (show Cond.constantLong RX7 166 (2) ∈ _ by decide +kernel)) dX7_pair_4 ?_
  refine g_cS (v := (some (.int (bI (decide ((0 : Int64) ≤ w9.toInt64 ∧ w9.toInt64 ≤ 2)))))) (As := [.long w9.toInt64, .long 0, .long 2]) (rest := [.ref m9]) hx hb hml hown hts hN hW.1 (m_in l Γ K F w9.toInt64 0 2) gX7_pair_X7_in rfl (na := 3) rfl (by decide +kernel) ⟨by decide, by decide⟩ ⟨Nat.zero_le _, Nat.zero_le _⟩ rfl hl.1 (Nat.le_of_ble_eq_true rfl) dX7_pair_7 ?_
  show W _ _ _ _ _ _ _ _ _ _ _ _ _ _ _ (F0 m 10 ls [.int (bI (decide ((0 : Int64) ≤ w9.toInt64 ∧ w9.toInt64 ≤ 2))), .ref m9])
  refine g_asi (show _ = bI (decide (¬ w9 < 0 ∧ w9 < nI 3)) from by rw [inL w9 3 (by decide) 2 (by decide)]) ?_
  refine lv_if_ne (tgt := 17) hx hb dX7_pair_10 (by decide) (fun c1 => ?_) (fun c1 => ?_)
  · have c1 : (decide (¬ w9 < 0 ∧ w9 < nI 3)) = true := bI_n0.mp c1
    have c1 := of_decide_eq_true c1
    obtain ⟨wv, hwv, rfl⟩ := i32_nI (n := 3) (by decide) c1.1 c1.2
    refine lv_aload_n hx hb dX7_pair_17 rfl (lv_at hl 0 rfl) ?_
    refine g_get (C := RX7) (T := TX7) (N := 31) hx hb hts hi7 hown hN hW.1 hk.1 rfl (by decide) 5 (by decide) hfX7_125 (v := .int (nI (lcP P))) hR.2.2.2.1 dX7_pair_18 ?_
    refine lv_iconst (v := nI 2) hx hb dX7_pair_21 (by decide) ?_
    refine lv_icmp_ge (tgt := 29) hx hb dX7_pair_22 (by decide) (fun c2 => ?_) (fun c2 => ?_)
    · have c2 : 2 ≤ (lcP P) := (nI_leI (by omega) (by omega)).mp c2
      refine lv_iconst (v := nI 0) hx hb dX7_pair_29 (by decide) ?_
      refine g_put (C := RX7) (T := TX7) (N := 31) hx hb hts hi7 tyX7 tyX7_ok nmX7 hown hN hW hk.1 rfl (by decide) 0 (by decide) hfX7_1 rfl rfl rfl dX7_pair_30 (fun H locs hW => ?_)
      refine lv_aload_n hx hb dX7_pair_33 rfl (lv_at hl 0 rfl) ?_
      refine g_get (C := RX7) (T := TX7) (N := 31) hx hb hts hi7 hown hN hW.1 hk.1 rfl (by decide) 0 (by decide) hfX7_1 (v := .int (nI 0)) gU_self dX7_pair_34 ?_
      refine lv_if_le (tgt := 42) hx hb dX7_pair_37 (by decide) (fun e1 => ?_) (fun e1 => ?_)
      · have e1 : 0 = 0 := (nI_le0 (by omega)).mp e1
        have hRG : RS (gU F m9 0 (.int (nI 0))) m9 B d P t S lk bc bg bp := hR.thr hk
        have hG0 : gU F m9 0 (.int (nI 0)) m9 0 = .int (nI 0) := gU_self
        generalize gU F m9 0 (.int (nI 0)) = G at hW hRG hG0
        have hfG := hRG.1
        have hrow := hRG.2.2.1.2
        have hlv := hRG.2.2.1.1
        refine lv_iconst (v := (-1)) hx hb dX7_pair_42 (by decide) ?_
        refine lv_istore_n (lv' := [(2, .int (-1)), (0, .ref m9), (1, .int (nI wv))]) hx hb dX7_pair_43 rfl hl (by decide) rfl (fun ls hl => ?_)
        refine lv_iconst (v := (-1)) hx hb dX7_pair_44 (by decide) ?_
        refine lv_istore_n (lv' := [(3, .int (-1)), (2, .int (-1)), (0, .ref m9), (1, .int (nI wv))]) hx hb dX7_pair_45 rfl hl (by decide) rfl (fun ls hl => ?_)
        refine lv_iconst (v := nI 0) hx hb dX7_pair_46 (by decide) ?_
        refine lv_istore (lv' := [(4, .int (nI 0)), (3, .int (-1)), (2, .int (-1)), (0, .ref m9), (1, .int (nI wv))]) hx hb dX7_pair_47 hl (by decide) rfl (fun ls hl => ?_)
        have inner : ∀ (r k9 i : Nat) (s1 : Nat × Nat → Int64 × Nat × Nat) (one oth : Int32) (ls : Array Slot), i + 1 + k9 + r = 100 → PI P i (i + 1 + k9) (fun s0 => pIn P i k9 (s1 s0)) one oth → lv_has ls 6 [(5, .int (nI (i + 1 + k9))), (4, .int (nI i)), (3, .int oth), (2, .int one), (0, .ref m9), (1, .int (nI wv))] → (∀ (one oth : Int32) (ls : Array Slot), PI P (i + 1) 0 (fun s0 => pIn P i (99 - i) (s1 s0)) one oth → lv_has ls 6 [(4, .int (nI i)), (3, .int oth), (2, .int one), (0, .ref m9), (1, .int (nI wv))] → W p l e (gRm 1 0 0) s m args below meth c H locs 0 0 Z (F0 m 124 ls [])) → W p l e (gRm 1 0 0) s m args below meth c H locs 0 0 Z (F0 m 62 ls []) := by
          intro r
          induction r with
          | zero =>
            intro k9 i s1 one oth ls hr hPI hl cont
            have hk99 : k9 = 99 - i := by omega
            refine lv_iload hx hb dX7_pair_62 (lv_at hl 0 rfl) ?_
            refine lv_bipush (v := nI 100) hx hb dX7_pair_64 (by decide) ?_
            refine lv_icmp_ge (tgt := 124) hx hb dX7_pair_66 (by decide) (fun y1 => ?_) (fun y1 => ?_)
            · have y1 : 100 ≤ (i + 1 + k9) := (nI_leI (by omega) (by omega)).mp y1
              refine cont one oth ls ?_ (lv_sub hl [1, 2, 3, 4, 5] rfl)
              rw [← hk99]
              rcases hPI with ⟨h1, h2, h3⟩ | h
              · exact Or.inl ⟨h1, h2, fun a b hab hb2 hc => h3 a b hab hb2 (by omega)⟩
              · exact Or.inr h
            · have y1 : (i + 1 + k9) < 100 := Nat.not_le.mp (fun z => y1 ((nI_leI (by omega) (by omega)).mpr z))
              exact absurd y1 (by omega)
          | succ r ih =>
            intro k9 i s1 one oth ls hr hPI hl cont
            have hsucc : ∀ s0, pIn P i (k9 + 1) (s1 s0) = pS P i (i + 1 + k9) (pIn P i k9 (s1 s0)) := fun _ => rfl
            refine lv_iload hx hb dX7_pair_62 (lv_at hl 0 rfl) ?_
            refine lv_bipush (v := nI 100) hx hb dX7_pair_64 (by decide) ?_
            refine lv_icmp_ge (tgt := 124) hx hb dX7_pair_66 (by decide) (fun y1 => ?_) (fun y1 => ?_)
            · have y1 : 100 ≤ (i + 1 + k9) := (nI_leI (by omega) (by omega)).mp y1
              exact absurd y1 (by omega)
            · have y1 : (i + 1 + k9) < 100 := Nat.not_le.mp (fun z => y1 ((nI_leI (by omega) (by omega)).mpr z))
              refine lv_aload_n hx hb dX7_pair_69 rfl (lv_at hl 4 rfl) ?_
              refine g_get (C := RX7) (T := TX7) (N := 31) hx hb hts hi7 hown hN hW.1 hk.1 rfl (by decide) 2 (by decide) hfX7_13 (v := .ref (B 2)) (hfG 2 rfl) dX7_pair_70 ?_
              refine lv_iload hx hb dX7_pair_73 (lv_at hl 1 rfl) ?_
              refine g_zald (j := i) hx hb hN hW.1 (hk.2.1 2 (10, 100) rfl) (by decide) (show _ = nI i from rfl) (by omega) (v := .int (bI (P i).isSome)) (hlv i (by omega)) dX7_pair_75 ?_
              refine lv_if_eq (tgt := 118) hx hb dX7_pair_76 (by decide) (fun y2 => ?_) (fun y2 => ?_)
              · have y2 : (P i).isSome = false := bI_0.mp y2
                have hn : P i = none := Option.not_isSome_iff_eq_none.mp (by rw [y2]; decide)
                refine lv_iinc (v := nI ((i + 1 + k9) + 1)) (lv' := [(5, .int (nI ((i + 1 + k9) + 1))), (4, .int (nI i)), (3, .int oth), (2, .int one), (0, .ref m9), (1, .int (nI wv))]) hx hb dX7_pair_118 hl (k := 0) rfl (inc1 _) (by decide) rfl (fun ls hl => ?_)
                refine lv_goto (tgt := 62) hx hb dX7_pair_121 (by decide) ?_
                refine ih (k9 + 1) i s1 one oth ls (by omega) ?_ (lv_sub hl [0, 1, 2, 3, 4, 5] rfl) cont
                simp only [hsucc, pS_n1 hn]
                rcases hPI with ⟨h1, h2, h3⟩ | h
                · exact Or.inl ⟨h1, h2, fun a b hab hb2 hc => by
                    by_cases e : a = i ∧ b = i + 1 + k9
                    · rw [e.1, e.2]; exact Or.inl hn
                    · exact h3 a b hab hb2 (by omega)⟩
                · exact Or.inr h
              · have y2 : (P i).isSome = true := bI_n0.mp y2
                obtain ⟨p1, hp1⟩ := Option.isSome_iff_exists.mp y2
                refine lv_aload_n hx hb dX7_pair_79 rfl (lv_at hl 4 rfl) ?_
                refine g_get (C := RX7) (T := TX7) (N := 31) hx hb hts hi7 hown hN hW.1 hk.1 rfl (by decide) 2 (by decide) hfX7_13 (v := .ref (B 2)) (hfG 2 rfl) dX7_pair_80 ?_
                refine lv_iload hx hb dX7_pair_83 (lv_at hl 0 rfl) ?_
                refine g_zald (j := i + 1 + k9) hx hb hN hW.1 (hk.2.1 2 (10, 100) rfl) (by decide) (show _ = nI (i + 1 + k9) from rfl) (by omega) (v := .int (bI (P (i + 1 + k9)).isSome)) (hlv _ (by omega)) dX7_pair_85 ?_
                refine lv_if_eq (tgt := 118) hx hb dX7_pair_86 (by decide) (fun y3 => ?_) (fun y3 => ?_)
                · have y3 : (P (i + 1 + k9)).isSome = false := bI_0.mp y3
                  have hn : P (i + 1 + k9) = none := Option.not_isSome_iff_eq_none.mp (by rw [y3]; decide)
                  refine lv_iinc (v := nI ((i + 1 + k9) + 1)) (lv' := [(5, .int (nI ((i + 1 + k9) + 1))), (4, .int (nI i)), (3, .int oth), (2, .int one), (0, .ref m9), (1, .int (nI wv))]) hx hb dX7_pair_118 hl (k := 0) rfl (inc1 _) (by decide) rfl (fun ls hl => ?_)
                  refine lv_goto (tgt := 62) hx hb dX7_pair_121 (by decide) ?_
                  refine ih (k9 + 1) i s1 one oth ls (by omega) ?_ (lv_sub hl [0, 1, 2, 3, 4, 5] rfl) cont
                  simp only [hsucc, pS_n2 hn]
                  rcases hPI with ⟨h1, h2, h3⟩ | h
                  · exact Or.inl ⟨h1, h2, fun a b hab hb2 hc => by
                      by_cases e : a = i ∧ b = i + 1 + k9
                      · rw [e.1, e.2]; exact Or.inr hn
                      · exact h3 a b hab hb2 (by omega)⟩
                  · exact Or.inr h
                · have y3 : (P (i + 1 + k9)).isSome = true := bI_n0.mp y3
                  obtain ⟨q1, hq1⟩ := Option.isSome_iff_exists.mp y3
                  have hmx := pDist_max (hoP i p1 (by omega) hp1) (hoP _ q1 (by omega) hq1)
                  rcases hPI with ⟨h1, h2, h3⟩ | ⟨a, b, p2, q2, ha, hb2, hp2, hq2, h1, h2, h3⟩
                  · refine lv_iload_n hx hb dX7_pair_89 rfl (lv_at hl 3 rfl) ?_
                    refine lv_iconst (v := (-1)) hx hb dX7_pair_90 (by decide) ?_
                    refine lv_icmp_eq (tgt := 112) hx hb dX7_pair_91 (by decide) (fun y4 => ?_) (fun y4 => ?_)
                    · refine lv_iload hx hb dX7_pair_112 (lv_at hl 1 rfl) ?_
                      refine lv_istore_n (lv' := [(2, .int (nI i)), (5, .int (nI (i + 1 + k9))), (4, .int (nI i)), (3, .int oth), (0, .ref m9), (1, .int (nI wv))]) hx hb dX7_pair_114 rfl hl (by decide) rfl (fun ls hl => ?_)
                      refine lv_iload hx hb dX7_pair_115 (lv_at hl 1 rfl) ?_
                      refine lv_istore_n (lv' := [(3, .int (nI (i + 1 + k9))), (2, .int (nI i)), (5, .int (nI (i + 1 + k9))), (4, .int (nI i)), (0, .ref m9), (1, .int (nI wv))]) hx hb dX7_pair_117 rfl hl (by decide) rfl (fun ls hl => ?_)
                      refine lv_iinc (v := nI ((i + 1 + k9) + 1)) (lv' := [(5, .int (nI ((i + 1 + k9) + 1))), (3, .int (nI (i + 1 + k9))), (2, .int (nI i)), (4, .int (nI i)), (0, .ref m9), (1, .int (nI wv))]) hx hb dX7_pair_118 hl (k := 2) rfl (inc1 _) (by decide) rfl (fun ls hl => ?_)
                      refine lv_goto (tgt := 62) hx hb dX7_pair_121 (by decide) ?_
                      refine ih (k9 + 1) i s1 (nI i) (nI (i + 1 + k9)) ls (by omega) ?_ (lv_sub hl [0, 3, 1, 2, 4, 5] rfl) cont
                      refine Or.inr ⟨i, i + 1 + k9, p1, q1, by omega, by omega, hp1, hq1, rfl, rfl, fun s0 => ?_⟩
                      show pIn P i (k9 + 1) (s1 s0) = _
                      rw [hsucc, pS_ss hp1 hq1, if_pos (by rw [show pIn P i k9 (s1 s0) = _ from h2 s0]; exact hmx)]
                    · exact absurd h1 y4
                  · subst h1
                    subst h2
                    refine lv_iload_n hx hb dX7_pair_89 rfl (lv_at hl 3 rfl) ?_
                    refine lv_iconst (v := (-1)) hx hb dX7_pair_90 (by decide) ?_
                    refine lv_icmp_eq (tgt := 112) hx hb dX7_pair_91 (by decide) (fun y4 => ?_) (fun y4 => ?_)
                    · exact absurd y4 (oI_n (by omega))
                    · refine lv_aload_n hx hb dX7_pair_94 rfl (lv_at hl 4 rfl) ?_
                      refine lv_iload hx hb dX7_pair_95 (lv_at hl 1 rfl) ?_
                      refine lv_iload hx hb dX7_pair_97 (lv_at hl 0 rfl) ?_
                      refine g_cV (v := (some (.long (pDist p1 q1)))) (As := [.int (nI i), .int (nI (i + 1 + k9))]) (b := m9) (rest := []) hx hb hml hown hts hN hW.1 (m_between l Γ K G m9 B hk hfG i (i + 1 + k9) (by omega) (by omega) p1 q1 (hrow i p1 (by omega) hp1) (hrow _ q1 (by omega) hq1)) gX7_pair_X7_between rfl hk.1 (by decide) rfl (na := 2) rfl (by decide +kernel) ⟨by decide, by decide⟩ ⟨Nat.zero_le _, Nat.zero_le _⟩ rfl hl.1 (Nat.le_of_ble_eq_true rfl) dX7_pair_99 ?_
                      show W _ _ _ _ _ _ _ _ _ _ _ _ _ _ _ (F0 m 102 ls [.long (pDist p1 q1)])
                      refine lv_aload_n hx hb dX7_pair_102 rfl (lv_at hl 4 rfl) ?_
                      refine lv_iload_n hx hb dX7_pair_103 rfl (lv_at hl 3 rfl) ?_
                      refine lv_iload_n hx hb dX7_pair_104 rfl (lv_at hl 2 rfl) ?_
                      refine g_cV (v := (some (.long (pDist p2 q2)))) (As := [.int (nI a), .int (nI b)]) (b := m9) (rest := [.long (pDist p1 q1)]) hx hb hml hown hts hN hW.1 (m_between l Γ K G m9 B hk hfG a b ha hb2 p2 q2 (hrow a p2 ha hp2) (hrow b q2 hb2 hq2)) gX7_pair_X7_between rfl hk.1 (by decide) rfl (na := 2) rfl (by decide +kernel) ⟨by decide, by decide⟩ ⟨Nat.zero_le _, Nat.zero_le _⟩ rfl hl.1 (Nat.le_of_ble_eq_true rfl) dX7_pair_105 ?_
                      show W _ _ _ _ _ _ _ _ _ _ _ _ _ _ _ (F0 m 108 ls [.long (pDist p2 q2), .long (pDist p1 q1)])
                      refine W.lcmp hx hb dX7_pair_108 ?_
                      refine lv_if_ge (tgt := 118) hx hb dX7_pair_109 (by decide) (fun y5 => ?_) (fun y5 => ?_)
                      · have y5 : _ := (lg_cmp_ge _ _).mp y5
                        refine lv_iinc (v := nI ((i + 1 + k9) + 1)) (lv' := [(5, .int (nI ((i + 1 + k9) + 1))), (4, .int (nI i)), (3, .int (nI b)), (2, .int (nI a)), (0, .ref m9), (1, .int (nI wv))]) hx hb dX7_pair_118 hl (k := 0) rfl (inc1 _) (by decide) rfl (fun ls hl => ?_)
                        refine lv_goto (tgt := 62) hx hb dX7_pair_121 (by decide) ?_
                        refine ih (k9 + 1) i s1 (nI a) (nI b) ls (by omega) ?_ (lv_sub hl [0, 1, 2, 3, 4, 5] rfl) cont
                        refine Or.inr ⟨a, b, p2, q2, ha, hb2, hp2, hq2, rfl, rfl, fun s0 => ?_⟩
                        show pIn P i (k9 + 1) (s1 s0) = _
                        rw [hsucc, pS_ss hp1 hq1, show pIn P i k9 (s1 s0) = _ from h3 s0, if_neg (Int64.not_lt.mpr y5)]
                      · have y5 : ¬ _ := fun z => y5 ((lg_cmp_ge _ _).mpr z)
                        refine lv_iload hx hb dX7_pair_112 (lv_at hl 1 rfl) ?_
                        refine lv_istore_n (lv' := [(2, .int (nI i)), (5, .int (nI (i + 1 + k9))), (4, .int (nI i)), (3, .int (nI b)), (0, .ref m9), (1, .int (nI wv))]) hx hb dX7_pair_114 rfl hl (by decide) rfl (fun ls hl => ?_)
                        refine lv_iload hx hb dX7_pair_115 (lv_at hl 1 rfl) ?_
                        refine lv_istore_n (lv' := [(3, .int (nI (i + 1 + k9))), (2, .int (nI i)), (5, .int (nI (i + 1 + k9))), (4, .int (nI i)), (0, .ref m9), (1, .int (nI wv))]) hx hb dX7_pair_117 rfl hl (by decide) rfl (fun ls hl => ?_)
                        refine lv_iinc (v := nI ((i + 1 + k9) + 1)) (lv' := [(5, .int (nI ((i + 1 + k9) + 1))), (3, .int (nI (i + 1 + k9))), (2, .int (nI i)), (4, .int (nI i)), (0, .ref m9), (1, .int (nI wv))]) hx hb dX7_pair_118 hl (k := 2) rfl (inc1 _) (by decide) rfl (fun ls hl => ?_)
                        refine lv_goto (tgt := 62) hx hb dX7_pair_121 (by decide) ?_
                        refine ih (k9 + 1) i s1 (nI i) (nI (i + 1 + k9)) ls (by omega) ?_ (lv_sub hl [0, 3, 1, 2, 4, 5] rfl) cont
                        refine Or.inr ⟨i, i + 1 + k9, p1, q1, by omega, by omega, hp1, hq1, rfl, rfl, fun s0 => ?_⟩
                        show pIn P i (k9 + 1) (s1 s0) = _
                        rw [hsucc, pS_ss hp1 hq1, if_pos (by rw [show pIn P i k9 (s1 s0) = _ from h3 s0]; exact Int64.not_le.mp y5)]
        have outer : ∀ (r i : Nat) (one oth : Int32) (ls : Array Slot), i + r = 100 → PI P i 0 (fun s0 => pOut P i (9223372036854775807, s0)) one oth → lv_has ls 6 [(4, .int (nI i)), (3, .int oth), (2, .int one), (0, .ref m9), (1, .int (nI wv))] → W p l e (gRm 1 0 0) s m args below meth c H locs 0 0 Z (F0 m 49 ls []) := by
          intro r
          induction r with
          | zero =>
            intro i one oth ls hr hPI hl
            obtain rfl : i = 100 := by omega
            obtain ⟨a, b, p2, q2, ha, hb2, hp2, hq2, h1, h2, h3⟩ : ∃ a b p q, a < 100 ∧ b < 100 ∧ P a = some p ∧ P b = some q ∧ one = nI a ∧ oth = nI b ∧ ∀ s0, pOut P 100 (9223372036854775807, s0) = (pDist p q, a, b) := by
              rcases hPI with ⟨_, _, h3⟩ | h
              · obtain ⟨i, j, p, q, hij, hj, hp, hq⟩ := two_live c2
                rcases h3 i j hij hj (Or.inl (by omega)) with e | e
                · rw [hp] at e; cases e
                · rw [hq] at e; cases e
              · exact h
            subst h1
            subst h2
            refine lv_iload hx hb dX7_pair_49 (lv_at hl 0 rfl) ?_
            refine lv_bipush (v := nI 100) hx hb dX7_pair_51 (by decide) ?_
            refine lv_icmp_ge (tgt := 130) hx hb dX7_pair_53 (by decide) (fun y1 => ?_) (fun y1 => ?_)
            · have y1 : 100 ≤ 100 := (nI_leI (by omega) (by omega)).mp y1
              refine lv_iload_n hx hb dX7_pair_130 rfl (lv_at hl 4 rfl) ?_
              refine lv_if_ne (tgt := 139) hx hb dX7_pair_131 (by decide) (fun x0 => ?_) (fun x0 => ?_)
              · have x0 : ¬ wv = 0 := fun z => x0 ((nI_eq0 (by omega)).mpr z)
                refine lv_iload_n hx hb dX7_pair_139 rfl (lv_at hl 4 rfl) ?_
                refine lv_iconst (v := nI 1) hx hb dX7_pair_140 (by decide) ?_
                refine lv_icmp_ne (tgt := 149) hx hb dX7_pair_141 (by decide) (fun x1 => ?_) (fun x1 => ?_)
                · have x1 : ¬ wv = 1 := fun z => x1 ((nI_eq (by omega) (by omega)).mpr z)
                  refine lv_aload_n hx hb dX7_pair_149 rfl (lv_at hl 3 rfl) ?_
                  refine lv_iload_n hx hb dX7_pair_150 rfl (lv_at hl 2 rfl) ?_
                  refine lv_iload_n hx hb dX7_pair_151 rfl (lv_at hl 1 rfl) ?_
                  refine g_cV (v := (some (.long (pDist p2 q2)))) (As := [.int (nI a), .int (nI b)]) (b := m9) (rest := []) hx hb hml hown hts hN hW.1 (m_between l Γ K G m9 B hk hfG a b ha hb2 p2 q2 (hrow a p2 ha hp2) (hrow b q2 hb2 hq2)) gX7_pair_X7_between rfl hk.1 (by decide) rfl (na := 2) rfl (by decide +kernel) ⟨by decide, by decide⟩ ⟨Nat.zero_le _, Nat.zero_le _⟩ rfl hl.1 (Nat.le_of_ble_eq_true rfl) dX7_pair_152 ?_
                  show W _ _ _ _ _ _ _ _ _ _ _ _ _ _ _ (F0 m 155 ls [.long (pDist p2 q2)])
                  exact hret (some (.long (pDist p2 q2))) _ _ _ _ _ _ hW (⟨0, pDist p2 q2, rfl, rfl, hG0, Or.inr (Or.inr ⟨rfl, c1, c2⟩), hRG, fun _ w2 s0 hw2 e => by have e := nI_inj (by omega) (by omega) e; subst e; rw [h3 s0]; unfold pairA; rw [if_neg x0, if_neg x1]⟩) (rt_l dX7_pair_155)
                · have x1 : wv = 1 := (nI_eq (by omega) (by omega)).mp x1
                  refine lv_iload_n hx hb dX7_pair_144 rfl (lv_at hl 1 rfl) ?_
                  refine lv_i2l (v := (nI b).toInt64) hx hb dX7_pair_145 rfl ?_
                  refine lv_goto (tgt := 155) hx hb dX7_pair_146 (by decide) ?_
                  exact hret (some (.long ((nI b).toInt64))) _ _ _ _ _ _ hW (⟨0, (nI b).toInt64, rfl, rfl, hG0, Or.inr (Or.inr ⟨rfl, c1, c2⟩), hRG, fun _ w2 s0 hw2 e => by have e := nI_inj (by omega) (by omega) e; subst e; rw [h3 s0]; unfold pairA; rw [if_neg x0, if_pos x1]⟩) (rt_l dX7_pair_155)
              · have x0 : wv = 0 := (nI_eq0 (by omega)).mp x0
                refine lv_iload_n hx hb dX7_pair_134 rfl (lv_at hl 2 rfl) ?_
                refine lv_i2l (v := (nI a).toInt64) hx hb dX7_pair_135 rfl ?_
                refine lv_goto (tgt := 155) hx hb dX7_pair_136 (by decide) ?_
                exact hret (some (.long ((nI a).toInt64))) _ _ _ _ _ _ hW (⟨0, (nI a).toInt64, rfl, rfl, hG0, Or.inr (Or.inr ⟨rfl, c1, c2⟩), hRG, fun _ w2 s0 hw2 e => by have e := nI_inj (by omega) (by omega) e; subst e; rw [h3 s0]; unfold pairA; rw [if_pos x0]⟩) (rt_l dX7_pair_155)
            · have y1 : 100 < 100 := Nat.not_le.mp (fun z => y1 ((nI_leI (by omega) (by omega)).mpr z))
              exact absurd y1 (by omega)
          | succ r ih =>
            intro i one oth ls hr hPI hl
            refine lv_iload hx hb dX7_pair_49 (lv_at hl 0 rfl) ?_
            refine lv_bipush (v := nI 100) hx hb dX7_pair_51 (by decide) ?_
            refine lv_icmp_ge (tgt := 130) hx hb dX7_pair_53 (by decide) (fun y1 => ?_) (fun y1 => ?_)
            · have y1 : 100 ≤ i := (nI_leI (by omega) (by omega)).mp y1
              exact absurd y1 (by omega)
            · have y1 : i < 100 := Nat.not_le.mp (fun z => y1 ((nI_leI (by omega) (by omega)).mpr z))
              refine lv_iload hx hb dX7_pair_56 (lv_at hl 0 rfl) ?_
              refine lv_iconst (v := nI 1) hx hb dX7_pair_58 (by decide) ?_
              refine lv_iadd hx hb dX7_pair_59 ?_
              refine g_asi (show _ = nI (i + 1) from (nI_add _ _).trans (by rfl)) ?_
              refine lv_istore (lv' := [(5, .int (nI (i + 1))), (4, .int (nI i)), (3, .int oth), (2, .int one), (0, .ref m9), (1, .int (nI wv))]) hx hb dX7_pair_60 hl (by decide) rfl (fun ls hl => ?_)
              refine inner (99 - i) 0 i (fun s0 => pOut P i (9223372036854775807, s0)) one oth ls (by omega) ?_ (lv_sub hl [0, 1, 2, 3, 4, 5] rfl) (fun one oth ls hPI hl => ?_)
              · rcases hPI with ⟨h1, h2, h3⟩ | h
                · exact Or.inl ⟨h1, h2, fun a b hab hb2 hc => h3 a b hab hb2 (by omega)⟩
                · exact Or.inr h
              refine lv_iinc (v := nI (i + 1)) (lv' := [(4, .int (nI (i + 1))), (3, .int oth), (2, .int one), (0, .ref m9), (1, .int (nI wv))]) hx hb dX7_pair_124 hl (k := 0) rfl (inc1 _) (by decide) rfl (fun ls hl => ?_)
              refine lv_goto (tgt := 49) hx hb dX7_pair_127 (by decide) ?_
              exact ih (i + 1) one oth ls (by omega) (by simp only [pOut_succ]; exact hPI) (lv_sub hl [0, 1, 2, 3, 4] rfl)
        exact outer 100 0 (-1) (-1) ls rfl (Or.inl ⟨rfl, fun _ => rfl, fun a b hab hb2 hc => by omega⟩) (lv_sub hl [0, 1, 2, 3, 4] rfl)
      · have e1 : 0 < 0 := Nat.pos_of_ne_zero (fun z => e1 ((nI_le0 (by omega)).mpr z))
        exact absurd e1 (by decide)
    · have c2 : (lcP P) < 2 := Nat.not_le.mp (fun z => c2 ((nI_leI (by omega) (by omega)).mpr z))
      refine lv_iconst (v := nI 2) hx hb dX7_pair_25 (by decide) ?_
      refine lv_goto (tgt := 30) hx hb dX7_pair_26 (by decide) ?_
      refine g_put (C := RX7) (T := TX7) (N := 31) hx hb hts hi7 tyX7 tyX7_ok nmX7 hown hN hW hk.1 rfl (by decide) 0 (by decide) hfX7_1 rfl rfl rfl dX7_pair_30 (fun H locs hW => ?_)
      refine lv_aload_n hx hb dX7_pair_33 rfl (lv_at hl 0 rfl) ?_
      refine g_get (C := RX7) (T := TX7) (N := 31) hx hb hts hi7 hown hN hW.1 hk.1 rfl (by decide) 0 (by decide) hfX7_1 (v := .int (nI 2)) gU_self dX7_pair_34 ?_
      refine lv_if_le (tgt := 42) hx hb dX7_pair_37 (by decide) (fun e1 => ?_) (fun e1 => ?_)
      · have e1 : 2 = 0 := (nI_le0 (by omega)).mp e1
        exact absurd e1 (by decide)
      · have e1 : 0 < 2 := Nat.pos_of_ne_zero (fun z => e1 ((nI_le0 (by omega)).mpr z))
        refine lv_lconst (v := 0) hx hb dX7_pair_40 (by decide) ?_
        exact hret (some (.long 0)) _ _ _ _ _ _ hW (⟨2, 0, rfl, rfl, gU_self, Or.inr (Or.inl ⟨rfl, c1, by omega⟩), hR.thr hk, fun z => absurd z (by decide)⟩) (rt_l dX7_pair_41)
  · have c1 : (decide (¬ w9 < 0 ∧ w9 < nI 3)) = false := bI_0.mp c1
    have c1 := of_decide_eq_false c1
    refine lv_iconst (v := nI 1) hx hb dX7_pair_13 (by decide) ?_
    refine lv_goto (tgt := 30) hx hb dX7_pair_14 (by decide) ?_
    refine g_put (C := RX7) (T := TX7) (N := 31) hx hb hts hi7 tyX7 tyX7_ok nmX7 hown hN hW hk.1 rfl (by decide) 0 (by decide) hfX7_1 rfl rfl rfl dX7_pair_30 (fun H locs hW => ?_)
    refine lv_aload_n hx hb dX7_pair_33 rfl (lv_at hl 0 rfl) ?_
    refine g_get (C := RX7) (T := TX7) (N := 31) hx hb hts hi7 hown hN hW.1 hk.1 rfl (by decide) 0 (by decide) hfX7_1 (v := .int (nI 1)) gU_self dX7_pair_34 ?_
    refine lv_if_le (tgt := 42) hx hb dX7_pair_37 (by decide) (fun e1 => ?_) (fun e1 => ?_)
    · have e1 : 1 = 0 := (nI_le0 (by omega)).mp e1
      exact absurd e1 (by decide)
    · have e1 : 0 < 1 := Nat.pos_of_ne_zero (fun z => e1 ((nI_le0 (by omega)).mpr z))
      refine lv_lconst (v := 0) hx hb dX7_pair_40 (by decide) ?_
      exact hret (some (.long 0)) _ _ _ _ _ _ hW (⟨1, 0, rfl, rfl, gU_self, Or.inl ⟨rfl, c1⟩, hR.thr hk, fun z => absurd z (by decide)⟩) (rt_l dX7_pair_41)
