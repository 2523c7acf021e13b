def nwP (F F' : gF) (B : Nat → Nat) (n i : Nat) (pt : Nat → Int32) (up : Int32) : Prop := F' (B 6) n = .int (bI true) ∧ F' (B 7) n = .int (nI i) ∧ (∀ a, a < 4 → F' (B 8) (4 * n + a) = .int (pt a)) ∧ F' (B 9) n = .int (bI true) ∧ F' (B 10) n = .int (-1) ∧ F' (B 11) n = .int (-1) ∧ F' (B 12) n = .int up ∧ F' (B 4) i = .int (nI n) ∧
  ∀ b j, ¬ ((b = B 6 ∨ b = B 7 ∨ b = B 9 ∨ b = B 10 ∨ b = B 11 ∨ b = B 12) ∧ j = n) → ¬ (b = B 8 ∧ 4 * n ≤ j ∧ j < 4 * n + 4) → ¬ (b = B 4 ∧ j = i) → F' b j = F b j

set_option maxHeartbeats 4000000 in
set_option maxRecDepth 100000 in
theorem m_newNode (l : Launch) (Γ : gG) (K : gK) (F : gF) (sz : Nat) (m9 : Nat) (B : Nat → Nat) (hk : MKk K m9 B) (hf : MKf F m9 B) (i n0 : Nat) (up9 : Int32) (U : Nat → Bool) (pt : Nat → Int32) (hi : i < 100) (hU : ∀ n, n < 140 → F (B 6) n = .int (bI (U n))) (hn0 : n0 < 140) (hU0 : U n0 = false) (hp : ∀ a, a < 4 → F (B 3) (4 * i + a) = .int (pt a)) : gMM l yX7_newNode wsX7_newNode 0 0 0 Γ K F sz [.ref m9, .int (nI i), .int up9] (fun v K' F' => ∃ n, n < 140 ∧ U n = false ∧ v = some (.int (nI n)) ∧ K' = K ∧ nwP F F' B n i pt up9) := by
  refine g_mM (cc := cX7_newNode) (maxL := 5) (ret := (some .int)) (by decide) rfl (Nat.le_of_ble_eq_true rfl) ?_
  intro p e s m args below meth c ls Z hsz hx hb hts hown hml hnm hN hW hret hl
  have hl : lv_has ls 5 [(0, .ref m9), (1, .int (nI i)), (2, .int up9)] := hl
  have hown : s.vm.findClass RX7 = some m.cls := hown
  have hi7 : ∀ w ∈ wsX70, w ∈ wsX7_newNode := by decide +kernel
  have hfX7_17 : Cond.fieldLink RX7 17 (TX7 3).1 (TX7 3).2.1 (TX7 3).2.2.1 ∈ wsX7_newNode := by decide +kernel
  have hfX7_21 : Cond.fieldLink RX7 21 (TX7 4).1 (TX7 4).2.1 (TX7 4).2.2.1 ∈ wsX7_newNode := by decide +kernel
  have hfX7_24 : Cond.fieldLink RX7 24 (TX7 6).1 (TX7 6).2.1 (TX7 6).2.2.1 ∈ wsX7_newNode := by decide +kernel
  have hfX7_27 : Cond.fieldLink RX7 27 (TX7 7).1 (TX7 7).2.1 (TX7 7).2.2.1 ∈ wsX7_newNode := by decide +kernel
  have hfX7_30 : Cond.fieldLink RX7 30 (TX7 8).1 (TX7 8).2.1 (TX7 8).2.2.1 ∈ wsX7_newNode := by decide +kernel
  have hfX7_33 : Cond.fieldLink RX7 33 (TX7 9).1 (TX7 9).2.1 (TX7 9).2.2.1 ∈ wsX7_newNode := by decide +kernel
  have hfX7_36 : Cond.fieldLink RX7 36 (TX7 10).1 (TX7 10).2.1 (TX7 10).2.2.1 ∈ wsX7_newNode := by decide +kernel
  have hfX7_39 : Cond.fieldLink RX7 39 (TX7 11).1 (TX7 11).2.1 (TX7 11).2.2.1 ∈ wsX7_newNode := by decide +kernel
  have hfX7_42 : Cond.fieldLink RX7 42 (TX7 12).1 (TX7 12).2.1 (TX7 12).2.2.1 ∈ wsX7_newNode := by decide +kernel
  have body : ∀ (n : Nat) (ls : Array Slot), n < 140 → U n = false → lv_has ls 5 [(3, .int (nI n)), (0, .ref m9), (1, .int (nI i)), (2, .int up9)] → W p l e (gRm 0 0 0) s m args below meth c s.heap [] 0 0 Z (F0 m 17 ls []) := by
    intro n ls hn hUn hl
    refine lv_aload_n hx hb dX7_newNode_17 rfl (lv_at hl 1 rfl) ?_
    refine g_get (C := RX7) (T := TX7) (N := 31) hx hb hts hi7 hown hN hW.1 hk.1 rfl (by decide) 6 (by decide) hfX7_24 (v := .ref (B 6)) (hf 6 rfl) dX7_newNode_18 ?_
    refine lv_iload_n hx hb dX7_newNode_21 rfl (lv_at hl 0 rfl) ?_
    refine lv_iconst (v := nI 1) hx hb dX7_newNode_22 (by decide) ?_
    refine g_asi (show _ = bI true from bI_t') ?_
    refine g_zast (j := n) hx hb hN hW (hk.2.1 6 (10, 140) rfl) (by decide) rfl (show _ = nI n from rfl) hn dX7_newNode_23 (fun H locs hW => ?_)
    refine lv_aload_n hx hb dX7_newNode_24 rfl (lv_at hl 1 rfl) ?_
    refine g_get (C := RX7) (T := TX7) (N := 31) hx hb hts hi7 hown hN hW.1 hk.1 rfl (by decide) 7 (by decide) hfX7_27 (v := .ref (B 7)) ((gU_a (Ne.symm (hk.nm (i := 6) rfl))).trans (hf 7 rfl)) dX7_newNode_25 ?_
    refine lv_iload_n hx hb dX7_newNode_28 rfl (lv_at hl 0 rfl) ?_
    refine lv_iload_n hx hb dX7_newNode_29 rfl (lv_at hl 2 rfl) ?_
    refine g_iast (j := n) hx hb hN hW (hk.2.1 7 (8, 140) rfl) (by decide) (show _ = nI n from rfl) hn dX7_newNode_30 (fun H locs hW => ?_)
    refine lv_iconst (v := nI 0) hx hb dX7_newNode_31 (by decide) ?_
    refine lv_istore (lv' := [(4, .int (nI 0)), (3, .int (nI n)), (0, .ref m9), (1, .int (nI i)), (2, .int up9)]) hx hb dX7_newNode_32 hl (by decide) rfl (fun ls hl => ?_)
    obtain ⟨F1, hF1⟩ : ∃ f, f = (gU (gU F (B 6) n (.int (bI true))) (B 7) n (.int (nI i))) := ⟨_, rfl⟩
    rw [← hF1] at hW
    have hf1 : MKf F1 m9 B := hf.up (fun j _ => by rw [hF1, gU_a (Ne.symm (hk.nm (i := 7) rfl)), gU_a (Ne.symm (hk.nm (i := 6) rfl))])
    have hp1 : ∀ a, a < 4 → F1 (B 3) (4 * i + a) = .int (pt a) := fun a ha => by rw [hF1, gU_a (hk.ne (i := 3) (j := 7) rfl rfl (by decide)), gU_a (hk.ne (i := 3) (j := 6) rfl rfl (by decide))]; exact hp a ha
    have cp : ∀ (j a : Nat) (F2 : gF) (H : Heap) (locs : List Loc) (ls : Array Slot), a + j = 4 → (∀ b, b < a → F2 (B 8) (4 * n + b) = .int (pt b)) → (∀ b i, ¬ (b = B 8 ∧ 4 * n ≤ i ∧ i < 4 * n + 4) → F2 b i = F1 b i) → gW Γ (gA K sz) s.heap K F2 H locs → lv_has ls 5 [(4, .int (nI a)), (3, .int (nI n)), (0, .ref m9), (1, .int (nI i)), (2, .int up9)] → W p l e (gRm 0 0 0) s m args below meth c H locs 0 0 Z (F0 m 34 ls []) := by
      intro j
      induction j with
      | zero =>
        intro a F2 H locs ls hj h8 hfr hW hl
        have hf2 : MKf F2 m9 B := hf1.up (fun j _ => hfr m9 j (fun z => hk.nm (i := 8) rfl z.1.symm))
        refine lv_iload hx hb dX7_newNode_34 (lv_at hl 0 rfl) ?_
        refine lv_iconst (v := nI 4) hx hb dX7_newNode_36 (by decide) ?_
        refine lv_icmp_ge (tgt := 68) hx hb dX7_newNode_37 (by decide) (fun c1 => ?_) (fun c1 => ?_)
        · have c1 : 4 ≤ a := (nI_leI (by omega) (by omega)).mp c1
          have ha4 : a = 4 := by omega
          subst ha4
          refine lv_aload_n hx hb dX7_newNode_68 rfl (lv_at hl 2 rfl) ?_
          refine g_get (C := RX7) (T := TX7) (N := 31) hx hb hts hi7 hown hN hW.1 hk.1 rfl (by decide) 9 (by decide) hfX7_33 (v := .ref (B 9)) (hf2 9 rfl) dX7_newNode_69 ?_
          refine lv_iload_n hx hb dX7_newNode_72 rfl (lv_at hl 1 rfl) ?_
          refine lv_iconst (v := nI 1) hx hb dX7_newNode_73 (by decide) ?_
          refine g_asi (show _ = bI true from bI_t') ?_
          refine g_zast (j := n) hx hb hN hW (hk.2.1 9 (10, 140) rfl) (by decide) rfl (show _ = nI n from rfl) hn dX7_newNode_74 (fun H locs hW => ?_)
          refine lv_aload_n hx hb dX7_newNode_75 rfl (lv_at hl 2 rfl) ?_
          refine g_get (C := RX7) (T := TX7) (N := 31) hx hb hts hi7 hown hN hW.1 hk.1 rfl (by decide) 10 (by decide) hfX7_36 (v := .ref (B 10)) ((gU_a (Ne.symm (hk.nm (i := 9) rfl))).trans (hf2 10 rfl)) dX7_newNode_76 ?_
          refine lv_iload_n hx hb dX7_newNode_79 rfl (lv_at hl 1 rfl) ?_
          refine lv_iconst (v := (-1)) hx hb dX7_newNode_80 (by decide) ?_
          refine g_iast (j := n) hx hb hN hW (hk.2.1 10 (8, 140) rfl) (by decide) (show _ = nI n from rfl) hn dX7_newNode_81 (fun H locs hW => ?_)
          refine lv_aload_n hx hb dX7_newNode_82 rfl (lv_at hl 2 rfl) ?_
          refine g_get (C := RX7) (T := TX7) (N := 31) hx hb hts hi7 hown hN hW.1 hk.1 rfl (by decide) 11 (by decide) hfX7_39 (v := .ref (B 11)) ((gU_a (Ne.symm (hk.nm (i := 10) rfl))).trans ((gU_a (Ne.symm (hk.nm (i := 9) rfl))).trans (hf2 11 rfl))) dX7_newNode_83 ?_
          refine lv_iload_n hx hb dX7_newNode_86 rfl (lv_at hl 1 rfl) ?_
          refine lv_iconst (v := (-1)) hx hb dX7_newNode_87 (by decide) ?_
          refine g_iast (j := n) hx hb hN hW (hk.2.1 11 (8, 140) rfl) (by decide) (show _ = nI n from rfl) hn dX7_newNode_88 (fun H locs hW => ?_)
          refine lv_aload_n hx hb dX7_newNode_89 rfl (lv_at hl 2 rfl) ?_
          refine g_get (C := RX7) (T := TX7) (N := 31) hx hb hts hi7 hown hN hW.1 hk.1 rfl (by decide) 12 (by decide) hfX7_42 (v := .ref (B 12)) ((gU_a (Ne.symm (hk.nm (i := 11) rfl))).trans ((gU_a (Ne.symm (hk.nm (i := 10) rfl))).trans ((gU_a (Ne.symm (hk.nm (i := 9) rfl))).trans (hf2 12 rfl)))) dX7_newNode_90 ?_
          refine lv_iload_n hx hb dX7_newNode_93 rfl (lv_at hl 1 rfl) ?_
          refine lv_iload_n hx hb dX7_newNode_94 rfl (lv_at hl 4 rfl) ?_
          refine g_iast (j := n) hx hb hN hW (hk.2.1 12 (8, 140) rfl) (by decide) (show _ = nI n from rfl) hn dX7_newNode_95 (fun H locs hW => ?_)
          refine lv_aload_n hx hb dX7_newNode_96 rfl (lv_at hl 2 rfl) ?_
          refine g_get (C := RX7) (T := TX7) (N := 31) hx hb hts hi7 hown hN hW.1 hk.1 rfl (by decide) 4 (by decide) hfX7_21 (v := .ref (B 4)) ((gU_a (Ne.symm (hk.nm (i := 12) rfl))).trans ((gU_a (Ne.symm (hk.nm (i := 11) rfl))).trans ((gU_a (Ne.symm (hk.nm (i := 10) rfl))).trans ((gU_a (Ne.symm (hk.nm (i := 9) rfl))).trans (hf2 4 rfl))))) dX7_newNode_97 ?_
          refine lv_iload_n hx hb dX7_newNode_100 rfl (lv_at hl 3 rfl) ?_
          refine lv_iload_n hx hb dX7_newNode_101 rfl (lv_at hl 1 rfl) ?_
          refine g_iast (j := i) hx hb hN hW (hk.2.1 4 (8, 100) rfl) (by decide) (show _ = nI i from rfl) hi dX7_newNode_102 (fun H locs hW => ?_)
          refine lv_iload_n hx hb dX7_newNode_103 rfl (lv_at hl 1 rfl) ?_
          have out : nwP F (gU (gU (gU (gU (gU F2 (B 9) n (.int (bI true))) (B 10) n (.int (-1))) (B 11) n (.int (-1))) (B 12) n (.int up9)) (B 4) i (.int (nI n))) B n i pt up9 := by
            refine ⟨?_, ?_, fun a ha => ?_, ?_, ?_, ?_, ?_, gU_self, fun b j h1 h2 h3 => ?_⟩
            · rw [gU_a (hk.ne (i := 6) (j := 4) rfl rfl (by decide)), gU_a (hk.ne (i := 6) (j := 12) rfl rfl (by decide)), gU_a (hk.ne (i := 6) (j := 11) rfl rfl (by decide)), gU_a (hk.ne (i := 6) (j := 10) rfl rfl (by decide)), gU_a (hk.ne (i := 6) (j := 9) rfl rfl (by decide)), hfr _ _ (fun z => absurd z.1 (hk.ne (i := 6) (j := 8) rfl rfl (by decide))), hF1, gU_a (hk.ne (i := 6) (j := 7) rfl rfl (by decide)), gU_self]
            · rw [gU_a (hk.ne (i := 7) (j := 4) rfl rfl (by decide)), gU_a (hk.ne (i := 7) (j := 12) rfl rfl (by decide)), gU_a (hk.ne (i := 7) (j := 11) rfl rfl (by decide)), gU_a (hk.ne (i := 7) (j := 10) rfl rfl (by decide)), gU_a (hk.ne (i := 7) (j := 9) rfl rfl (by decide)), hfr _ _ (fun z => absurd z.1 (hk.ne (i := 7) (j := 8) rfl rfl (by decide))), hF1, gU_self]
            · rw [gU_a (hk.ne (i := 8) (j := 4) rfl rfl (by decide)), gU_a (hk.ne (i := 8) (j := 12) rfl rfl (by decide)), gU_a (hk.ne (i := 8) (j := 11) rfl rfl (by decide)), gU_a (hk.ne (i := 8) (j := 10) rfl rfl (by decide)), gU_a (hk.ne (i := 8) (j := 9) rfl rfl (by decide))]; exact h8 a ha
            · rw [gU_a (hk.ne (i := 9) (j := 4) rfl rfl (by decide)), gU_a (hk.ne (i := 9) (j := 12) rfl rfl (by decide)), gU_a (hk.ne (i := 9) (j := 11) rfl rfl (by decide)), gU_a (hk.ne (i := 9) (j := 10) rfl rfl (by decide)), gU_self]
            · rw [gU_a (hk.ne (i := 10) (j := 4) rfl rfl (by decide)), gU_a (hk.ne (i := 10) (j := 12) rfl rfl (by decide)), gU_a (hk.ne (i := 10) (j := 11) rfl rfl (by decide)), gU_self]
            · rw [gU_a (hk.ne (i := 11) (j := 4) rfl rfl (by decide)), gU_a (hk.ne (i := 11) (j := 12) rfl rfl (by decide)), gU_self]
            · rw [gU_a (hk.ne (i := 12) (j := 4) rfl rfl (by decide)), gU_self]
            · rw [gU_ne h3, gU_ne (fun z => h1 ⟨by simp [z.1], z.2⟩), gU_ne (fun z => h1 ⟨by simp [z.1], z.2⟩), gU_ne (fun z => h1 ⟨by simp [z.1], z.2⟩), gU_ne (fun z => h1 ⟨by simp [z.1], z.2⟩), hfr b j h2, hF1, gU_ne (fun z => h1 ⟨by simp [z.1], z.2⟩), gU_ne (fun z => h1 ⟨by simp [z.1], z.2⟩)]
          exact hret (some (.int (nI n))) _ _ _ _ _ _ hW (⟨n, hn, hUn, rfl, rfl, out⟩) (rt_i dX7_newNode_104)
        · have c1 : a < 4 := Nat.not_le.mp (fun z => c1 ((nI_leI (by omega) (by omega)).mpr z))
          exact absurd c1 (by omega)
      | succ j ih =>
        intro a F2 H locs ls hj h8 hfr hW hl
        have hf2 : MKf F2 m9 B := hf1.up (fun j _ => hfr m9 j (fun z => hk.nm (i := 8) rfl z.1.symm))
        refine lv_iload hx hb dX7_newNode_34 (lv_at hl 0 rfl) ?_
        refine lv_iconst (v := nI 4) hx hb dX7_newNode_36 (by decide) ?_
        refine lv_icmp_ge (tgt := 68) hx hb dX7_newNode_37 (by decide) (fun c1 => ?_) (fun c1 => ?_)
        · have c1 : 4 ≤ a := (nI_leI (by omega) (by omega)).mp c1
          exact absurd c1 (by omega)
        · have c1 : a < 4 := Nat.not_le.mp (fun z => c1 ((nI_leI (by omega) (by omega)).mpr z))
          refine lv_aload_n hx hb dX7_newNode_40 rfl (lv_at hl 2 rfl) ?_
          refine g_get (C := RX7) (T := TX7) (N := 31) hx hb hts hi7 hown hN hW.1 hk.1 rfl (by decide) 8 (by decide) hfX7_30 (v := .ref (B 8)) (hf2 8 rfl) dX7_newNode_41 ?_
          refine lv_iconst (v := nI 4) hx hb dX7_newNode_44 (by decide) ?_
          refine lv_iload_n hx hb dX7_newNode_45 rfl (lv_at hl 1 rfl) ?_
          refine lv_imul hx hb dX7_newNode_46 ?_
          refine g_asi (show _ = nI (4 * n) from (pk_mul _ _).trans (by rfl)) ?_
          refine lv_iload hx hb dX7_newNode_47 (lv_at hl 0 rfl) ?_
          refine lv_iadd hx hb dX7_newNode_49 ?_
          refine g_asi (show _ = nI ((4 * n) + a) from (nI_add _ _).trans (by rfl)) ?_
          refine lv_aload_n hx hb dX7_newNode_50 rfl (lv_at hl 2 rfl) ?_
          refine g_get (C := RX7) (T := TX7) (N := 31) hx hb hts hi7 hown hN hW.1 hk.1 rfl (by decide) 3 (by decide) hfX7_17 (v := .ref (B 3)) (hf2 3 rfl) dX7_newNode_51 ?_
          refine lv_iconst (v := nI 4) hx hb dX7_newNode_54 (by decide) ?_
          refine lv_iload_n hx hb dX7_newNode_55 rfl (lv_at hl 3 rfl) ?_
          refine lv_imul hx hb dX7_newNode_56 ?_
          refine g_asi (show _ = nI (4 * i) from (pk_mul _ _).trans (by rfl)) ?_
          refine lv_iload hx hb dX7_newNode_57 (lv_at hl 0 rfl) ?_
          refine lv_iadd hx hb dX7_newNode_59 ?_
          refine g_asi (show _ = nI ((4 * i) + a) from (nI_add _ _).trans (by rfl)) ?_
          refine g_iald (j := 4 * i + a) hx hb hN hW.1 (hk.2.1 3 (8, 400) rfl) (by decide) (show _ = nI (4 * i + a) from rfl) (by omega) (v := .int (pt a)) ((hfr _ _ (fun z => absurd z.1 (hk.ne (i := 3) (j := 8) rfl rfl (by decide)))).trans (hp1 a c1)) dX7_newNode_60 ?_
          refine g_iast (j := 4 * n + a) hx hb hN hW (hk.2.1 8 (8, 560) rfl) (by decide) (show _ = nI (4 * n + a) from rfl) (by omega) dX7_newNode_61 (fun H locs hW => ?_)
          refine lv_iinc (v := nI (a + 1)) (lv' := [(4, .int (nI (a + 1))), (3, .int (nI n)), (0, .ref m9), (1, .int (nI i)), (2, .int up9)]) hx hb dX7_newNode_62 hl (k := 0) rfl (inc1 _) (by decide) rfl (fun ls hl => ?_)
          refine lv_goto (tgt := 34) hx hb dX7_newNode_65 (by decide) ?_
          exact ih (a + 1) _ H locs ls (by omega) (fun b hb => by
            by_cases e : b = a
            · rw [e]; exact gU_self
            · rw [gU_k (by omega)]; exact h8 b (by omega)) (fun b i hb => (gU_ne (fun z => hb ⟨z.1, by omega, by omega⟩)).trans (hfr b i hb)) hW (lv_sub hl [0, 1, 2, 3, 4] rfl)
    exact cp 4 0 F1 H locs ls (by omega) (fun b hb => absurd hb (Nat.not_lt_zero b)) (fun _ _ _ => rfl) hW (lv_sub hl [0, 1, 2, 3, 4] rfl)
  have loop : ∀ (j n : Nat) (ls : Array Slot), n + j = n0 → lv_has ls 5 [(3, .int (nI n)), (0, .ref m9), (1, .int (nI i)), (2, .int up9)] → W p l e (gRm 0 0 0) s m args below meth c s.heap [] 0 0 Z (F0 m 2 ls []) := by
    intro j
    induction j with
    | zero =>
      intro n ls hj hl
      refine lv_aload_n hx hb dX7_newNode_2 rfl (lv_at hl 1 rfl) ?_
      refine g_get (C := RX7) (T := TX7) (N := 31) hx hb hts hi7 hown hN hW.1 hk.1 rfl (by decide) 6 (by decide) hfX7_24 (v := .ref (B 6)) (hf 6 rfl) dX7_newNode_3 ?_
      refine lv_iload_n hx hb dX7_newNode_6 rfl (lv_at hl 0 rfl) ?_
      refine g_zald (j := n) hx hb hN hW.1 (hk.2.1 6 (10, 140) rfl) (by decide) (show _ = nI n from rfl) (by omega) (v := .int (bI (U n))) (hU n (by omega)) dX7_newNode_7 ?_
      refine lv_if_eq (tgt := 17) hx hb dX7_newNode_8 (by decide) (fun c1 => ?_) (fun c1 => ?_)
      · have c1 : (U n) = false := bI_0.mp c1
        exact body n ls (by omega) c1 (lv_sub hl [0, 1, 2, 3] rfl)
      · have c1 : (U n) = true := bI_n0.mp c1
        rw [show n = n0 by omega, hU0] at c1; cases c1
    | succ j ih =>
      intro n ls hj hl
      refine lv_aload_n hx hb dX7_newNode_2 rfl (lv_at hl 1 rfl) ?_
      refine g_get (C := RX7) (T := TX7) (N := 31) hx hb hts hi7 hown hN hW.1 hk.1 rfl (by decide) 6 (by decide) hfX7_24 (v := .ref (B 6)) (hf 6 rfl) dX7_newNode_3 ?_
      refine lv_iload_n hx hb dX7_newNode_6 rfl (lv_at hl 0 rfl) ?_
      refine g_zald (j := n) hx hb hN hW.1 (hk.2.1 6 (10, 140) rfl) (by decide) (show _ = nI n from rfl) (by omega) (v := .int (bI (U n))) (hU n (by omega)) dX7_newNode_7 ?_
      refine lv_if_eq (tgt := 17) hx hb dX7_newNode_8 (by decide) (fun c1 => ?_) (fun c1 => ?_)
      · have c1 : (U n) = false := bI_0.mp c1
        exact body n ls (by omega) c1 (lv_sub hl [0, 1, 2, 3] rfl)
      · have c1 : (U n) = true := bI_n0.mp c1
        refine lv_iinc (v := nI (n + 1)) (lv' := [(3, .int (nI (n + 1))), (0, .ref m9), (1, .int (nI i)), (2, .int up9)]) hx hb dX7_newNode_11 hl (k := 0) rfl (inc1 _) (by decide) rfl (fun ls hl => ?_)
        refine lv_goto (tgt := 2) hx hb dX7_newNode_14 (by decide) ?_
        exact ih (n + 1) ls (by omega) (lv_sub hl [0, 1, 2, 3] rfl)
  refine lv_iconst (v := nI 0) hx hb dX7_newNode_0 (by decide) ?_
  refine lv_istore_n (lv' := [(3, .int (nI 0)), (0, .ref m9), (1, .int (nI i)), (2, .int up9)]) hx hb dX7_newNode_1 rfl hl (by decide) rfl (fun ls hl => ?_)
  exact loop n0 0 ls (by omega) (lv_sub hl [0, 1, 2, 3] rfl)

def vI (i : Nat) : Value := .int (nI i)
def ltP (pp : Nat → Nat → Int32) (ax i j : Nat) : Bool := pLess ax (i, pp i) (j, pp j)

set_option maxHeartbeats 4000000 in
set_option maxRecDepth 100000 in
theorem m_sortBy (l : Launch) (Γ : gG) (K : gK) (F : gF) (sz : Nat) (m9 : Nat) (B : Nat → Nat) (hk : MKk K m9 B) (hf : MKf F m9 B) (ax fr : Nat) (L : List Nat) (pp : Nat → Nat → Int32) (hrow : rowL F (B 19) fr (L.map vI)) (hL : ∀ i ∈ L, i < 100 ∧ ∀ a, a < 4 → F (B 3) (4 * i + a) = .int (pp i a)) (hax : ax < 4) (h100 : fr + L.length ≤ 100) : gMM l yX7_sortBy wsX7_sortBy 0 0 0 Γ K F sz [.ref m9, .int (nI ax), .int (nI fr), .int (nI (fr + L.length))] (fun v K' F' => v = none ∧ K' = K ∧ rowL F' (B 19) fr ((isort (ltP pp ax) [] L).map vI) ∧ ∀ b i, ¬ (b = B 19 ∧ fr ≤ i ∧ i < fr + L.length) → F' b i = F b i) := by
  refine g_mM (cc := cX7_sortBy) (maxL := 7) (ret := none) (by decide) rfl (Nat.le_of_ble_eq_true rfl) ?_
  intro p e s m args below meth c ls Z hsz hx hb hts hown hml hnm hN hW hret hl
  have hl : lv_has ls 7 [(0, .ref m9), (1, .int (nI ax)), (2, .int (nI fr)), (3, .int (nI (fr + L.length)))] := hl
  have hown : s.vm.findClass RX7 = some m.cls := hown
  have hi7 : ∀ w ∈ wsX70, w ∈ wsX7_sortBy := by decide +kernel
  have hfX7_17 : Cond.fieldLink RX7 17 (TX7 3).1 (TX7 3).2.1 (TX7 3).2.2.1 ∈ wsX7_sortBy := by decide +kernel
  have hfX7_54 : Cond.fieldLink RX7 54 (TX7 19).1 (TX7 19).2.1 (TX7 19).2.2.1 ∈ wsX7_sortBy := by decide +kernel
  have inner : ∀ (n : Nat) (P Q M : List Nat) (x nx : Nat) (F1 : gF) (H : Heap) (locs : List Loc) (ls : Array Slot), P.length = n → n + Q.length + 1 + M.length = L.length → (∀ z ∈ P ++ Q, z ∈ L) → x ∈ L → (∀ q ∈ Q, ltP pp ax x q = true) → rowL F1 (B 19) fr (P.map vI) → rowL F1 (B 19) (fr + n + 1) ((Q ++ M).map vI) → (∀ b i, ¬ (b = B 19 ∧ fr ≤ i ∧ i < fr + L.length) → F1 b i = F b i) → gW Γ (gA K sz) s.heap K F1 H locs → lv_has ls 7 [(6, .int (nI (fr + n))), (5, .int (nI x)), (4, .int (nI nx)), (0, .ref m9), (1, .int (nI ax)), (2, .int (nI fr)), (3, .int (nI (fr + L.length)))] →
        (∀ (F2 : gF) (H : Heap) (locs : List Loc) (ls : Array Slot), rowL F2 (B 19) fr ((insR (ltP pp ax) x (P ++ Q) ++ M).map vI) → (∀ b i, ¬ (b = B 19 ∧ fr ≤ i ∧ i < fr + L.length) → F2 b i = F b i) → gW Γ (gA K sz) s.heap K F2 H locs → lv_has ls 7 [(4, .int (nI nx)), (0, .ref m9), (1, .int (nI ax)), (2, .int (nI fr)), (3, .int (nI (fr + L.length)))] → W p l e (gRm 0 0 0) s m args below meth c H locs 0 0 Z (F0 m 139 ls [])) → W p l e (gRm 0 0 0) s m args below meth c H locs 0 0 Z (F0 m 24 ls []) := by
    intro n
    induction n with
    | zero =>
      intro P Q M x nx F1 H locs ls hPn hlen hsub hxL hQ hP hQM hfr hW hl kk
      have hf1 : MKf F1 m9 B := hf.up (fun j _ => hfr m9 j (fun z => hk.nm (i := 19) rfl z.1.symm))
      have hx9 := (hL x hxL).1
      have p1 : ∀ i, i ∈ L → ∀ a, a < 4 → F1 (B 3) (4 * i + a) = .int (pp i a) := fun i hi a ha => (hfr _ _ (fun z => absurd z.1 (hk.ne (i := 3) (j := 19) rfl rfl (by decide)))).trans ((hL i hi).2 a ha)
      refine lv_iload hx hb dX7_sortBy_24 (lv_at hl 0 rfl) ?_
      refine lv_iload_n hx hb dX7_sortBy_26 rfl (lv_at hl 5 rfl) ?_
      refine lv_icmp_le (tgt := 130) hx hb dX7_sortBy_27 (by decide) (fun c1 => ?_) (fun c1 => ?_)
      · have c1 : (fr + 0) ≤ fr := (nI_leI (by omega) (by omega)).mp c1
        obtain rfl : P = [] := List.length_eq_zero_iff.mp hPn
        refine lv_aload_n hx hb dX7_sortBy_130 rfl (lv_at hl 3 rfl) ?_
        refine g_get (C := RX7) (T := TX7) (N := 31) hx hb hts hi7 hown hN hW.1 hk.1 rfl (by decide) 19 (by decide) hfX7_54 (v := .ref (B 19)) (hf1 19 rfl) dX7_sortBy_131 ?_
        refine lv_iload hx hb dX7_sortBy_134 (lv_at hl 0 rfl) ?_
        refine lv_iload hx hb dX7_sortBy_136 (lv_at hl 1 rfl) ?_
        refine g_iast (j := fr + 0) hx hb hN hW (hk.2.1 19 (8, 100) rfl) (by decide) (show _ = nI (fr + 0) from rfl) (by omega) dX7_sortBy_138 (fun H locs hW => ?_)
        have q := rowL.fill (v := vI x) hP (Q := (Q ++ M).map vI) hQM
        refine kk _ H locs ls (by rw [List.nil_append, insR_all hQ, List.cons_append]; exact q) (fun b i hb => by rw [gU_ne (fun z => hb ⟨z.1, by omega, by omega⟩)]; exact hfr b i hb) hW (lv_sub hl [2, 3, 4, 5, 6] rfl)
      · have c1 : fr < (fr + 0) := Nat.not_le.mp (fun z => c1 ((nI_leI (by omega) (by omega)).mpr z))
        exact absurd c1 (by omega)
    | succ n ih =>
      intro P Q M x nx F1 H locs ls hPn hlen hsub hxL hQ hP hQM hfr hW hl kk
      have hf1 : MKf F1 m9 B := hf.up (fun j _ => hfr m9 j (fun z => hk.nm (i := 19) rfl z.1.symm))
      have hx9 := (hL x hxL).1
      have p1 : ∀ i, i ∈ L → ∀ a, a < 4 → F1 (B 3) (4 * i + a) = .int (pp i a) := fun i hi a ha => (hfr _ _ (fun z => absurd z.1 (hk.ne (i := 3) (j := 19) rfl rfl (by decide)))).trans ((hL i hi).2 a ha)
      refine lv_iload hx hb dX7_sortBy_24 (lv_at hl 0 rfl) ?_
      refine lv_iload_n hx hb dX7_sortBy_26 rfl (lv_at hl 5 rfl) ?_
      refine lv_icmp_le (tgt := 130) hx hb dX7_sortBy_27 (by decide) (fun c1 => ?_) (fun c1 => ?_)
      · have c1 : (fr + (n + 1)) ≤ fr := (nI_leI (by omega) (by omega)).mp c1
        exact absurd c1 (by omega)
      · have c1 : fr < (fr + (n + 1)) := Nat.not_le.mp (fun z => c1 ((nI_leI (by omega) (by omega)).mpr z))
        obtain ⟨P, z, rfl, hPl⟩ := snoc_of hPn
        have hzL : z ∈ L := hsub z (by simp)
        have hz9 := (hL z hzL).1
        rw [List.map_append] at hP
        have hz := rowL.last (v := vI z) hP
        rw [List.length_map, hPl] at hz
        have hsub1 : nI (fr + (n + 1)) - nI 1 = nI (fr + n) := by rw [show fr + (n + 1) = fr + n + 1 by omega]; exact (pk_sub (by omega)).trans (by rw [Nat.add_sub_cancel])
        refine lv_aload_n hx hb dX7_sortBy_30 rfl (lv_at hl 3 rfl) ?_
        refine g_get (C := RX7) (T := TX7) (N := 31) hx hb hts hi7 hown hN hW.1 hk.1 rfl (by decide) 3 (by decide) hfX7_17 (v := .ref (B 3)) (hf1 3 rfl) dX7_sortBy_31 ?_
        refine lv_iconst (v := nI 4) hx hb dX7_sortBy_34 (by decide) ?_
        refine lv_aload_n hx hb dX7_sortBy_35 rfl (lv_at hl 3 rfl) ?_
        refine g_get (C := RX7) (T := TX7) (N := 31) hx hb hts hi7 hown hN hW.1 hk.1 rfl (by decide) 19 (by decide) hfX7_54 (v := .ref (B 19)) (hf1 19 rfl) dX7_sortBy_36 ?_
        refine lv_iload hx hb dX7_sortBy_39 (lv_at hl 0 rfl) ?_
        refine lv_iconst (v := nI 1) hx hb dX7_sortBy_41 (by decide) ?_
        refine lv_isub hx hb dX7_sortBy_42 ?_
        refine g_asi (show _ = nI (fr + n) from hsub1) ?_
        refine g_iald (j := fr + n) hx hb hN hW.1 (hk.2.1 19 (8, 100) rfl) (by decide) (show _ = nI (fr + n) from rfl) (by omega) (v := .int (nI z)) hz dX7_sortBy_43 ?_
        refine lv_imul hx hb dX7_sortBy_44 ?_
        refine g_asi (show _ = nI (4 * z) from (pk_mul _ _).trans (by rfl)) ?_
        refine lv_iload_n hx hb dX7_sortBy_45 rfl (lv_at hl 4 rfl) ?_
        refine lv_iadd hx hb dX7_sortBy_46 ?_
        refine g_asi (show _ = nI ((4 * z) + ax) from (nI_add _ _).trans (by rfl)) ?_
        refine g_iald (j := 4 * z + ax) hx hb hN hW.1 (hk.2.1 3 (8, 400) rfl) (by decide) (show _ = nI (4 * z + ax) from rfl) (by omega) (v := .int (pp z ax)) (p1 z hzL ax hax) dX7_sortBy_47 ?_
        refine lv_aload_n hx hb dX7_sortBy_48 rfl (lv_at hl 3 rfl) ?_
        refine g_get (C := RX7) (T := TX7) (N := 31) hx hb hts hi7 hown hN hW.1 hk.1 rfl (by decide) 3 (by decide) hfX7_17 (v := .ref (B 3)) (hf1 3 rfl) dX7_sortBy_49 ?_
        refine lv_iconst (v := nI 4) hx hb dX7_sortBy_52 (by decide) ?_
        refine lv_iload hx hb dX7_sortBy_53 (lv_at hl 1 rfl) ?_
        refine lv_imul hx hb dX7_sortBy_55 ?_
        refine g_asi (show _ = nI (4 * x) from (pk_mul _ _).trans (by rfl)) ?_
        refine lv_iload_n hx hb dX7_sortBy_56 rfl (lv_at hl 4 rfl) ?_
        refine lv_iadd hx hb dX7_sortBy_57 ?_
        refine g_asi (show _ = nI ((4 * x) + ax) from (nI_add _ _).trans (by rfl)) ?_
        refine g_iald (j := 4 * x + ax) hx hb hN hW.1 (hk.2.1 3 (8, 400) rfl) (by decide) (show _ = nI (4 * x + ax) from rfl) (by omega) (v := .int (pp x ax)) (p1 x hxL ax hax) dX7_sortBy_58 ?_
        refine lv_icmp_gt (tgt := 108) hx hb dX7_sortBy_59 (by decide) (fun c2 => ?_) (fun c2 => ?_)
        · refine lv_aload_n hx hb dX7_sortBy_108 rfl (lv_at hl 3 rfl) ?_
          refine g_get (C := RX7) (T := TX7) (N := 31) hx hb hts hi7 hown hN hW.1 hk.1 rfl (by decide) 19 (by decide) hfX7_54 (v := .ref (B 19)) (hf1 19 rfl) dX7_sortBy_109 ?_
          refine lv_iload hx hb dX7_sortBy_112 (lv_at hl 0 rfl) ?_
          refine lv_aload_n hx hb dX7_sortBy_114 rfl (lv_at hl 3 rfl) ?_
          refine g_get (C := RX7) (T := TX7) (N := 31) hx hb hts hi7 hown hN hW.1 hk.1 rfl (by decide) 19 (by decide) hfX7_54 (v := .ref (B 19)) (hf1 19 rfl) dX7_sortBy_115 ?_
          refine lv_iload hx hb dX7_sortBy_118 (lv_at hl 0 rfl) ?_
          refine lv_iconst (v := nI 1) hx hb dX7_sortBy_120 (by decide) ?_
          refine lv_isub hx hb dX7_sortBy_121 ?_
          refine g_asi (show _ = nI (fr + n) from hsub1) ?_
          refine g_iald (j := fr + n) hx hb hN hW.1 (hk.2.1 19 (8, 100) rfl) (by decide) (show _ = nI (fr + n) from rfl) (by omega) (v := .int (nI z)) hz dX7_sortBy_122 ?_
          refine g_iast (j := fr + (n + 1)) hx hb hN hW (hk.2.1 19 (8, 100) rfl) (by decide) (show _ = nI (fr + (n + 1)) from rfl) (by omega) dX7_sortBy_123 (fun H locs hW => ?_)
          have hl : lv_has ls 7 [(6, .int (nI (fr + n + 1))), (5, .int (nI x)), (4, .int (nI nx)), (0, .ref m9), (1, .int (nI ax)), (2, .int (nI fr)), (3, .int (nI (fr + L.length)))] := hl
          refine lv_iinc (v := nI (fr + n)) (lv' := [(6, .int (nI (fr + n))), (5, .int (nI x)), (4, .int (nI nx)), (0, .ref m9), (1, .int (nI ax)), (2, .int (nI fr)), (3, .int (nI (fr + L.length)))]) hx hb dX7_sortBy_124 hl (k := 0) rfl (dec1s _) (by decide) rfl (fun ls hl => ?_)
          refine lv_goto (tgt := 24) hx hb dX7_sortBy_127 (by decide) ?_
          have c2 : ltP pp ax x z = true := decide_eq_true (Or.inl c2)
          have q := rowL.shift (v := vI z) hP (Q := (Q ++ M).map vI) (by rw [List.length_map, hPl]; exact hQM)
          rw [List.length_map, hPl] at q
          exact ih P (z :: Q) M x nx _ H locs ls hPl (by rw [← hlen, List.length_cons]; omega) (fun y hy => hsub y (by simpa using hy)) hxL (fun y hy => by
            rcases List.mem_cons.mp hy with rfl | hy
            · exact c2
            · exact hQ y hy) q.1 q.2 (fun b i hb => by rw [gU_ne (fun z => hb ⟨z.1, by omega, by omega⟩)]; exact hfr b i hb) hW (lv_sub hl [0, 1, 2, 3, 4, 5, 6] rfl) (by rw [show P ++ z :: Q = P ++ [z] ++ Q by simp]; exact kk)
        · refine lv_aload_n hx hb dX7_sortBy_62 rfl (lv_at hl 3 rfl) ?_
          refine g_get (C := RX7) (T := TX7) (N := 31) hx hb hts hi7 hown hN hW.1 hk.1 rfl (by decide) 3 (by decide) hfX7_17 (v := .ref (B 3)) (hf1 3 rfl) dX7_sortBy_63 ?_
          refine lv_iconst (v := nI 4) hx hb dX7_sortBy_66 (by decide) ?_
          refine lv_aload_n hx hb dX7_sortBy_67 rfl (lv_at hl 3 rfl) ?_
          refine g_get (C := RX7) (T := TX7) (N := 31) hx hb hts hi7 hown hN hW.1 hk.1 rfl (by decide) 19 (by decide) hfX7_54 (v := .ref (B 19)) (hf1 19 rfl) dX7_sortBy_68 ?_
          refine lv_iload hx hb dX7_sortBy_71 (lv_at hl 0 rfl) ?_
          refine lv_iconst (v := nI 1) hx hb dX7_sortBy_73 (by decide) ?_
          refine lv_isub hx hb dX7_sortBy_74 ?_
          refine g_asi (show _ = nI (fr + n) from hsub1) ?_
          refine g_iald (j := fr + n) hx hb hN hW.1 (hk.2.1 19 (8, 100) rfl) (by decide) (show _ = nI (fr + n) from rfl) (by omega) (v := .int (nI z)) hz dX7_sortBy_75 ?_
          refine lv_imul hx hb dX7_sortBy_76 ?_
          refine g_asi (show _ = nI (4 * z) from (pk_mul _ _).trans (by rfl)) ?_
          refine lv_iload_n hx hb dX7_sortBy_77 rfl (lv_at hl 4 rfl) ?_
          refine lv_iadd hx hb dX7_sortBy_78 ?_
          refine g_asi (show _ = nI ((4 * z) + ax) from (nI_add _ _).trans (by rfl)) ?_
          refine g_iald (j := 4 * z + ax) hx hb hN hW.1 (hk.2.1 3 (8, 400) rfl) (by decide) (show _ = nI (4 * z + ax) from rfl) (by omega) (v := .int (pp z ax)) (p1 z hzL ax hax) dX7_sortBy_79 ?_
          refine lv_aload_n hx hb dX7_sortBy_80 rfl (lv_at hl 3 rfl) ?_
          refine g_get (C := RX7) (T := TX7) (N := 31) hx hb hts hi7 hown hN hW.1 hk.1 rfl (by decide) 3 (by decide) hfX7_17 (v := .ref (B 3)) (hf1 3 rfl) dX7_sortBy_81 ?_
          refine lv_iconst (v := nI 4) hx hb dX7_sortBy_84 (by decide) ?_
          refine lv_iload hx hb dX7_sortBy_85 (lv_at hl 1 rfl) ?_
          refine lv_imul hx hb dX7_sortBy_87 ?_
          refine g_asi (show _ = nI (4 * x) from (pk_mul _ _).trans (by rfl)) ?_
          refine lv_iload_n hx hb dX7_sortBy_88 rfl (lv_at hl 4 rfl) ?_
          refine lv_iadd hx hb dX7_sortBy_89 ?_
          refine g_asi (show _ = nI ((4 * x) + ax) from (nI_add _ _).trans (by rfl)) ?_
          refine g_iald (j := 4 * x + ax) hx hb hN hW.1 (hk.2.1 3 (8, 400) rfl) (by decide) (show _ = nI (4 * x + ax) from rfl) (by omega) (v := .int (pp x ax)) (p1 x hxL ax hax) dX7_sortBy_90 ?_
          refine lv_icmp_ne (tgt := 130) hx hb dX7_sortBy_91 (by decide) (fun c3 => ?_) (fun c3 => ?_)
          · have c2 : ltP pp ax x z = false := decide_eq_false (fun q => q.elim (fun q => c2 q) (fun q => c3 q.1.symm))
            refine lv_aload_n hx hb dX7_sortBy_130 rfl (lv_at hl 3 rfl) ?_
            refine g_get (C := RX7) (T := TX7) (N := 31) hx hb hts hi7 hown hN hW.1 hk.1 rfl (by decide) 19 (by decide) hfX7_54 (v := .ref (B 19)) (hf1 19 rfl) dX7_sortBy_131 ?_
            refine lv_iload hx hb dX7_sortBy_134 (lv_at hl 0 rfl) ?_
            refine lv_iload hx hb dX7_sortBy_136 (lv_at hl 1 rfl) ?_
            refine g_iast (j := fr + (n + 1)) hx hb hN hW (hk.2.1 19 (8, 100) rfl) (by decide) (show _ = nI (fr + (n + 1)) from rfl) (by omega) dX7_sortBy_138 (fun H locs hW => ?_)
            have q := rowL.fill (v := vI x) hP (Q := (Q ++ M).map vI) (by rw [List.length_append, List.length_map, hPl]; exact hQM)
            rw [List.length_append, List.length_map, hPl] at q
            refine kk _ H locs ls (by rw [insR_eq hQ c2, List.append_assoc, List.map_append, List.map_append]; exact q) (fun b i hb => by rw [gU_ne (fun z => hb ⟨z.1, by omega, by omega⟩)]; exact hfr b i hb) hW (lv_sub hl [2, 3, 4, 5, 6] rfl)
          · refine lv_aload_n hx hb dX7_sortBy_94 rfl (lv_at hl 3 rfl) ?_
            refine g_get (C := RX7) (T := TX7) (N := 31) hx hb hts hi7 hown hN hW.1 hk.1 rfl (by decide) 19 (by decide) hfX7_54 (v := .ref (B 19)) (hf1 19 rfl) dX7_sortBy_95 ?_
            refine lv_iload hx hb dX7_sortBy_98 (lv_at hl 0 rfl) ?_
            refine lv_iconst (v := nI 1) hx hb dX7_sortBy_100 (by decide) ?_
            refine lv_isub hx hb dX7_sortBy_101 ?_
            refine g_asi (show _ = nI (fr + n) from hsub1) ?_
            refine g_iald (j := fr + n) hx hb hN hW.1 (hk.2.1 19 (8, 100) rfl) (by decide) (show _ = nI (fr + n) from rfl) (by omega) (v := .int (nI z)) hz dX7_sortBy_102 ?_
            refine lv_iload hx hb dX7_sortBy_103 (lv_at hl 1 rfl) ?_
            refine lv_icmp_le (tgt := 130) hx hb dX7_sortBy_105 (by decide) (fun c4 => ?_) (fun c4 => ?_)
            · have c4 : z ≤ x := (nI_leI (by omega) (by omega)).mp c4
              have c2 : ltP pp ax x z = false := decide_eq_false (fun q => q.elim (fun q => c2 q) (fun q => absurd q.2 (Nat.not_lt.mpr c4)))
              refine lv_aload_n hx hb dX7_sortBy_130 rfl (lv_at hl 3 rfl) ?_
              refine g_get (C := RX7) (T := TX7) (N := 31) hx hb hts hi7 hown hN hW.1 hk.1 rfl (by decide) 19 (by decide) hfX7_54 (v := .ref (B 19)) (hf1 19 rfl) dX7_sortBy_131 ?_
              refine lv_iload hx hb dX7_sortBy_134 (lv_at hl 0 rfl) ?_
              refine lv_iload hx hb dX7_sortBy_136 (lv_at hl 1 rfl) ?_
              refine g_iast (j := fr + (n + 1)) hx hb hN hW (hk.2.1 19 (8, 100) rfl) (by decide) (show _ = nI (fr + (n + 1)) from rfl) (by omega) dX7_sortBy_138 (fun H locs hW => ?_)
              have q := rowL.fill (v := vI x) hP (Q := (Q ++ M).map vI) (by rw [List.length_append, List.length_map, hPl]; exact hQM)
              rw [List.length_append, List.length_map, hPl] at q
              refine kk _ H locs ls (by rw [insR_eq hQ c2, List.append_assoc, List.map_append, List.map_append]; exact q) (fun b i hb => by rw [gU_ne (fun z => hb ⟨z.1, by omega, by omega⟩)]; exact hfr b i hb) hW (lv_sub hl [2, 3, 4, 5, 6] rfl)
            · have c4 : x < z := Nat.not_le.mp (fun z => c4 ((nI_leI (by omega) (by omega)).mpr z))
              refine lv_aload_n hx hb dX7_sortBy_108 rfl (lv_at hl 3 rfl) ?_
              refine g_get (C := RX7) (T := TX7) (N := 31) hx hb hts hi7 hown hN hW.1 hk.1 rfl (by decide) 19 (by decide) hfX7_54 (v := .ref (B 19)) (hf1 19 rfl) dX7_sortBy_109 ?_
              refine lv_iload hx hb dX7_sortBy_112 (lv_at hl 0 rfl) ?_
              refine lv_aload_n hx hb dX7_sortBy_114 rfl (lv_at hl 3 rfl) ?_
              refine g_get (C := RX7) (T := TX7) (N := 31) hx hb hts hi7 hown hN hW.1 hk.1 rfl (by decide) 19 (by decide) hfX7_54 (v := .ref (B 19)) (hf1 19 rfl) dX7_sortBy_115 ?_
              refine lv_iload hx hb dX7_sortBy_118 (lv_at hl 0 rfl) ?_
              refine lv_iconst (v := nI 1) hx hb dX7_sortBy_120 (by decide) ?_
              refine lv_isub hx hb dX7_sortBy_121 ?_
              refine g_asi (show _ = nI (fr + n) from hsub1) ?_
              refine g_iald (j := fr + n) hx hb hN hW.1 (hk.2.1 19 (8, 100) rfl) (by decide) (show _ = nI (fr + n) from rfl) (by omega) (v := .int (nI z)) hz dX7_sortBy_122 ?_
              refine g_iast (j := fr + (n + 1)) hx hb hN hW (hk.2.1 19 (8, 100) rfl) (by decide) (show _ = nI (fr + (n + 1)) from rfl) (by omega) dX7_sortBy_123 (fun H locs hW => ?_)
              have hl : lv_has ls 7 [(6, .int (nI (fr + n + 1))), (5, .int (nI x)), (4, .int (nI nx)), (0, .ref m9), (1, .int (nI ax)), (2, .int (nI fr)), (3, .int (nI (fr + L.length)))] := hl
              refine lv_iinc (v := nI (fr + n)) (lv' := [(6, .int (nI (fr + n))), (5, .int (nI x)), (4, .int (nI nx)), (0, .ref m9), (1, .int (nI ax)), (2, .int (nI fr)), (3, .int (nI (fr + L.length)))]) hx hb dX7_sortBy_124 hl (k := 0) rfl (dec1s _) (by decide) rfl (fun ls hl => ?_)
              refine lv_goto (tgt := 24) hx hb dX7_sortBy_127 (by decide) ?_
              have c2 : ltP pp ax x z = true := decide_eq_true (Or.inr ⟨c3.symm, c4⟩)
              have q := rowL.shift (v := vI z) hP (Q := (Q ++ M).map vI) (by rw [List.length_map, hPl]; exact hQM)
              rw [List.length_map, hPl] at q
              exact ih P (z :: Q) M x nx _ H locs ls hPl (by rw [← hlen, List.length_cons]; omega) (fun y hy => hsub y (by simpa using hy)) hxL (fun y hy => by
                rcases List.mem_cons.mp hy with rfl | hy
                · exact c2
                · exact hQ y hy) q.1 q.2 (fun b i hb => by rw [gU_ne (fun z => hb ⟨z.1, by omega, by omega⟩)]; exact hfr b i hb) hW (lv_sub hl [0, 1, 2, 3, 4, 5, 6] rfl) (by rw [show P ++ z :: Q = P ++ [z] ++ Q by simp]; exact kk)
  have outer : ∀ (M L0 : List Nat) (n : Nat) (F1 : gF) (H : Heap) (locs : List Loc) (ls : Array Slot), L = L0 ++ M → L0.length = n → rowL F1 (B 19) fr ((isort (ltP pp ax) [] L0 ++ M).map vI) → (∀ b i, ¬ (b = B 19 ∧ fr ≤ i ∧ i < fr + L.length) → F1 b i = F b i) → gW Γ (gA K sz) s.heap K F1 H locs → lv_has ls 7 [(4, .int (nI (fr + n))), (0, .ref m9), (1, .int (nI ax)), (2, .int (nI fr)), (3, .int (nI (fr + L.length)))] → W p l e (gRm 0 0 0) s m args below meth c H locs 0 0 Z (F0 m 5 ls []) := by
    intro M
    induction M with
    | nil =>
      intro L0 n F1 H locs ls hL0 hn hrow hfr hW hl
      have hf1 : MKf F1 m9 B := hf.up (fun j _ => hfr m9 j (fun z => hk.nm (i := 19) rfl z.1.symm))
      have hLn : L.length = n := by rw [hL0, List.append_nil, hn]
      refine lv_iload hx hb dX7_sortBy_5 (lv_at hl 0 rfl) ?_
      refine lv_iload_n hx hb dX7_sortBy_7 rfl (lv_at hl 4 rfl) ?_
      refine lv_icmp_ge (tgt := 145) hx hb dX7_sortBy_8 (by decide) (fun c1 => ?_) (fun c1 => ?_)
      · have c1 : (fr + L.length) ≤ (fr + n) := (nI_leI (by omega) (by omega)).mp c1
        exact hret none _ _ _ _ _ _ hW (⟨rfl, rfl, by rw [List.append_nil] at hL0 hrow; rw [hL0]; exact hrow, hfr⟩) (rt_v dX7_sortBy_145)
      · have c1 : (fr + n) < (fr + L.length) := Nat.not_le.mp (fun z => c1 ((nI_leI (by omega) (by omega)).mpr z))
        exact absurd c1 (by omega)
    | cons x M ih =>
      intro L0 n F1 H locs ls hL0 hn hrow hfr hW hl
      have hf1 : MKf F1 m9 B := hf.up (fun j _ => hfr m9 j (fun z => hk.nm (i := 19) rfl z.1.symm))
      have hLn : L.length = n + (M.length + 1) := by rw [hL0, List.length_append, List.length_cons, hn]
      refine lv_iload hx hb dX7_sortBy_5 (lv_at hl 0 rfl) ?_
      refine lv_iload_n hx hb dX7_sortBy_7 rfl (lv_at hl 4 rfl) ?_
      refine lv_icmp_ge (tgt := 145) hx hb dX7_sortBy_8 (by decide) (fun c1 => ?_) (fun c1 => ?_)
      · have c1 : (fr + L.length) ≤ (fr + n) := (nI_leI (by omega) (by omega)).mp c1
        exact absurd c1 (by omega)
      · have c1 : (fr + n) < (fr + L.length) := Nat.not_le.mp (fun z => c1 ((nI_leI (by omega) (by omega)).mpr z))
        have hS : (isort (ltP pp ax) [] L0).length = n := by rw [isort_len, hn]; exact Nat.zero_add n
        have hxL : x ∈ L := by rw [hL0]; simp
        rw [List.map_append] at hrow
        have hxv : F1 (B 19) (fr + n) = .int (nI x) := by
          have := hrow.right.head
          rw [List.length_map, hS] at this
          exact this
        refine lv_aload_n hx hb dX7_sortBy_11 rfl (lv_at hl 1 rfl) ?_
        refine g_get (C := RX7) (T := TX7) (N := 31) hx hb hts hi7 hown hN hW.1 hk.1 rfl (by decide) 19 (by decide) hfX7_54 (v := .ref (B 19)) (hf1 19 rfl) dX7_sortBy_12 ?_
        refine lv_iload hx hb dX7_sortBy_15 (lv_at hl 0 rfl) ?_
        refine g_iald (j := fr + n) hx hb hN hW.1 (hk.2.1 19 (8, 100) rfl) (by decide) (show _ = nI (fr + n) from rfl) (by omega) (v := .int (nI x)) hxv dX7_sortBy_17 ?_
        refine lv_istore (lv' := [(5, .int (nI x)), (4, .int (nI (fr + n))), (0, .ref m9), (1, .int (nI ax)), (2, .int (nI fr)), (3, .int (nI (fr + L.length)))]) hx hb dX7_sortBy_18 hl (by decide) rfl (fun ls hl => ?_)
        refine lv_iload hx hb dX7_sortBy_20 (lv_at hl 1 rfl) ?_
        refine lv_istore (lv' := [(6, .int (nI (fr + n))), (5, .int (nI x)), (4, .int (nI (fr + n))), (0, .ref m9), (1, .int (nI ax)), (2, .int (nI fr)), (3, .int (nI (fr + L.length)))]) hx hb dX7_sortBy_22 hl (by decide) rfl (fun ls hl => ?_)
        refine inner n (isort (ltP pp ax) [] L0) [] M x (fr + n) _ H locs ls hS (by simp; omega) (fun y hy => by
          rw [List.append_nil] at hy
          rw [hL0]
          rcases isort_mem.mp hy with h | h
          · cases h
          · exact List.mem_append_left _ h) hxL (fun y hy => by cases hy) hrow.left (by
          have := hrow.right.tail
          rw [List.length_map, hS] at this
          exact this) hfr hW (lv_sub hl [0, 1, 2, 3, 4, 5, 6] rfl) (fun F2 H locs ls hrow2 hfr2 hW hl => ?_)
        refine lv_iinc (v := nI ((fr + n) + 1)) (lv' := [(4, .int (nI ((fr + n) + 1))), (0, .ref m9), (1, .int (nI ax)), (2, .int (nI fr)), (3, .int (nI (fr + L.length)))]) hx hb dX7_sortBy_139 hl (k := 0) rfl (inc1 _) (by decide) rfl (fun ls hl => ?_)
        refine lv_goto (tgt := 5) hx hb dX7_sortBy_142 (by decide) ?_
        exact ih (L0 ++ [x]) (n + 1) F2 H locs ls (by rw [hL0]; simp) (by simp [hn]) (by rw [isort_snoc]; rw [List.append_nil] at hrow2; exact hrow2) hfr2 hW (lv_sub hl [0, 1, 2, 3, 4] rfl)
  refine lv_iload_n hx hb dX7_sortBy_0 rfl (lv_at hl 2 rfl) ?_
  refine lv_iconst (v := nI 1) hx hb dX7_sortBy_1 (by decide) ?_
  refine lv_iadd hx hb dX7_sortBy_2 ?_
  refine g_asi (show _ = nI (fr + 1) from (nI_add _ _).trans (by rfl)) ?_
  refine lv_istore (lv' := [(4, .int (nI (fr + 1))), (0, .ref m9), (1, .int (nI ax)), (2, .int (nI fr)), (3, .int (nI (fr + L.length)))]) hx hb dX7_sortBy_3 hl (by decide) rfl (fun ls hl => ?_)
  rcases L with _ | ⟨x, M⟩
  · have hl : lv_has ls 7 [(4, .int (nI (fr + 1))), (0, .ref m9), (1, .int (nI ax)), (2, .int (nI fr)), (3, .int (nI fr))] := hl
    refine lv_iload hx hb dX7_sortBy_5 (lv_at hl 0 rfl) ?_
    refine lv_iload_n hx hb dX7_sortBy_7 rfl (lv_at hl 4 rfl) ?_
    refine lv_icmp_ge (tgt := 145) hx hb dX7_sortBy_8 (by decide) (fun c1 => ?_) (fun c1 => ?_)
    · have c1 : fr ≤ (fr + 1) := (nI_leI (by omega) (by omega)).mp c1
      exact hret none _ _ _ _ _ _ hW (⟨rfl, rfl, rowL.nil, fun _ _ _ => rfl⟩) (rt_v dX7_sortBy_145)
    · have c1 : (fr + 1) < fr := Nat.not_le.mp (fun z => c1 ((nI_leI (by omega) (by omega)).mpr z))
      exact absurd c1 (by omega)
  · exact outer M [x] 1 F _ _ ls rfl rfl hrow (fun _ _ _ => rfl) hW (lv_sub hl [0, 1, 2, 3, 4] rfl)
