def vIx (z : mLb) : Value := .int (nI z.1)
theorem RX_root {F : gF} {B : Nat → Nat} {t : TT mLb} {up : Option Nat} {n : Nat} (h : RX F B t up) (hr : rtI t = some n) : n < 140 := by
  cases t with
  | leaf => cases hr
  | inner s y v l r => cases hr; exact h.1.1
theorem RX_keep {F F' : gF} {B : Nat → Nat} {t : TT mLb} {up : Option Nat} (hf : ∀ j i, 7 ≤ j → j ≤ 12 → F' (B j) i = F (B j) i) (h : RX F B t up) : RX F' B t up := RX_congr (fun _ _ j i h1 h2 _ => hf j i h1 h2) h
theorem rtI_pos {t : TT mLb} {n : Nat} (h : rtI t = some n) : 0 < tSz t := by
  cases t with
  | leaf => cases h
  | inner s y v l r => exact Nat.succ_pos _
theorem rtI_none {t : TT mLb} (h : rtI t = none) : tSz t = 0 ∧ tPre t = [] := by
  cases t with
  | leaf => exact ⟨rfl, rfl⟩
  | inner s y v l r => cases h

set_option maxHeartbeats 4000000 in
set_option maxRecDepth 100000 in
theorem m_walkFrom (l : Launch) (Γ : gG) (K : gK) (F : gF) (sz : Nat) (m9 : Nat) (B : Nat → Nat) (hk : MKk K m9 B) (hf : MKf F m9 B) (t : TT mLb) (up : Option Nat) (hX : RX F B t up) (hs : tSz t ≤ 140) : gMM l yX7_walkFrom wsX7_walkFrom 0 0 0 Γ K F sz [.ref m9, .int (oI (rtI t))] (fun v K' F' => v = some (.int (nI (tSz t))) ∧ K' = K ∧ rowL F' (B 17) 0 ((tPre t).map vIx) ∧ ∀ b i, b ≠ B 17 → b ≠ B 18 → F' b i = F b i) := by
  refine g_mM (cc := cX7_walkFrom) (maxL := 5) (ret := (some .int)) (by decide) rfl (Nat.le_of_ble_eq_true rfl) ?_
  intro p e s m args below meth c ls Z hsz hx hb hts hown hml hnm hN hW hret hl
  have hl : lv_has ls 5 [(0, .ref m9), (1, .int (oI (rtI t)))] := hl
  have hown : s.vm.findClass RX7 = some m.cls := hown
  have hi7 : ∀ w ∈ wsX70, w ∈ wsX7_walkFrom := by decide +kernel
  have hfX7_36 : Cond.fieldLink RX7 36 (TX7 10).1 (TX7 10).2.1 (TX7 10).2.2.1 ∈ wsX7_walkFrom := by decide +kernel
  have hfX7_39 : Cond.fieldLink RX7 39 (TX7 11).1 (TX7 11).2.1 (TX7 11).2.2.1 ∈ wsX7_walkFrom := by decide +kernel
  have hfX7_48 : Cond.fieldLink RX7 48 (TX7 17).1 (TX7 17).2.1 (TX7 17).2.2.1 ∈ wsX7_walkFrom := by decide +kernel
  have hfX7_51 : Cond.fieldLink RX7 51 (TX7 18).1 (TX7 18).2.1 (TX7 18).2.2.1 ∈ wsX7_walkFrom := by decide +kernel
  have loop : ∀ (t : TT mLb) (up : Option Nat) (F1 : gF) (k o r9 : Nat) (H : Heap) (locs : List Loc) (ls : Array Slot), RX F1 B t up → rtI t = some r9 → F1 (B 18) o = .int (nI r9) → k + tSz t ≤ 140 → o + tSz t ≤ 140 → MKf F1 m9 B → gW Γ (gA K sz) s.heap K F1 H locs → lv_has ls 5 [(2, .int (nI k)), (3, .int (nI (o + 1))), (0, .ref m9)] → (∀ (F2 : gF) (H : Heap) (locs : List Loc) (ls : Array Slot), rowL F2 (B 17) k ((tPre t).map vIx) → (∀ b i, ¬ (b = B 17 ∧ k ≤ i) → ¬ (b = B 18 ∧ o ≤ i) → F2 b i = F1 b i) → gW Γ (gA K sz) s.heap K F2 H locs → lv_has ls 5 [(2, .int (nI (k + tSz t))), (3, .int (nI o)), (0, .ref m9)] → W p l e (gRm 0 0 0) s m args below meth c H locs 0 0 Z (F0 m 18 ls [])) → W p l e (gRm 0 0 0) s m args below meth c H locs 0 0 Z (F0 m 18 ls []) := by
    intro t
    induction t with
    | leaf => intro up F1 k o r9 H locs ls hX hr; cases hr
    | inner s9 y v9 L R ihl ihr =>
      intro up F1 k o r9 H locs ls hX hr h18 hk9 ho9 hf1 hW hl cont
      cases hr
      obtain ⟨hXn, hXl, hXr⟩ := hX
      have hy9 := hXn.1
      have hs9 : tSz (Std.DTreeMap.Internal.Impl.inner s9 y v9 L R) = tSz L + tSz R + 1 := rfl
      rw [hs9] at hk9 ho9
      refine lv_iload_n hx hb dX7_walkFrom_18 rfl (lv_at hl 1 rfl) ?_
      refine lv_if_le (tgt := 101) hx hb dX7_walkFrom_19 (by decide) (fun c1 => ?_) (fun c1 => ?_)
      · have c1 : (o + 1) = 0 := (nI_le0 (by omega)).mp c1
        exact absurd c1 (by omega)
      · have c1 : 0 < (o + 1) := Nat.pos_of_ne_zero (fun z => c1 ((nI_le0 (by omega)).mpr z))
        refine lv_iinc (v := nI o) (lv' := [(3, .int (nI o)), (2, .int (nI k)), (0, .ref m9)]) hx hb dX7_walkFrom_22 hl (k := 1) rfl (dec1s _) (by decide) rfl (fun ls hl => ?_)
        refine lv_aload_n hx hb dX7_walkFrom_25 rfl (lv_at hl 2 rfl) ?_
        refine g_get (C := RX7) (T := TX7) (N := 31) hx hb hts hi7 hown hN hW.1 hk.1 rfl (by decide) 18 (by decide) hfX7_51 (v := .ref (B 18)) (hf1 18 rfl) dX7_walkFrom_26 ?_
        refine lv_iload_n hx hb dX7_walkFrom_29 rfl (lv_at hl 0 rfl) ?_
        refine g_iald (j := o) hx hb hN hW.1 (hk.2.1 18 (8, 140) rfl) (by decide) (show _ = nI o from rfl) (by omega) (v := .int (nI y.1)) h18 dX7_walkFrom_30 ?_
        refine lv_istore (lv' := [(4, .int (nI y.1)), (3, .int (nI o)), (2, .int (nI k)), (0, .ref m9)]) hx hb dX7_walkFrom_31 hl (by decide) rfl (fun ls hl => ?_)
        refine lv_aload_n hx hb dX7_walkFrom_33 rfl (lv_at hl 3 rfl) ?_
        refine g_get (C := RX7) (T := TX7) (N := 31) hx hb hts hi7 hown hN hW.1 hk.1 rfl (by decide) 17 (by decide) hfX7_48 (v := .ref (B 17)) (hf1 17 rfl) dX7_walkFrom_34 ?_
        refine lv_iload_n hx hb dX7_walkFrom_37 rfl (lv_at hl 2 rfl) ?_
        refine lv_iload hx hb dX7_walkFrom_38 (lv_at hl 0 rfl) ?_
        refine g_iast (j := k) hx hb hN hW (hk.2.1 17 (8, 140) rfl) (by decide) (show _ = nI k from rfl) (by omega) dX7_walkFrom_40 (fun H locs hW => ?_)
        refine lv_iinc (v := nI (k + 1)) (lv' := [(2, .int (nI (k + 1))), (4, .int (nI y.1)), (3, .int (nI o)), (0, .ref m9)]) hx hb dX7_walkFrom_41 hl (k := 2) rfl (inc1 _) (by decide) rfl (fun ls hl => ?_)
        refine lv_aload_n hx hb dX7_walkFrom_44 rfl (lv_at hl 3 rfl) ?_
        refine g_get (C := RX7) (T := TX7) (N := 31) hx hb hts hi7 hown hN hW.1 hk.1 rfl (by decide) 11 (by decide) hfX7_39 (v := .ref (B 11)) ((gU_a (Ne.symm (hk.nm (i := 17) rfl))).trans (hf1 11 rfl)) dX7_walkFrom_45 ?_
        refine lv_iload hx hb dX7_walkFrom_48 (lv_at hl 1 rfl) ?_
        obtain ⟨F3, hF3⟩ : ∃ f, f = gU F1 (B 17) k (.int (nI y.1)) := ⟨_, rfl⟩
        rw [← hF3] at hW
        have f3 : ∀ b i, ¬ (b = B 17 ∧ i = k) → F3 b i = F1 b i := fun b i h => by rw [hF3, gU_ne h]
        have f3k : F3 (B 17) k = .int (nI y.1) := by rw [hF3, gU_self]
        have f3j : ∀ j i, (mKd j).isSome = true → j ≠ 17 → F3 (B j) i = F1 (B j) i := fun j i h1 h2 => f3 _ i (fun z => hk.ne h1 rfl h2 z.1)
        have hf3 : MKf F3 m9 B := hf1.up (fun j _ => f3 m9 j (fun z => hk.nm (i := 17) rfl z.1.symm))
        have hL10 := (f3j 10 y.1 rfl (by decide)).trans hXn.2.2.2.2.2.1
        have hR11 := (f3j 11 y.1 rfl (by decide)).trans hXn.2.2.2.2.2.2.1
        have hXl3 : RX F3 B L (some y.1) := RX_keep (fun j i h1 h2 => f3 _ i (fun z => hk.ne (i := j) (j := 17) (by rcases (show j = 7 ∨ j = 8 ∨ j = 9 ∨ j = 10 ∨ j = 11 ∨ j = 12 by omega) with rfl | rfl | rfl | rfl | rfl | rfl <;> rfl) rfl (by omega) z.1)) hXl
        have hXr3 : RX F3 B R (some y.1) := RX_keep (fun j i h1 h2 => f3 _ i (fun z => hk.ne (i := j) (j := 17) (by rcases (show j = 7 ∨ j = 8 ∨ j = 9 ∨ j = 10 ∨ j = 11 ∨ j = 12 by omega) with rfl | rfl | rfl | rfl | rfl | rfl <;> rfl) rfl (by omega) z.1)) hXr
        have rw18 : ∀ (G : gF) (i : Nat) (v : Value) (t : TT mLb) (up : Option Nat), RX G B t up → RX (gU G (B 18) i v) B t up := fun G i v t up h => RX_keep (fun j i2 h1 h2 => gU_a (hk.ne (i := j) (j := 18) (by rcases (show j = 7 ∨ j = 8 ∨ j = 9 ∨ j = 10 ∨ j = 11 ∨ j = 12 by omega) with rfl | rfl | rfl | rfl | rfl | rfl <;> rfl) rfl (by omega))) h
        have fw18 : ∀ (G : gF) (i : Nat) (v : Value), MKf G m9 B → MKf (gU G (B 18) i v) m9 B := fun G i v h => h.up (fun j _ => gU_a (fun z => hk.nm (i := 18) rfl z.symm))
        have keep : ∀ (G : gF) (t : TT mLb) (up : Option Nat) (k1 o1 : Nat) (G2 : gF), (∀ b i, ¬ (b = B 17 ∧ k1 ≤ i) → ¬ (b = B 18 ∧ o1 ≤ i) → G2 b i = G b i) → RX G B t up → RX G2 B t up := fun G t up k1 o1 G2 h => RX_keep (fun j i h1 h2 => h _ i (fun z => hk.ne (i := j) (j := 17) (by rcases (show j = 7 ∨ j = 8 ∨ j = 9 ∨ j = 10 ∨ j = 11 ∨ j = 12 by omega) with rfl | rfl | rfl | rfl | rfl | rfl <;> rfl) rfl (by omega) z.1) (fun z => hk.ne (i := j) (j := 18) (by rcases (show j = 7 ∨ j = 8 ∨ j = 9 ∨ j = 10 ∨ j = 11 ∨ j = 12 by omega) with rfl | rfl | rfl | rfl | rfl | rfl <;> rfl) rfl (by omega) z.1))
        have fkeep : ∀ (G : gF) (k1 o1 : Nat) (G2 : gF), (∀ b i, ¬ (b = B 17 ∧ k1 ≤ i) → ¬ (b = B 18 ∧ o1 ≤ i) → G2 b i = G b i) → MKf G m9 B → MKf G2 m9 B := fun G k1 o1 G2 h q => q.up (fun j _ => h m9 j (fun z => hk.nm (i := 17) rfl z.1.symm) (fun z => hk.nm (i := 18) rfl z.1.symm))
        have n1718 : B 17 ≠ B 18 := hk.ne rfl rfl (by decide)
        cases hR : rtI R with
        | none =>
          rw [hR] at hR11
          refine g_iald (j := y.1) hx hb hN hW.1 (hk.2.1 11 (8, 140) rfl) (by decide) (show _ = nI y.1 from rfl) (by omega) (v := .int (-1)) hR11 dX7_walkFrom_50 ?_
          refine lv_iconst (v := (-1)) hx hb dX7_walkFrom_51 (by decide) ?_
          refine lv_icmp_eq (tgt := 71) hx hb dX7_walkFrom_52 (by decide) (fun d1 => ?_) (fun d1 => ?_)
          · refine lv_aload_n hx hb dX7_walkFrom_71 rfl (lv_at hl 3 rfl) ?_
            refine g_get (C := RX7) (T := TX7) (N := 31) hx hb hts hi7 hown hN hW.1 hk.1 rfl (by decide) 10 (by decide) hfX7_36 (v := .ref (B 10)) (hf3 10 rfl) dX7_walkFrom_72 ?_
            refine lv_iload hx hb dX7_walkFrom_75 (lv_at hl 1 rfl) ?_
            cases hL : rtI L with
            | none =>
              rw [hL] at hL10
              refine g_iald (j := y.1) hx hb hN hW.1 (hk.2.1 10 (8, 140) rfl) (by decide) (show _ = nI y.1 from rfl) (by omega) (v := .int (-1)) hL10 dX7_walkFrom_77 ?_
              refine lv_iconst (v := (-1)) hx hb dX7_walkFrom_78 (by decide) ?_
              refine lv_icmp_eq (tgt := 98) hx hb dX7_walkFrom_79 (by decide) (fun d2 => ?_) (fun d2 => ?_)
              · refine lv_goto (tgt := 18) hx hb dX7_walkFrom_98 (by decide) ?_
                obtain ⟨z1, z2⟩ := rtI_none hR
                obtain ⟨z3, z4⟩ := rtI_none hL
                refine cont F3 H locs ls ?_ (fun b i h1 h2 => f3 b i (fun z => h1 ⟨z.1, by omega⟩)) hW (by rw [hs9, z1, z3]; exact lv_sub hl [0, 2, 3] rfl)
                show rowL F3 (B 17) k ((y :: (tPre L ++ tPre R)).map vIx)
                rw [z2, z4]
                exact rowL.cons f3k rowL.nil
              · exact absurd rfl d2
            | some lr =>
              rw [hL] at hL10
              have nl9 := RX_root hXl hL
              have sl9 := rtI_pos hL
              refine g_iald (j := y.1) hx hb hN hW.1 (hk.2.1 10 (8, 140) rfl) (by decide) (show _ = nI y.1 from rfl) (by omega) (v := .int (nI lr)) hL10 dX7_walkFrom_77 ?_
              refine lv_iconst (v := (-1)) hx hb dX7_walkFrom_78 (by decide) ?_
              refine lv_icmp_eq (tgt := 98) hx hb dX7_walkFrom_79 (by decide) (fun d2 => ?_) (fun d2 => ?_)
              · exact absurd d2 (oI_n (by omega))
              · refine lv_aload_n hx hb dX7_walkFrom_82 rfl (lv_at hl 3 rfl) ?_
                refine g_get (C := RX7) (T := TX7) (N := 31) hx hb hts hi7 hown hN hW.1 hk.1 rfl (by decide) 18 (by decide) hfX7_51 (v := .ref (B 18)) (hf3 18 rfl) dX7_walkFrom_83 ?_
                refine lv_iload_n hx hb dX7_walkFrom_86 rfl (lv_at hl 2 rfl) ?_
                refine lv_aload_n hx hb dX7_walkFrom_87 rfl (lv_at hl 3 rfl) ?_
                refine g_get (C := RX7) (T := TX7) (N := 31) hx hb hts hi7 hown hN hW.1 hk.1 rfl (by decide) 10 (by decide) hfX7_36 (v := .ref (B 10)) (hf3 10 rfl) dX7_walkFrom_88 ?_
                refine lv_iload hx hb dX7_walkFrom_91 (lv_at hl 1 rfl) ?_
                refine g_iald (j := y.1) hx hb hN hW.1 (hk.2.1 10 (8, 140) rfl) (by decide) (show _ = nI y.1 from rfl) (by omega) (v := .int (nI lr)) hL10 dX7_walkFrom_93 ?_
                refine g_iast (j := o) hx hb hN hW (hk.2.1 18 (8, 140) rfl) (by decide) (show _ = nI o from rfl) (by omega) dX7_walkFrom_94 (fun H locs hW => ?_)
                refine lv_iinc (v := nI (o + 1)) (lv' := [(3, .int (nI (o + 1))), (2, .int (nI (k + 1))), (4, .int (nI y.1)), (0, .ref m9)]) hx hb dX7_walkFrom_95 hl (k := 2) rfl (inc1 _) (by decide) rfl (fun ls hl => ?_)
                refine lv_goto (tgt := 18) hx hb dX7_walkFrom_98 (by decide) ?_
                obtain ⟨z1, z2⟩ := rtI_none hR
                have nl := RX_root hXl hL
                refine ihl (some y.1) (gU F3 (B 18) o (.int (nI lr))) (k + 1) o lr H locs ls (rw18 _ _ _ _ _ hXl3) hL gU_self (by omega) (by omega) (fw18 _ _ _ hf3) hW (lv_sub hl [1, 0, 3] rfl) (fun F4 H locs ls hr4 hf4 hW hl => ?_)
                refine cont F4 H locs ls ?_ (fun b i h1 h2 => ?_) hW (by rw [hs9, z1, show k + (tSz L + 0 + 1) = k + 1 + tSz L by omega]; exact hl)
                · show rowL F4 (B 17) k ((y :: (tPre L ++ tPre R)).map vIx)
                  rw [z2, List.append_nil]
                  exact rowL.cons ((hf4 _ _ (fun z => by omega) (fun z => n1718 z.1)).trans ((gU_a n1718).trans f3k)) hr4
                · exact (hf4 b i (fun z => h1 ⟨z.1, by omega⟩) h2).trans ((gU_ne (fun z => h2 ⟨z.1, by omega⟩)).trans (f3 b i (fun z => h1 ⟨z.1, by omega⟩)))
          · exact absurd rfl d1
        | some rr =>
          rw [hR] at hR11
          have nr9 := RX_root hXr hR
          have sr9 := rtI_pos hR
          refine g_iald (j := y.1) hx hb hN hW.1 (hk.2.1 11 (8, 140) rfl) (by decide) (show _ = nI y.1 from rfl) (by omega) (v := .int (nI rr)) hR11 dX7_walkFrom_50 ?_
          refine lv_iconst (v := (-1)) hx hb dX7_walkFrom_51 (by decide) ?_
          refine lv_icmp_eq (tgt := 71) hx hb dX7_walkFrom_52 (by decide) (fun d1 => ?_) (fun d1 => ?_)
          · exact absurd d1 (oI_n (by omega))
          · refine lv_aload_n hx hb dX7_walkFrom_55 rfl (lv_at hl 3 rfl) ?_
            refine g_get (C := RX7) (T := TX7) (N := 31) hx hb hts hi7 hown hN hW.1 hk.1 rfl (by decide) 18 (by decide) hfX7_51 (v := .ref (B 18)) (hf3 18 rfl) dX7_walkFrom_56 ?_
            refine lv_iload_n hx hb dX7_walkFrom_59 rfl (lv_at hl 2 rfl) ?_
            refine lv_aload_n hx hb dX7_walkFrom_60 rfl (lv_at hl 3 rfl) ?_
            refine g_get (C := RX7) (T := TX7) (N := 31) hx hb hts hi7 hown hN hW.1 hk.1 rfl (by decide) 11 (by decide) hfX7_39 (v := .ref (B 11)) (hf3 11 rfl) dX7_walkFrom_61 ?_
            refine lv_iload hx hb dX7_walkFrom_64 (lv_at hl 1 rfl) ?_
            refine g_iald (j := y.1) hx hb hN hW.1 (hk.2.1 11 (8, 140) rfl) (by decide) (show _ = nI y.1 from rfl) (by omega) (v := .int (nI rr)) hR11 dX7_walkFrom_66 ?_
            refine g_iast (j := o) hx hb hN hW (hk.2.1 18 (8, 140) rfl) (by decide) (show _ = nI o from rfl) (by omega) dX7_walkFrom_67 (fun H locs hW => ?_)
            refine lv_iinc (v := nI (o + 1)) (lv' := [(3, .int (nI (o + 1))), (2, .int (nI (k + 1))), (4, .int (nI y.1)), (0, .ref m9)]) hx hb dX7_walkFrom_68 hl (k := 2) rfl (inc1 _) (by decide) rfl (fun ls hl => ?_)
            refine lv_aload_n hx hb dX7_walkFrom_71 rfl (lv_at hl 3 rfl) ?_
            refine g_get (C := RX7) (T := TX7) (N := 31) hx hb hts hi7 hown hN hW.1 hk.1 rfl (by decide) 10 (by decide) hfX7_36 (v := .ref (B 10)) ((gU_a (Ne.symm (hk.nm (i := 18) rfl))).trans (hf3 10 rfl)) dX7_walkFrom_72 ?_
            refine lv_iload hx hb dX7_walkFrom_75 (lv_at hl 2 rfl) ?_
            cases hL : rtI L with
            | none =>
              rw [hL] at hL10
              refine g_iald (j := y.1) hx hb hN hW.1 (hk.2.1 10 (8, 140) rfl) (by decide) (show _ = nI y.1 from rfl) (by omega) (v := .int (-1)) ((gU_a (hk.ne (i := 10) (j := 18) rfl rfl (by decide))).trans hL10) dX7_walkFrom_77 ?_
              refine lv_iconst (v := (-1)) hx hb dX7_walkFrom_78 (by decide) ?_
              refine lv_icmp_eq (tgt := 98) hx hb dX7_walkFrom_79 (by decide) (fun d2 => ?_) (fun d2 => ?_)
              · refine lv_goto (tgt := 18) hx hb dX7_walkFrom_98 (by decide) ?_
                obtain ⟨z1, z2⟩ := rtI_none hL
                have nr := RX_root hXr hR
                refine ihr (some y.1) (gU F3 (B 18) o (.int (nI rr))) (k + 1) o rr H locs ls (rw18 _ _ _ _ _ hXr3) hR gU_self (by omega) (by omega) (fw18 _ _ _ hf3) hW (lv_sub hl [1, 0, 3] rfl) (fun F4 H locs ls hr4 hf4 hW hl => ?_)
                refine cont F4 H locs ls ?_ (fun b i h1 h2 => ?_) hW (by rw [hs9, z1, show k + (0 + tSz R + 1) = k + 1 + tSz R by omega]; exact hl)
                · show rowL F4 (B 17) k ((y :: (tPre L ++ tPre R)).map vIx)
                  rw [z2, List.nil_append]
                  exact rowL.cons ((hf4 _ _ (fun z => by omega) (fun z => n1718 z.1)).trans ((gU_a n1718).trans f3k)) hr4
                · exact (hf4 b i (fun z => h1 ⟨z.1, by omega⟩) h2).trans ((gU_ne (fun z => h2 ⟨z.1, by omega⟩)).trans (f3 b i (fun z => h1 ⟨z.1, by omega⟩)))
              · exact absurd rfl d2
            | some lr =>
              rw [hL] at hL10
              have nl9 := RX_root hXl hL
              have sl9 := rtI_pos hL
              refine g_iald (j := y.1) hx hb hN hW.1 (hk.2.1 10 (8, 140) rfl) (by decide) (show _ = nI y.1 from rfl) (by omega) (v := .int (nI lr)) ((gU_a (hk.ne (i := 10) (j := 18) rfl rfl (by decide))).trans hL10) dX7_walkFrom_77 ?_
              refine lv_iconst (v := (-1)) hx hb dX7_walkFrom_78 (by decide) ?_
              refine lv_icmp_eq (tgt := 98) hx hb dX7_walkFrom_79 (by decide) (fun d2 => ?_) (fun d2 => ?_)
              · exact absurd d2 (oI_n (by omega))
              · refine lv_aload_n hx hb dX7_walkFrom_82 rfl (lv_at hl 3 rfl) ?_
                refine g_get (C := RX7) (T := TX7) (N := 31) hx hb hts hi7 hown hN hW.1 hk.1 rfl (by decide) 18 (by decide) hfX7_51 (v := .ref (B 18)) ((gU_a (Ne.symm (hk.nm (i := 18) rfl))).trans (hf3 18 rfl)) dX7_walkFrom_83 ?_
                refine lv_iload_n hx hb dX7_walkFrom_86 rfl (lv_at hl 0 rfl) ?_
                refine lv_aload_n hx hb dX7_walkFrom_87 rfl (lv_at hl 3 rfl) ?_
                refine g_get (C := RX7) (T := TX7) (N := 31) hx hb hts hi7 hown hN hW.1 hk.1 rfl (by decide) 10 (by decide) hfX7_36 (v := .ref (B 10)) ((gU_a (Ne.symm (hk.nm (i := 18) rfl))).trans (hf3 10 rfl)) dX7_walkFrom_88 ?_
                refine lv_iload hx hb dX7_walkFrom_91 (lv_at hl 2 rfl) ?_
                refine g_iald (j := y.1) hx hb hN hW.1 (hk.2.1 10 (8, 140) rfl) (by decide) (show _ = nI y.1 from rfl) (by omega) (v := .int (nI lr)) ((gU_a (hk.ne (i := 10) (j := 18) rfl rfl (by decide))).trans hL10) dX7_walkFrom_93 ?_
                refine g_iast (j := o + 1) hx hb hN hW (hk.2.1 18 (8, 140) rfl) (by decide) (show _ = nI (o + 1) from rfl) (by omega) dX7_walkFrom_94 (fun H locs hW => ?_)
                refine lv_iinc (v := nI ((o + 1) + 1)) (lv' := [(3, .int (nI ((o + 1) + 1))), (2, .int (nI (k + 1))), (4, .int (nI y.1)), (0, .ref m9)]) hx hb dX7_walkFrom_95 hl (k := 0) rfl (inc1 _) (by decide) rfl (fun ls hl => ?_)
                refine lv_goto (tgt := 18) hx hb dX7_walkFrom_98 (by decide) ?_
                have nl := RX_root hXl hL
                have nr := RX_root hXr hR
                have sr : 0 < tSz R := by
                  cases R with
                  | leaf => cases hR
                  | inner => exact Nat.succ_pos _
                refine ihl (some y.1) (gU (gU F3 (B 18) o (.int (nI rr))) (B 18) (o + 1) (.int (nI lr))) (k + 1) (o + 1) lr H locs ls (rw18 _ _ _ _ _ (rw18 _ _ _ _ _ hXl3)) hL gU_self (by omega) (by omega) (fw18 _ _ _ (fw18 _ _ _ hf3)) hW (lv_sub hl [1, 0, 3] rfl) (fun F4 H locs ls hr4 hf4 hW hl => ?_)
                refine ihr (some y.1) F4 (k + 1 + tSz L) o rr H locs ls (keep _ _ _ _ _ _ hf4 (rw18 _ _ _ _ _ (rw18 _ _ _ _ _ hXr3))) hR ((hf4 _ _ (fun z => n1718 z.1.symm) (fun z => by omega)).trans ((gU_k (by omega)).trans gU_self)) (by omega) (by omega) (fkeep _ _ _ _ hf4 (fw18 _ _ _ (fw18 _ _ _ hf3))) hW hl (fun F5 H locs ls hr5 hf5 hW hl => ?_)
                refine cont F5 H locs ls ?_ (fun b i h1 h2 => ?_) hW (by rw [hs9, show k + (tSz L + tSz R + 1) = k + 1 + tSz L + tSz R by omega]; exact hl)
                · show rowL F5 (B 17) k ((y :: (tPre L ++ tPre R)).map vIx)
                  refine rowL.cons ((hf5 _ _ (fun z => by omega) (fun z => n1718 z.1)).trans ((hf4 _ _ (fun z => by omega) (fun z => n1718 z.1)).trans ((gU_a n1718).trans ((gU_a n1718).trans f3k)))) ?_
                  rw [List.map_append]
                  have hlen : ((tPre L).map vIx).length = tSz L := by rw [List.length_map, tPre_len]
                  refine rowL.app (hr4.keep (fun j j1 j2 => hf5 _ _ (fun z => by rw [hlen] at j2; omega) (fun z => n1718 z.1))) (by rw [hlen]; exact hr5)
                · exact (hf5 b i (fun z => h1 ⟨z.1, by omega⟩) h2).trans ((hf4 b i (fun z => h1 ⟨z.1, by omega⟩) (fun z => h2 ⟨z.1, by omega⟩)).trans ((gU_ne (fun z => h2 ⟨z.1, by omega⟩)).trans ((gU_ne (fun z => h2 ⟨z.1, by omega⟩)).trans (f3 b i (fun z => h1 ⟨z.1, by omega⟩)))))
  have fin : ∀ (F2 : gF) (H : Heap) (locs : List Loc) (ls : Array Slot), rowL F2 (B 17) 0 ((tPre t).map vIx) → (∀ b i, b ≠ B 17 → b ≠ B 18 → F2 b i = F b i) → gW Γ (gA K sz) s.heap K F2 H locs → lv_has ls 5 [(2, .int (nI (tSz t))), (3, .int (nI 0)), (0, .ref m9)] → W p l e (gRm 0 0 0) s m args below meth c H locs 0 0 Z (F0 m 18 ls []) := by
    intro F2 H locs ls hr2 hf2 hW hl
    refine lv_iload_n hx hb dX7_walkFrom_18 rfl (lv_at hl 1 rfl) ?_
    refine lv_if_le (tgt := 101) hx hb dX7_walkFrom_19 (by decide) (fun c1 => ?_) (fun c1 => ?_)
    · have c1 : 0 = 0 := (nI_le0 (by omega)).mp c1
      refine lv_iload_n hx hb dX7_walkFrom_101 rfl (lv_at hl 0 rfl) ?_
      exact hret (some (.int (nI (tSz t)))) _ _ _ _ _ _ hW (⟨rfl, rfl, hr2, hf2⟩) (rt_i dX7_walkFrom_102)
    · have c1 : 0 < 0 := Nat.pos_of_ne_zero (fun z => c1 ((nI_le0 (by omega)).mpr z))
      exact absurd c1 (by decide)
  cases hr : rtI t with
  | none =>
    rw [hr] at hl
    have hl : lv_has ls 5 [(0, .ref m9), (1, .int (-1))] := hl
    obtain ⟨z1, z2⟩ := rtI_none hr
    refine lv_iconst (v := nI 0) hx hb dX7_walkFrom_0 (by decide) ?_
    refine lv_istore_n (lv' := [(2, .int (nI 0)), (0, .ref m9), (1, .int (-1))]) hx hb dX7_walkFrom_1 rfl hl (by decide) rfl (fun ls hl => ?_)
    refine lv_iconst (v := nI 0) hx hb dX7_walkFrom_2 (by decide) ?_
    refine lv_istore_n (lv' := [(3, .int (nI 0)), (2, .int (nI 0)), (0, .ref m9), (1, .int (-1))]) hx hb dX7_walkFrom_3 rfl hl (by decide) rfl (fun ls hl => ?_)
    refine lv_iload_n hx hb dX7_walkFrom_4 rfl (lv_at hl 3 rfl) ?_
    refine lv_iconst (v := (-1)) hx hb dX7_walkFrom_5 (by decide) ?_
    refine lv_icmp_eq (tgt := 18) hx hb dX7_walkFrom_6 (by decide) (fun c1 => ?_) (fun c1 => ?_)
    · exact fin F s.heap [] ls (by rw [z2]; exact rowL.nil) (fun _ _ _ _ => rfl) hW (by rw [z1]; exact lv_sub hl [1, 0, 2] rfl)
    · exact absurd rfl c1
  | some r9 =>
    rw [hr] at hl
    have hl : lv_has ls 5 [(0, .ref m9), (1, .int (nI r9))] := hl
    have nr := RX_root hX hr
    refine lv_iconst (v := nI 0) hx hb dX7_walkFrom_0 (by decide) ?_
    refine lv_istore_n (lv' := [(2, .int (nI 0)), (0, .ref m9), (1, .int (nI r9))]) hx hb dX7_walkFrom_1 rfl hl (by decide) rfl (fun ls hl => ?_)
    refine lv_iconst (v := nI 0) hx hb dX7_walkFrom_2 (by decide) ?_
    refine lv_istore_n (lv' := [(3, .int (nI 0)), (2, .int (nI 0)), (0, .ref m9), (1, .int (nI r9))]) hx hb dX7_walkFrom_3 rfl hl (by decide) rfl (fun ls hl => ?_)
    refine lv_iload_n hx hb dX7_walkFrom_4 rfl (lv_at hl 3 rfl) ?_
    refine lv_iconst (v := (-1)) hx hb dX7_walkFrom_5 (by decide) ?_
    refine lv_icmp_eq (tgt := 18) hx hb dX7_walkFrom_6 (by decide) (fun c1 => ?_) (fun c1 => ?_)
    · exact absurd c1 (oI_n (by omega))
    · refine lv_aload_n hx hb dX7_walkFrom_9 rfl (lv_at hl 2 rfl) ?_
      refine g_get (C := RX7) (T := TX7) (N := 31) hx hb hts hi7 hown hN hW.1 hk.1 rfl (by decide) 18 (by decide) hfX7_51 (v := .ref (B 18)) (hf 18 rfl) dX7_walkFrom_10 ?_
      refine lv_iconst (v := nI 0) hx hb dX7_walkFrom_13 (by decide) ?_
      refine lv_iload_n hx hb dX7_walkFrom_14 rfl (lv_at hl 3 rfl) ?_
      refine g_iast (j := 0) hx hb hN hW (hk.2.1 18 (8, 140) rfl) (by decide) (show _ = nI 0 from rfl) (by decide) dX7_walkFrom_15 (fun H locs hW => ?_)
      refine lv_iconst (v := nI 1) hx hb dX7_walkFrom_16 (by decide) ?_
      refine lv_istore_n (lv' := [(3, .int (nI 1)), (2, .int (nI 0)), (0, .ref m9), (1, .int (nI r9))]) hx hb dX7_walkFrom_17 rfl hl (by decide) rfl (fun ls hl => ?_)
      refine loop t up _ 0 0 r9 H locs ls (RX_keep (fun j i h1 h2 => gU_a (hk.ne (i := j) (j := 18) (by rcases (show j = 7 ∨ j = 8 ∨ j = 9 ∨ j = 10 ∨ j = 11 ∨ j = 12 by omega) with rfl | rfl | rfl | rfl | rfl | rfl <;> rfl) rfl (by omega))) hX) hr gU_self (by omega) (by omega) (hf.up (fun j _ => gU_a (fun z => hk.nm (i := 18) rfl z.symm))) hW (lv_sub hl [1, 0, 2] rfl) (fun F2 H locs ls hr2 hf2 hW hl => ?_)
      exact fin F2 H locs ls hr2 (fun b i h1 h2 => (hf2 b i (fun z => h1 z.1) (fun z => h2 z.1)).trans (gU_a h2)) hW (by rw [Nat.zero_add] at hl; exact hl)
