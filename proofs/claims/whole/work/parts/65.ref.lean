def DI (P : Nat → Option (Nat → Int32)) (i j : Nat) : Int64 := match P i, P j with
  | some p, some q => pDist p q
  | _, _ => 0
theorem DI_ss {P : Nat → Option (Nat → Int32)} {i j : Nat} {p q : Nat → Int32} (h1 : P i = some p) (h2 : P j = some q) : DI P i j = pDist p q := by unfold DI; rw [h1, h2]
def lvP (P : Nat → Option (Nat → Int32)) (x : Nat) : Prop := x < 100 ∧ ∃ p, P x = some p
theorem DI_symm {P : Nat → Option (Nat → Int32)} (h : okP P) : ∀ x y, lvP P x → lvP P y → DI P x y = DI P y x := fun x y ⟨hx, p, hp⟩ ⟨hy, q, hq⟩ => by rw [DI_ss hp hq, DI_ss hq hp]; exact pDist_swap (h x p hx hp) (h y q hy hq)
/-- what hangs together at a threshold -/
def Cn (V : Nat → Prop) (D : Nat → Nat → Int64) (t : Int64) (u v : Nat) : Prop := ∀ S : Nat → Prop, S u → (∀ x y, V x → V y → S x → D x y ≤ t → S y) → S v
theorem Cn.refl {V : Nat → Prop} {D : Nat → Nat → Int64} {t : Int64} {u : Nat} : Cn V D t u u := fun _ h _ => h
theorem Cn.trans {V : Nat → Prop} {D : Nat → Nat → Int64} {t : Int64} {u v w : Nat} (h1 : Cn V D t u v) (h2 : Cn V D t v w) : Cn V D t u w := fun S h hs => h2 S (h1 S h hs) hs
theorem Cn.edge {V : Nat → Prop} {D : Nat → Nat → Int64} {t : Int64} {u v : Nat} (hu : V u) (hv : V v) (h : D u v ≤ t) : Cn V D t u v := fun _ h1 hs => hs u v hu hv h1 h
theorem Cn.symm {V : Nat → Prop} {D : Nat → Nat → Int64} {t : Int64} {u v : Nat} (hD : ∀ x y, V x → V y → D x y = D y x) (h : Cn V D t u v) : Cn V D t v u := h (fun x => Cn V D t x u) Cn.refl (fun x y hx hy hxu hd => (Cn.edge hy hx (by rw [hD y x hy hx]; exact hd)).trans hxu)
def CC (V : Nat → Prop) (D : Nat → Nat → Int64) (t : Int64) (n : Nat) : Prop := ∃ A : List Nat, A.length = n ∧ A.Nodup ∧ (∀ a ∈ A, V a) ∧ (∀ a ∈ A, ∀ b ∈ A, Cn V D t a b → a = b) ∧ ∀ v, V v → ∃ a ∈ A, Cn V D t v a
theorem inj_len (R : Nat → Nat → Prop) : ∀ (A B : List Nat), A.Nodup → (∀ a ∈ A, ∃ b ∈ B, R a b) → (∀ a ∈ A, ∀ a' ∈ A, ∀ b, R a b → R a' b → a = a') → A.length ≤ B.length
  | [], _, _, _, _ => Nat.zero_le _
  | a :: A, B, hn, hx, hi => by
    obtain ⟨b, hb, hab⟩ := hx a List.mem_cons_self
    have hn := List.nodup_cons.mp hn
    have ih := inj_len R A (B.erase b) hn.2 (fun a' ha' => by
      obtain ⟨b', hb', hr⟩ := hx a' (List.mem_cons_of_mem _ ha')
      refine ⟨b', (List.mem_erase_of_ne (fun e => ?_)).mpr hb', hr⟩
      rw [e] at hr
      have := hi a List.mem_cons_self a' (List.mem_cons_of_mem _ ha') b hab hr
      exact hn.1 (this ▸ ha')) (fun x hx' y hy' => hi x (List.mem_cons_of_mem _ hx') y (List.mem_cons_of_mem _ hy'))
    rw [List.length_erase_of_mem hb] at ih
    have := List.length_pos_of_mem hb
    rw [List.length_cons]
    omega
theorem CC_uniq {V : Nat → Prop} {D : Nat → Nat → Int64} {t : Int64} {n n' : Nat} (hD : ∀ x y, V x → V y → D x y = D y x) (h : CC V D t n) (h' : CC V D t n') : n = n' := by
  have key : ∀ {n n'}, CC V D t n → CC V D t n' → n ≤ n' := by
    intro n n' h h'
    obtain ⟨A, rfl, a1, a2, a3, a4⟩ := h
    obtain ⟨B, rfl, b1, b2, b3, b4⟩ := h'
    exact inj_len (fun a b => Cn V D t a b) A B a1 (fun a ha => b4 a (a2 a ha)) (fun a ha a' ha' b h1 h2 => a3 a ha a' ha' (h1.trans (h2.symm hD)))
  exact Nat.le_antisymm (key h h') (key h' h)
def OI (P : Nat → Option (Nat → Int32)) (t : Int64) (met : Nat → Bool) (R : List Nat) (k : Nat) : Prop := (∀ o, o < 100 → P o = none → met o = true) ∧ (∀ x y, lvP P x → lvP P y → met x = true → DI P x y ≤ t → met y = true) ∧ (∀ r ∈ R, lvP P r ∧ met r = true) ∧ R.Nodup ∧ (∀ a ∈ R, ∀ b ∈ R, Cn (lvP P) (DI P) t a b → a = b) ∧ (∀ x, lvP P x → met x = true → ∃ r ∈ R, Cn (lvP P) (DI P) t x r) ∧ ∀ x, x < k → met x = true
theorem OI_start {P : Nat → Option (Nat → Int32)} {t : Int64} : OI P t (fun o => !(P o).isSome) [] 0 := by
  have h : ∀ x, lvP P x → (!(P x).isSome) = true → False := fun x hx hm => by
    obtain ⟨_, p, hp⟩ := hx
    rw [hp] at hm
    cases hm
  refine ⟨fun o _ hn => ?_, fun x y hx _ hm _ => absurd hm (fun z => h x hx z), fun r hr => ?_, List.nodup_nil, fun a ha => ?_, fun x hx hm => absurd hm (fun z => h x hx z), fun x hx => absurd hx (Nat.not_lt_zero _)⟩
  · show (!(P o).isSome) = true
    rw [hn]; rfl
  · cases hr
  · cases ha
theorem OI_end {P : Nat → Option (Nat → Int32)} {t : Int64} {met : Nat → Bool} {R : List Nat} (h : OI P t met R 100) : CC (lvP P) (DI P) t R.length := ⟨R, rfl, h.2.2.2.1, fun a ha => (h.2.2.1 a ha).1, h.2.2.2.2.1, fun v hv => h.2.2.2.2.2.1 v hv (h.2.2.2.2.2.2 v hv.1)⟩
theorem OI_next {P : Nat → Option (Nat → Int32)} {t : Int64} {met : Nat → Bool} {R Qs : List Nat} {k : Nat} (hP : okP P) (h : OI P t met R k) (hk : met k = false) (hkQ : k ∈ Qs) (hQ : ∀ q ∈ Qs, lvP P q ∧ Cn (lvP P) (DI P) t k q) (hcl : ∀ q ∈ Qs, ∀ y, lvP P y → DI P q y ≤ t → (met y || decide (y ∈ Qs)) = true) : OI P t (fun o => met o || decide (o ∈ Qs)) (k :: R) (k + 1) := by
  obtain ⟨h1, h2, h3, h4, h5, h6, h7⟩ := h
  have hD := DI_symm hP
  have hno : ∀ r ∈ R, ¬ Cn (lvP P) (DI P) t r k := fun r hr hc => by
    have := hc (fun x => met x = true) (h3 r hr).2 (fun x y hx hy hs hd => h2 x y hx hy hs hd)
    rw [hk] at this
    cases this
  have hor : ∀ x, (met x || decide (x ∈ Qs)) = true ↔ met x = true ∨ x ∈ Qs := fun x => by simp
  refine ⟨fun o ho hn => (hor o).mpr (Or.inl (h1 o ho hn)), fun x y hx hy hm hd => ?_, fun r hr => ?_, List.nodup_cons.mpr ⟨fun hkR => ?_, h4⟩, fun a ha b hb hc => ?_, fun x hx hm => ?_, fun x hx => ?_⟩
  · rcases (hor x).mp hm with e | e
    · exact (hor y).mpr (Or.inl (h2 x y hx hy e hd))
    · exact hcl x e y hy hd
  · rcases List.mem_cons.mp hr with rfl | hr
    · exact ⟨(hQ _ hkQ).1, (hor _).mpr (Or.inr hkQ)⟩
    · exact ⟨(h3 r hr).1, (hor _).mpr (Or.inl (h3 r hr).2)⟩
  · have := (h3 k hkR).2
    rw [hk] at this
    cases this
  · rcases List.mem_cons.mp ha with rfl | ha
    · rcases List.mem_cons.mp hb with rfl | hb
      · rfl
      · exact absurd (hc.symm hD) (hno b hb)
    · rcases List.mem_cons.mp hb with rfl | hb
      · exact absurd hc (hno a ‹a ∈ R›)
      · exact h5 a ha b hb hc
  · rcases (hor x).mp hm with e | e
    · obtain ⟨r, hr, hc⟩ := h6 x hx e
      exact ⟨r, List.mem_cons_of_mem _ hr, hc⟩
    · exact ⟨k, List.mem_cons_self, (hQ x e).2.symm hD⟩
  · rcases Nat.lt_or_ge x k with e | e
    · exact (hor x).mpr (Or.inl (h7 x e))
    · exact (hor x).mpr (Or.inr (by rw [show x = k by omega]; exact hkQ))

set_option maxHeartbeats 4000000 in
set_option maxRecDepth 100000 in
theorem m_parts (l : Launch) (Γ : gG) (K : gK) (F : gF) (sz : Nat) (m9 : Nat) (B : Nat → Nat) (hk : MKk K m9 B) (d : Nat) (P : Nat → Option (Nat → Int32)) (t : TT gLb) (S : List (Nat × Int64)) (lk bc bg bp : Nat) (hR : RS F m9 B d P t S lk bc bg bp) (hoP : okP P) (most : Int64) : gMM l yX7_parts wsX7_parts 1 0 0 Γ K F sz [.ref m9, .long most] (fun v K' F' => ∃ th r, v = some (.int r) ∧ K' = K ∧ F' m9 0 = .int (nI th) ∧ thR th (¬ most < 0) True ∧ RS F' m9 B d P t S lk bc bg bp ∧ (th = 0 → ∃ n, r = nI n ∧ CC (lvP P) (DI P) most n)) := by
  refine g_mM (cc := cX7_parts) (maxL := 8) (ret := (some .int)) (by decide) rfl (Nat.le_of_ble_eq_true rfl) ?_
  intro p e s m args below meth c ls Z hsz hx hb hts hown hml hnm hN hW hret hl
  have hl : lv_has ls 8 [(0, .ref m9), (1, .long most)] := hl
  have hown : s.vm.findClass RX7 = some m.cls := hown
  have hi7 : ∀ w ∈ wsX70, w ∈ wsX7_parts := by decide +kernel
  have hfX7_1 : Cond.fieldLink RX7 1 (TX7 0).1 (TX7 0).2.1 (TX7 0).2.2.1 ∈ wsX7_parts := by decide +kernel
  have hfX7_13 : Cond.fieldLink RX7 13 (TX7 2).1 (TX7 2).2.1 (TX7 2).2.2.1 ∈ wsX7_parts := by decide +kernel
  have hfX7_54 : Cond.fieldLink RX7 54 (TX7 19).1 (TX7 19).2.1 (TX7 19).2.2.1 ∈ wsX7_parts := by decide +kernel
  have hfX7_82 : Cond.fieldLink RX7 82 (TX7 30).1 (TX7 30).2.1 (TX7 30).2.2.1 ∈ wsX7_parts := by decide +kernel
  have hf := hR.1
  refine lv_aload_n hx hb dX7_parts_0 rfl (lv_at hl 0 rfl) ?_
  refine lv_lload_n hx hb dX7_parts_1 rfl (lv_at hl 1 rfl) ?_
  refine lv_lconst (v := 0) hx hb dX7_parts_2 (by decide) ?_
  refine W.lcmp hx hb dX7_parts_3 ?_
  refine lv_if_ge (tgt := 11) hx hb dX7_parts_4 (by decide) (fun c1 => ?_) (fun c1 => ?_)
  · have c1 : _ := (lg_cmp_ge _ _).mp c1
    refine lv_iconst (v := nI 0) hx hb dX7_parts_11 (by decide) ?_
    refine g_put (C := RX7) (T := TX7) (N := 31) hx hb hts hi7 tyX7 tyX7_ok nmX7 hown hN hW hk.1 rfl (by decide) 0 (by decide) hfX7_1 rfl rfl rfl dX7_parts_12 (fun H locs hW => ?_)
    refine lv_aload_n hx hb dX7_parts_15 rfl (lv_at hl 0 rfl) ?_
    refine g_get (C := RX7) (T := TX7) (N := 31) hx hb hts hi7 hown hN hW.1 hk.1 rfl (by decide) 0 (by decide) hfX7_1 (v := .int (nI 0)) gU_self dX7_parts_16 ?_
    refine lv_if_le (tgt := 24) hx hb dX7_parts_19 (by decide) (fun e1 => ?_) (fun e1 => ?_)
    · have e1 : 0 = 0 := (nI_le0 (by omega)).mp e1
      have hRG : RS (gU F m9 0 (.int (nI 0))) m9 B d P t S lk bc bg bp := hR.thr hk
      have hG0 : gU F m9 0 (.int (nI 0)) m9 0 = .int (nI 0) := gU_self
      generalize gU F m9 0 (.int (nI 0)) = G at hW hRG hG0
      have hfG := hRG.1
      have c1 : ¬ most < 0 := Int64.not_lt.mpr c1
      refine lv_iconst (v := nI 0) hx hb dX7_parts_24 (by decide) ?_
      refine lv_istore_n (lv' := [(3, .int (nI 0)), (0, .ref m9), (1, .long most)]) hx hb dX7_parts_25 rfl hl (by decide) rfl (fun ls hl => ?_)
      have inn : ∀ (r o9 kk k9 x : Nat) (R Qs : List Nat) (met : Nat → Bool) (F1 : gF) (H : Heap) (locs : List Loc) (ls : Array Slot), o9 + r = 100 → (∀ o, o < 100 → P o = none → met o = true) → R.length ≤ 100 → k9 < 100 → kk < Qs.length → Qs[kk]? = some x → k9 ∈ Qs → Qs.Nodup → (∀ q ∈ Qs, lvP P q ∧ met q = false ∧ Cn (lvP P) (DI P) most k9 q) → (∀ o, o < 100 → F1 (B 30) o = .int (bI (met o || decide (o ∈ Qs)))) → rowL F1 (B 19) 0 (Qs.map vI) → (∀ b i, b ≠ B 19 → b ≠ B 30 → F1 b i = G b i) → (∀ y, y < o9 → lvP P y → DI P x y ≤ most → (met y || decide (y ∈ Qs)) = true) → gW Γ (gA K sz) s.heap K F1 H locs → lv_has ls 8 [(7, .int (nI o9)), (6, .int (nI kk)), (5, .int (nI Qs.length)), (4, .int (nI k9)), (3, .int (nI (R.length + 1))), (0, .ref m9), (1, .long most)] → (∀ (Q2 : List Nat) (F2 : gF) (H : Heap) (locs : List Loc) (ls : Array Slot), (∃ E, Q2 = Qs ++ E) → Q2.Nodup → (∀ q ∈ Q2, lvP P q ∧ met q = false ∧ Cn (lvP P) (DI P) most k9 q) → (∀ o, o < 100 → F2 (B 30) o = .int (bI (met o || decide (o ∈ Q2)))) → rowL F2 (B 19) 0 (Q2.map vI) → (∀ b i, b ≠ B 19 → b ≠ B 30 → F2 b i = G b i) → (∀ y, lvP P y → DI P x y ≤ most → (met y || decide (y ∈ Q2)) = true) → gW Γ (gA K sz) s.heap K F2 H locs → lv_has ls 8 [(6, .int (nI kk)), (5, .int (nI Q2.length)), (4, .int (nI k9)), (3, .int (nI (R.length + 1))), (0, .ref m9), (1, .long most)] → W p l e (gRm 1 0 0) s m args below meth c H locs 0 0 Z (F0 m 176 ls [])) → W p l e (gRm 1 0 0) s m args below meth c H locs 0 0 Z (F0 m 115 ls []) := by
        intro r
        induction r with
        | zero =>
          intro o9 kk k9 x R Qs met F1 H locs ls hr hnl hRl hk9 hkk hxq hkQ hQn hQ hmet hrow hfr1 hpr hW hl cont
          have hf1 : MKf F1 m9 B := hfG.up (fun j _ => hfr1 m9 j (fun z => hk.nm (i := 19) rfl z.symm) (fun z => hk.nm (i := 30) rfl z.symm))
          have k1 : ∀ j, (mKd j).isSome = true → j ≠ 19 → j ≠ 30 → ∀ i, F1 (B j) i = G (B j) i := fun j h1 h2 h3 i => hfr1 _ i (hk.ne h1 rfl h2) (hk.ne h1 rfl h3)
          have hQl : Qs.length ≤ 100 := by
            have := nodup_sub_len Qs (List.range 100) hQn (fun q hq => List.mem_range.mpr (hQ q hq).1.1)
            rw [List.length_range] at this
            exact this
          obtain rfl : o9 = 100 := by omega
          refine lv_iload hx hb dX7_parts_115 (lv_at hl 0 rfl) ?_
          refine lv_bipush (v := nI 100) hx hb dX7_parts_117 (by decide) ?_
          refine lv_icmp_ge (tgt := 176) hx hb dX7_parts_119 (by decide) (fun y1 => ?_) (fun y1 => ?_)
          · have y1 : 100 ≤ 100 := (nI_leI (by omega) (by omega)).mp y1
            exact cont Qs F1 H locs ls ⟨[], by rw [List.append_nil]⟩ hQn hQ hmet hrow hfr1 (fun y hy hd => hpr y hy.1 hy hd) hW (lv_sub hl [1, 2, 3, 4, 5, 6] rfl)
          · have y1 : 100 < 100 := Nat.not_le.mp (fun z => y1 ((nI_leI (by omega) (by omega)).mpr z))
            exact absurd y1 (by decide)
        | succ r ih =>
          intro o9 kk k9 x R Qs met F1 H locs ls hr hnl hRl hk9 hkk hxq hkQ hQn hQ hmet hrow hfr1 hpr hW hl cont
          have hf1 : MKf F1 m9 B := hfG.up (fun j _ => hfr1 m9 j (fun z => hk.nm (i := 19) rfl z.symm) (fun z => hk.nm (i := 30) rfl z.symm))
          have k1 : ∀ j, (mKd j).isSome = true → j ≠ 19 → j ≠ 30 → ∀ i, F1 (B j) i = G (B j) i := fun j h1 h2 h3 i => hfr1 _ i (hk.ne h1 rfl h2) (hk.ne h1 rfl h3)
          have hQl : Qs.length ≤ 100 := by
            have := nodup_sub_len Qs (List.range 100) hQn (fun q hq => List.mem_range.mpr (hQ q hq).1.1)
            rw [List.length_range] at this
            exact this
          have hxQ : x ∈ Qs := List.mem_of_getElem? hxq
          obtain ⟨⟨hx100, p1, hp1⟩, hxm, hxc⟩ := hQ x hxQ
          have hrx : F1 (B 19) kk = .int (nI x) := by
            have q1 := hrow kk (vI x) (by rw [List.getElem?_map, hxq]; rfl)
            rw [Nat.zero_add] at q1
            exact q1
          refine lv_iload hx hb dX7_parts_115 (lv_at hl 0 rfl) ?_
          refine lv_bipush (v := nI 100) hx hb dX7_parts_117 (by decide) ?_
          refine lv_icmp_ge (tgt := 176) hx hb dX7_parts_119 (by decide) (fun y1 => ?_) (fun y1 => ?_)
          · have y1 : 100 ≤ o9 := (nI_leI (by omega) (by omega)).mp y1
            exact absurd y1 (by omega)
          · have y1 : o9 < 100 := Nat.not_le.mp (fun z => y1 ((nI_leI (by omega) (by omega)).mpr z))
            refine lv_aload_n hx hb dX7_parts_122 rfl (lv_at hl 5 rfl) ?_
            refine g_get (C := RX7) (T := TX7) (N := 31) hx hb hts hi7 hown hN hW.1 hk.1 rfl (by decide) 30 (by decide) hfX7_82 (v := .ref (B 30)) (hf1 30 rfl) dX7_parts_123 ?_
            refine lv_iload hx hb dX7_parts_126 (lv_at hl 0 rfl) ?_
            refine g_zald (j := o9) hx hb hN hW.1 (hk.2.1 30 (10, 100) rfl) (by decide) (show _ = nI o9 from rfl) (by omega) (v := .int (bI (met o9 || decide (o9 ∈ Qs)))) (hmet o9 (by omega)) dX7_parts_128 ?_
            refine lv_if_ne (tgt := 170) hx hb dX7_parts_129 (by decide) (fun y2 => ?_) (fun y2 => ?_)
            · have y2 : (met o9 || decide (o9 ∈ Qs)) = true := bI_n0.mp y2
              refine lv_iinc (v := nI (o9 + 1)) (lv' := [(7, .int (nI (o9 + 1))), (6, .int (nI kk)), (5, .int (nI Qs.length)), (4, .int (nI k9)), (3, .int (nI (R.length + 1))), (0, .ref m9), (1, .long most)]) hx hb dX7_parts_170 hl (k := 0) rfl (inc1 _) (by decide) rfl (fun ls hl => ?_)
              refine lv_goto (tgt := 115) hx hb dX7_parts_173 (by decide) ?_
              exact ih (o9 + 1) kk k9 x R Qs met F1 H locs ls (by omega) hnl hRl hk9 hkk hxq hkQ hQn hQ hmet hrow hfr1 (fun y hy hv hd => by
                rcases Nat.lt_or_ge y o9 with e | e
                · exact hpr y e hv hd
                · have e : y = o9 := by omega
                  subst e
                  exact y2) hW (lv_sub hl [0, 1, 2, 3, 4, 5, 6] rfl) cont
            · have y2 : (met o9 || decide (o9 ∈ Qs)) = false := bI_0.mp y2
              have hmo : met o9 = false ∧ o9 ∉ Qs := by simpa using y2
              obtain ⟨p2, hp2⟩ : ∃ p, P o9 = some p := by
                cases h : P o9 with
                | none => rw [hnl o9 (by omega) h] at hmo; cases hmo.1
                | some p => exact ⟨p, rfl⟩
              refine lv_aload_n hx hb dX7_parts_132 rfl (lv_at hl 5 rfl) ?_
              refine lv_aload_n hx hb dX7_parts_133 rfl (lv_at hl 5 rfl) ?_
              refine g_get (C := RX7) (T := TX7) (N := 31) hx hb hts hi7 hown hN hW.1 hk.1 rfl (by decide) 19 (by decide) hfX7_54 (v := .ref (B 19)) (hf1 19 rfl) dX7_parts_134 ?_
              refine lv_iload hx hb dX7_parts_137 (lv_at hl 1 rfl) ?_
              refine g_iald (j := kk) hx hb hN hW.1 (hk.2.1 19 (8, 100) rfl) (by decide) (show _ = nI kk from rfl) (by omega) (v := .int (nI x)) hrx dX7_parts_139 ?_
              refine lv_iload hx hb dX7_parts_140 (lv_at hl 0 rfl) ?_
              refine g_cV (v := (some (.long (pDist p1 p2)))) (As := [.int (nI x), .int (nI o9)]) (b := m9) (rest := []) hx hb hml hown hts hN hW.1 (m_between l Γ K F1 m9 B hk hf1 x o9 hx100 (by omega) p1 p2 (fun a ha => (k1 3 rfl (by decide) (by decide) _).trans (hRG.2.2.1.2 x p1 hx100 hp1 a ha)) (fun a ha => (k1 3 rfl (by decide) (by decide) _).trans (hRG.2.2.1.2 o9 p2 (by omega) hp2 a ha))) gX7_parts_X7_between rfl hk.1 (by decide) rfl (na := 2) rfl (by decide +kernel) ⟨by decide, by decide⟩ ⟨Nat.zero_le _, Nat.zero_le _⟩ rfl hl.1 (Nat.le_of_ble_eq_true rfl) dX7_parts_142 ?_
              show W _ _ _ _ _ _ _ _ _ _ _ _ _ _ _ (F0 m 145 ls [.long (pDist p1 p2)])
              have hDD := DI_ss hp1 hp2
              refine lv_lload_n hx hb dX7_parts_145 rfl (lv_at hl 6 rfl) ?_
              refine W.lcmp hx hb dX7_parts_146 ?_
              refine lv_if_gt (tgt := 170) hx hb dX7_parts_147 (by decide) (fun y3 => ?_) (fun y3 => ?_)
              · have y3 : _ := (lg_cmp_gt _ _).mp y3
                refine lv_iinc (v := nI (o9 + 1)) (lv' := [(7, .int (nI (o9 + 1))), (6, .int (nI kk)), (5, .int (nI Qs.length)), (4, .int (nI k9)), (3, .int (nI (R.length + 1))), (0, .ref m9), (1, .long most)]) hx hb dX7_parts_170 hl (k := 0) rfl (inc1 _) (by decide) rfl (fun ls hl => ?_)
                refine lv_goto (tgt := 115) hx hb dX7_parts_173 (by decide) ?_
                exact ih (o9 + 1) kk k9 x R Qs met F1 H locs ls (by omega) hnl hRl hk9 hkk hxq hkQ hQn hQ hmet hrow hfr1 (fun y hy hv hd => by
                  rcases Nat.lt_or_ge y o9 with e | e
                  · exact hpr y e hv hd
                  · have e : y = o9 := by omega
                    subst e
                    exact absurd (hDD ▸ hd) (Int64.not_le.mpr y3)) hW (lv_sub hl [0, 1, 2, 3, 4, 5, 6] rfl) cont
              · have y3 : ¬ _ := fun z => y3 ((lg_cmp_gt _ _).mpr z)
                have hQl2 : Qs.length + 1 ≤ 100 := by
                  have := nodup_sub_len (o9 :: Qs) (List.range 100) (List.nodup_cons.mpr ⟨hmo.2, hQn⟩) (fun q hq => by
                    rcases List.mem_cons.mp hq with e | e
                    · exact List.mem_range.mpr (by omega)
                    · exact List.mem_range.mpr (hQ q e).1.1)
                  rw [List.length_range] at this
                  exact this
                refine lv_aload_n hx hb dX7_parts_150 rfl (lv_at hl 5 rfl) ?_
                refine g_get (C := RX7) (T := TX7) (N := 31) hx hb hts hi7 hown hN hW.1 hk.1 rfl (by decide) 30 (by decide) hfX7_82 (v := .ref (B 30)) (hf1 30 rfl) dX7_parts_151 ?_
                refine lv_iload hx hb dX7_parts_154 (lv_at hl 0 rfl) ?_
                refine lv_iconst (v := nI 1) hx hb dX7_parts_156 (by decide) ?_
                refine g_zast (j := o9) hx hb hN hW (hk.2.1 30 (10, 100) rfl) (by decide) rfl (show _ = nI o9 from rfl) (by omega) dX7_parts_157 (fun H locs hW => ?_)
                refine lv_aload_n hx hb dX7_parts_158 rfl (lv_at hl 5 rfl) ?_
                refine g_get (C := RX7) (T := TX7) (N := 31) hx hb hts hi7 hown hN hW.1 hk.1 rfl (by decide) 19 (by decide) hfX7_54 (v := .ref (B 19)) ((gU_a (Ne.symm (hk.nm (i := 30) rfl))).trans (hf1 19 rfl)) dX7_parts_159 ?_
                refine lv_iload hx hb dX7_parts_162 (lv_at hl 2 rfl) ?_
                refine lv_iload hx hb dX7_parts_164 (lv_at hl 0 rfl) ?_
                refine g_iast (j := Qs.length) hx hb hN hW (hk.2.1 19 (8, 100) rfl) (by decide) (show _ = nI Qs.length from rfl) (by omega) dX7_parts_166 (fun H locs hW => ?_)
                refine lv_iinc (v := nI (Qs.length + 1)) (lv' := [(5, .int (nI (Qs.length + 1))), (7, .int (nI o9)), (6, .int (nI kk)), (4, .int (nI k9)), (3, .int (nI (R.length + 1))), (0, .ref m9), (1, .long most)]) hx hb dX7_parts_167 hl (k := 2) rfl (inc1 _) (by decide) rfl (fun ls hl => ?_)
                refine lv_iinc (v := nI (o9 + 1)) (lv' := [(7, .int (nI (o9 + 1))), (5, .int (nI (Qs.length + 1))), (6, .int (nI kk)), (4, .int (nI k9)), (3, .int (nI (R.length + 1))), (0, .ref m9), (1, .long most)]) hx hb dX7_parts_170 hl (k := 1) rfl (inc1 _) (by decide) rfl (fun ls hl => ?_)
                refine lv_goto (tgt := 115) hx hb dX7_parts_173 (by decide) ?_
                have hlo : lvP P o9 := ⟨by omega, p2, hp2⟩
                have hq1 : Qs.length + 1 = (Qs ++ [o9]).length := by simp
                rw [hq1] at hl
                refine ih (o9 + 1) kk k9 x R (Qs ++ [o9]) met _ H locs ls (by omega) hnl hRl hk9 (by simp; omega) (by rw [List.getElem?_append_left hkk]; exact hxq) (List.mem_append_left _ hkQ) ?_ ?_ (fun o ho => ?_) ?_ (fun b i h1 h2 => by rw [gU_a h1, gU_a h2]; exact hfr1 b i h1 h2) (fun y hy hv hd => ?_) hW (lv_sub hl [0, 2, 1, 3, 4, 5, 6] rfl) (fun Q2 F2 H locs ls hE h1 h2 h3 h4 h5 h6 hW hl => cont Q2 F2 H locs ls (by obtain ⟨E, rfl⟩ := hE; exact ⟨o9 :: E, by simp⟩) h1 h2 h3 h4 h5 h6 hW hl)
                · rw [List.nodup_append]
                  exact ⟨hQn, List.nodup_cons.mpr ⟨fun z => (by cases z), List.nodup_nil⟩, fun a ha b hb2 e => by rw [List.mem_singleton.mp hb2] at e; exact hmo.2 (e ▸ ha)⟩
                · intro q hq
                  rcases List.mem_append.mp hq with e | e
                  · exact hQ q e
                  · rw [List.mem_singleton.mp e]
                    exact ⟨hlo, hmo.1, hxc.trans (Cn.edge (hQ x hxQ).1 hlo (by rw [hDD]; exact Int64.not_lt.mp y3))⟩
                · rw [gU_a (hk.ne (i := 30) (j := 19) rfl rfl (by decide))]
                  by_cases e : o = o9
                  · rw [e, gU_self]; simp; rfl
                  · rw [gU_k e, hmet o ho]
                    congr 3
                    simp [e]
                · rw [List.map_append]
                  have q := rowL.fill (v := vI o9) (hrow.up (b := B 30) (i := o9) (v := .int (nI 1)) (Or.inl (hk.ne (i := 30) (j := 19) rfl rfl (by decide)))) (Q := []) rowL.nil
                  rw [Nat.zero_add, List.length_map] at q
                  exact q
                · rcases Nat.lt_or_ge y o9 with e | e
                  · have q1 := hpr y e hv hd
                    simp at q1 ⊢
                    rcases q1 with q1 | q1
                    · exact Or.inl q1
                    · exact Or.inr (Or.inl q1)
                  · have e : y = o9 := by omega
                    subst e
                    simp
      have bfs : ∀ (r kk k9 : Nat) (R Qs : List Nat) (met : Nat → Bool) (F1 : gF) (H : Heap) (locs : List Loc) (ls : Array Slot), 101 ≤ kk + r → (∀ o, o < 100 → P o = none → met o = true) → R.length ≤ 100 → k9 < 100 → kk ≤ Qs.length → k9 ∈ Qs → Qs.Nodup → (∀ q ∈ Qs, lvP P q ∧ met q = false ∧ Cn (lvP P) (DI P) most k9 q) → (∀ o, o < 100 → F1 (B 30) o = .int (bI (met o || decide (o ∈ Qs)))) → rowL F1 (B 19) 0 (Qs.map vI) → (∀ b i, b ≠ B 19 → b ≠ B 30 → F1 b i = G b i) → (∀ j x, j < kk → Qs[j]? = some x → ∀ y, lvP P y → DI P x y ≤ most → (met y || decide (y ∈ Qs)) = true) → gW Γ (gA K sz) s.heap K F1 H locs → lv_has ls 8 [(6, .int (nI kk)), (5, .int (nI Qs.length)), (4, .int (nI k9)), (3, .int (nI (R.length + 1))), (0, .ref m9), (1, .long most)] → (∀ (Q2 : List Nat) (F2 : gF) (H : Heap) (locs : List Loc) (ls : Array Slot), k9 ∈ Q2 → (∀ q ∈ Q2, lvP P q ∧ Cn (lvP P) (DI P) most k9 q) → (∀ o, o < 100 → F2 (B 30) o = .int (bI (met o || decide (o ∈ Q2)))) → (∀ b i, b ≠ B 19 → b ≠ B 30 → F2 b i = G b i) → (∀ q ∈ Q2, ∀ y, lvP P y → DI P q y ≤ most → (met y || decide (y ∈ Q2)) = true) → gW Γ (gA K sz) s.heap K F2 H locs → lv_has ls 8 [(4, .int (nI k9)), (3, .int (nI (R.length + 1))), (0, .ref m9), (1, .long most)] → W p l e (gRm 1 0 0) s m args below meth c H locs 0 0 Z (F0 m 182 ls [])) → W p l e (gRm 1 0 0) s m args below meth c H locs 0 0 Z (F0 m 105 ls []) := by
        intro r
        induction r with
        | zero =>
          intro kk k9 R Qs met F1 H locs ls hr hnl hRl hk9 hkk hkQ hQn hQ hmet hrow hfr1 hpr hW hl cont
          have hf1 : MKf F1 m9 B := hfG.up (fun j _ => hfr1 m9 j (fun z => hk.nm (i := 19) rfl z.symm) (fun z => hk.nm (i := 30) rfl z.symm))
          have k1 : ∀ j, (mKd j).isSome = true → j ≠ 19 → j ≠ 30 → ∀ i, F1 (B j) i = G (B j) i := fun j h1 h2 h3 i => hfr1 _ i (hk.ne h1 rfl h2) (hk.ne h1 rfl h3)
          have hQl : Qs.length ≤ 100 := by
            have := nodup_sub_len Qs (List.range 100) hQn (fun q hq => List.mem_range.mpr (hQ q hq).1.1)
            rw [List.length_range] at this
            exact this
          exact absurd hQl (by omega)
        | succ r ih =>
          intro kk k9 R Qs met F1 H locs ls hr hnl hRl hk9 hkk hkQ hQn hQ hmet hrow hfr1 hpr hW hl cont
          have hf1 : MKf F1 m9 B := hfG.up (fun j _ => hfr1 m9 j (fun z => hk.nm (i := 19) rfl z.symm) (fun z => hk.nm (i := 30) rfl z.symm))
          have k1 : ∀ j, (mKd j).isSome = true → j ≠ 19 → j ≠ 30 → ∀ i, F1 (B j) i = G (B j) i := fun j h1 h2 h3 i => hfr1 _ i (hk.ne h1 rfl h2) (hk.ne h1 rfl h3)
          have hQl : Qs.length ≤ 100 := by
            have := nodup_sub_len Qs (List.range 100) hQn (fun q hq => List.mem_range.mpr (hQ q hq).1.1)
            rw [List.length_range] at this
            exact this
          refine lv_iload hx hb dX7_parts_105 (lv_at hl 0 rfl) ?_
          refine lv_iload hx hb dX7_parts_107 (lv_at hl 1 rfl) ?_
          refine lv_icmp_ge (tgt := 182) hx hb dX7_parts_109 (by decide) (fun y1 => ?_) (fun y1 => ?_)
          · have y1 : Qs.length ≤ kk := (nI_leI (by omega) (by omega)).mp y1
            exact cont Qs F1 H locs ls hkQ (fun q hq => ⟨(hQ q hq).1, (hQ q hq).2.2⟩) hmet hfr1 (fun q hq y hy hd => by
              obtain ⟨j, hj, e⟩ := List.mem_iff_getElem.mp hq
              exact hpr j q (by omega) (by rw [List.getElem?_eq_getElem hj, e]) y hy hd) hW (lv_sub hl [2, 3, 4, 5] rfl)
          · have y1 : kk < Qs.length := Nat.not_le.mp (fun z => y1 ((nI_leI (by omega) (by omega)).mpr z))
            obtain ⟨x, hx9⟩ : ∃ x, Qs[kk]? = some x := ⟨Qs[kk], List.getElem?_eq_getElem y1⟩
            refine lv_iconst (v := nI 0) hx hb dX7_parts_112 (by decide) ?_
            refine lv_istore (lv' := [(7, .int (nI 0)), (6, .int (nI kk)), (5, .int (nI Qs.length)), (4, .int (nI k9)), (3, .int (nI (R.length + 1))), (0, .ref m9), (1, .long most)]) hx hb dX7_parts_113 hl (by decide) rfl (fun ls hl => ?_)
            refine inn 100 0 kk k9 x R Qs met F1 H locs ls rfl hnl hRl hk9 y1 hx9 hkQ hQn hQ hmet hrow hfr1 (fun y hy => absurd hy (Nat.not_lt_zero _)) hW (lv_sub hl [0, 1, 2, 3, 4, 5, 6] rfl) (fun Q2 F2 H locs ls hE h1 h2 h3 h4 h5 h6 hW hl => ?_)
            refine lv_iinc (v := nI (kk + 1)) (lv' := [(6, .int (nI (kk + 1))), (5, .int (nI Q2.length)), (4, .int (nI k9)), (3, .int (nI (R.length + 1))), (0, .ref m9), (1, .long most)]) hx hb dX7_parts_176 hl (k := 0) rfl (inc1 _) (by decide) rfl (fun ls hl => ?_)
            refine lv_goto (tgt := 105) hx hb dX7_parts_179 (by decide) ?_
            obtain ⟨E, rfl⟩ := hE
            refine ih (kk + 1) k9 R (Qs ++ E) met F2 H locs ls (by omega) hnl hRl hk9 (by rw [List.length_append]; omega) (List.mem_append_left _ hkQ) h1 h2 h3 h4 h5 (fun j z hj hz y hy hd => ?_) hW (lv_sub hl [0, 1, 2, 3, 4, 5] rfl) cont
            rcases Nat.lt_or_ge j kk with e | e
            · rw [List.getElem?_append_left (by omega)] at hz
              have q1 := hpr j z e hz y hy hd
              simp at q1 ⊢
              rcases q1 with q1 | q1
              · exact Or.inl q1
              · exact Or.inr (Or.inl q1)
            · have e : j = kk := by omega
              subst e
              rw [List.getElem?_append_left y1, hx9] at hz
              cases hz
              exact h6 y hy hd
      have out : ∀ (r k9 : Nat) (R : List Nat) (met : Nat → Bool) (F1 : gF) (H : Heap) (locs : List Loc) (ls : Array Slot), k9 + r = 100 → R.length ≤ k9 → OI P most met R k9 → (∀ o, o < 100 → F1 (B 30) o = .int (bI (met o))) → (∀ b i, b ≠ B 19 → b ≠ B 30 → F1 b i = G b i) → gW Γ (gA K sz) s.heap K F1 H locs → lv_has ls 8 [(4, .int (nI k9)), (3, .int (nI R.length)), (0, .ref m9), (1, .long most)] → W p l e (gRm 1 0 0) s m args below meth c H locs 0 0 Z (F0 m 63 ls []) := by
        intro r
        induction r with
        | zero =>
          intro k9 R met F1 H locs ls hr hRl hO hmet hfr1 hW hl
          have hf1 : MKf F1 m9 B := hfG.up (fun j _ => hfr1 m9 j (fun z => hk.nm (i := 19) rfl z.symm) (fun z => hk.nm (i := 30) rfl z.symm))
          have k1 : ∀ j, (mKd j).isSome = true → j ≠ 19 → j ≠ 30 → ∀ i, F1 (B j) i = G (B j) i := fun j h1 h2 h3 i => hfr1 _ i (hk.ne h1 rfl h2) (hk.ne h1 rfl h3)
          obtain rfl : k9 = 100 := by omega
          refine lv_iload hx hb dX7_parts_63 (lv_at hl 0 rfl) ?_
          refine lv_bipush (v := nI 100) hx hb dX7_parts_65 (by decide) ?_
          refine lv_icmp_ge (tgt := 188) hx hb dX7_parts_67 (by decide) (fun y1 => ?_) (fun y1 => ?_)
          · have y1 : 100 ≤ 100 := (nI_leI (by omega) (by omega)).mp y1
            refine lv_iload_n hx hb dX7_parts_188 rfl (lv_at hl 1 rfl) ?_
            have hR1 : RS F1 m9 B d P t S lk bc bg bp := RS_congr hRG (fun j _ => hfr1 m9 j (fun z => hk.nm (i := 19) rfl z.symm) (fun z => hk.nm (i := 30) rfl z.symm)) (fun j i hj => k1 j (JK_some hj) (fun e => by rw [e] at hj; exact absurd hj (by decide)) (fun e => by rw [e] at hj; exact absurd hj (by decide)) i)
            exact hret (some (.int (nI R.length))) _ _ _ _ _ _ hW (⟨0, nI R.length, rfl, rfl, (hfr1 m9 0 (fun z => hk.nm (i := 19) rfl z.symm) (fun z => hk.nm (i := 30) rfl z.symm)).trans hG0, Or.inr (Or.inr ⟨rfl, c1, trivial⟩), hR1, fun _ => ⟨R.length, rfl, OI_end hO⟩⟩) (rt_i dX7_parts_189)
          · have y1 : 100 < 100 := Nat.not_le.mp (fun z => y1 ((nI_leI (by omega) (by omega)).mpr z))
            exact absurd y1 (by decide)
        | succ r ih =>
          intro k9 R met F1 H locs ls hr hRl hO hmet hfr1 hW hl
          have hf1 : MKf F1 m9 B := hfG.up (fun j _ => hfr1 m9 j (fun z => hk.nm (i := 19) rfl z.symm) (fun z => hk.nm (i := 30) rfl z.symm))
          have k1 : ∀ j, (mKd j).isSome = true → j ≠ 19 → j ≠ 30 → ∀ i, F1 (B j) i = G (B j) i := fun j h1 h2 h3 i => hfr1 _ i (hk.ne h1 rfl h2) (hk.ne h1 rfl h3)
          refine lv_iload hx hb dX7_parts_63 (lv_at hl 0 rfl) ?_
          refine lv_bipush (v := nI 100) hx hb dX7_parts_65 (by decide) ?_
          refine lv_icmp_ge (tgt := 188) hx hb dX7_parts_67 (by decide) (fun y1 => ?_) (fun y1 => ?_)
          · have y1 : 100 ≤ k9 := (nI_leI (by omega) (by omega)).mp y1
            exact absurd y1 (by omega)
          · have y1 : k9 < 100 := Nat.not_le.mp (fun z => y1 ((nI_leI (by omega) (by omega)).mpr z))
            refine lv_aload_n hx hb dX7_parts_70 rfl (lv_at hl 2 rfl) ?_
            refine g_get (C := RX7) (T := TX7) (N := 31) hx hb hts hi7 hown hN hW.1 hk.1 rfl (by decide) 30 (by decide) hfX7_82 (v := .ref (B 30)) (hf1 30 rfl) dX7_parts_71 ?_
            refine lv_iload hx hb dX7_parts_74 (lv_at hl 0 rfl) ?_
            refine g_zald (j := k9) hx hb hN hW.1 (hk.2.1 30 (10, 100) rfl) (by decide) (show _ = nI k9 from rfl) (by omega) (v := .int (bI (met k9))) (hmet k9 (by omega)) dX7_parts_76 ?_
            refine lv_if_ne (tgt := 182) hx hb dX7_parts_77 (by decide) (fun y2 => ?_) (fun y2 => ?_)
            · have y2 : (met k9) = true := bI_n0.mp y2
              refine lv_iinc (v := nI (k9 + 1)) (lv' := [(4, .int (nI (k9 + 1))), (3, .int (nI R.length)), (0, .ref m9), (1, .long most)]) hx hb dX7_parts_182 hl (k := 0) rfl (inc1 _) (by decide) rfl (fun ls hl => ?_)
              refine lv_goto (tgt := 63) hx hb dX7_parts_185 (by decide) ?_
              exact ih (k9 + 1) R met F1 H locs ls (by omega) (by omega) ⟨hO.1, hO.2.1, hO.2.2.1, hO.2.2.2.1, hO.2.2.2.2.1, hO.2.2.2.2.2.1, fun x hx => by
                rcases Nat.lt_or_ge x k9 with e | e
                · exact hO.2.2.2.2.2.2 x e
                · rw [show x = k9 by omega]; exact y2⟩ hmet hfr1 hW (lv_sub hl [0, 1, 2, 3] rfl)
            · have y2 : (met k9) = false := bI_0.mp y2
              have hlk : lvP P k9 := by
                refine ⟨by omega, ?_⟩
                cases h : P k9 with
                | none => rw [hO.1 k9 (by omega) h] at y2; cases y2
                | some p => exact ⟨p, rfl⟩
              refine lv_iinc (v := nI (R.length + 1)) (lv' := [(3, .int (nI (R.length + 1))), (4, .int (nI k9)), (0, .ref m9), (1, .long most)]) hx hb dX7_parts_80 hl (k := 1) rfl (inc1 _) (by decide) rfl (fun ls hl => ?_)
              refine lv_iconst (v := nI 1) hx hb dX7_parts_83 (by decide) ?_
              refine lv_istore (lv' := [(5, .int (nI 1)), (3, .int (nI (R.length + 1))), (4, .int (nI k9)), (0, .ref m9), (1, .long most)]) hx hb dX7_parts_84 hl (by decide) rfl (fun ls hl => ?_)
              refine lv_aload_n hx hb dX7_parts_86 rfl (lv_at hl 3 rfl) ?_
              refine g_get (C := RX7) (T := TX7) (N := 31) hx hb hts hi7 hown hN hW.1 hk.1 rfl (by decide) 19 (by decide) hfX7_54 (v := .ref (B 19)) (hf1 19 rfl) dX7_parts_87 ?_
              refine lv_iconst (v := nI 0) hx hb dX7_parts_90 (by decide) ?_
              refine lv_iload hx hb dX7_parts_91 (lv_at hl 2 rfl) ?_
              refine g_iast (j := 0) hx hb hN hW (hk.2.1 19 (8, 100) rfl) (by decide) (show _ = nI 0 from rfl) (by decide) dX7_parts_93 (fun H locs hW => ?_)
              refine lv_aload_n hx hb dX7_parts_94 rfl (lv_at hl 3 rfl) ?_
              refine g_get (C := RX7) (T := TX7) (N := 31) hx hb hts hi7 hown hN hW.1 hk.1 rfl (by decide) 30 (by decide) hfX7_82 (v := .ref (B 30)) ((gU_a (Ne.symm (hk.nm (i := 19) rfl))).trans (hf1 30 rfl)) dX7_parts_95 ?_
              refine lv_iload hx hb dX7_parts_98 (lv_at hl 2 rfl) ?_
              refine lv_iconst (v := nI 1) hx hb dX7_parts_100 (by decide) ?_
              refine g_zast (j := k9) hx hb hN hW (hk.2.1 30 (10, 100) rfl) (by decide) rfl (show _ = nI k9 from rfl) (by omega) dX7_parts_101 (fun H locs hW => ?_)
              refine lv_iconst (v := nI 0) hx hb dX7_parts_102 (by decide) ?_
              refine lv_istore (lv' := [(6, .int (nI 0)), (5, .int (nI 1)), (3, .int (nI (R.length + 1))), (4, .int (nI k9)), (0, .ref m9), (1, .long most)]) hx hb dX7_parts_103 hl (by decide) rfl (fun ls hl => ?_)
              refine bfs 101 0 k9 R [k9] met _ H locs ls (by omega) hO.1 (by omega) (by omega) (Nat.zero_le _) List.mem_cons_self (List.nodup_cons.mpr ⟨fun z => (by cases z), List.nodup_nil⟩) (fun q hq => by rw [List.mem_singleton.mp hq]; exact ⟨hlk, y2, Cn.refl⟩) (fun o ho => ?_) ?_ (fun b i h1 h2 => by rw [gU_a h2, gU_a h1]; exact hfr1 b i h1 h2) (fun j x hj => absurd hj (Nat.not_lt_zero _)) hW (lv_sub hl [0, 1, 3, 2, 4, 5] rfl) (fun Q2 F2 H locs ls h1 h2 h3 h4 h5 hW hl => ?_)
              · by_cases e : o = k9
                · rw [e, gU_self]; simp; rfl
                · rw [gU_k e, gU_a (hk.ne (i := 30) (j := 19) rfl rfl (by decide)), hmet o ho]
                  congr 3
                  simp [e]
              · refine rowL.cons ?_ rowL.nil
                rw [gU_a (hk.ne (i := 19) (j := 30) rfl rfl (by decide)), gU_self]; rfl
              refine lv_iinc (v := nI (k9 + 1)) (lv' := [(4, .int (nI (k9 + 1))), (3, .int (nI (R.length + 1))), (0, .ref m9), (1, .long most)]) hx hb dX7_parts_182 hl (k := 0) rfl (inc1 _) (by decide) rfl (fun ls hl => ?_)
              refine lv_goto (tgt := 63) hx hb dX7_parts_185 (by decide) ?_
              exact ih (k9 + 1) (k9 :: R) (fun o => met o || decide (o ∈ Q2)) F2 H locs ls (by omega) (by rw [List.length_cons]; omega) (OI_next hoP hO y2 h1 h2 h5) h3 h4 hW (lv_sub hl [0, 1, 2, 3] rfl)
      have ini : ∀ (r k9 : Nat) (F1 : gF) (H : Heap) (locs : List Loc) (ls : Array Slot), k9 + r = 100 → (∀ o, o < k9 → F1 (B 30) o = .int (bI (!(P o).isSome))) → (∀ b i, b ≠ B 19 → b ≠ B 30 → F1 b i = G b i) → gW Γ (gA K sz) s.heap K F1 H locs → lv_has ls 8 [(3, .int (nI k9)), (0, .ref m9), (1, .long most)] → W p l e (gRm 1 0 0) s m args below meth c H locs 0 0 Z (F0 m 26 ls []) := by
        intro r
        induction r with
        | zero =>
          intro k9 F1 H locs ls hr hmet hfr1 hW hl
          have hf1 : MKf F1 m9 B := hfG.up (fun j _ => hfr1 m9 j (fun z => hk.nm (i := 19) rfl z.symm) (fun z => hk.nm (i := 30) rfl z.symm))
          have k1 : ∀ j, (mKd j).isSome = true → j ≠ 19 → j ≠ 30 → ∀ i, F1 (B j) i = G (B j) i := fun j h1 h2 h3 i => hfr1 _ i (hk.ne h1 rfl h2) (hk.ne h1 rfl h3)
          obtain rfl : k9 = 100 := by omega
          refine lv_iload_n hx hb dX7_parts_26 rfl (lv_at hl 0 rfl) ?_
          refine lv_bipush (v := nI 100) hx hb dX7_parts_27 (by decide) ?_
          refine lv_icmp_ge (tgt := 58) hx hb dX7_parts_29 (by decide) (fun y1 => ?_) (fun y1 => ?_)
          · have y1 : 100 ≤ 100 := (nI_leI (by omega) (by omega)).mp y1
            refine lv_iconst (v := nI 0) hx hb dX7_parts_58 (by decide) ?_
            refine lv_istore_n (lv' := [(3, .int (nI 0)), (0, .ref m9), (1, .long most)]) hx hb dX7_parts_59 rfl hl (by decide) rfl (fun ls hl => ?_)
            refine lv_iconst (v := nI 0) hx hb dX7_parts_60 (by decide) ?_
            refine lv_istore (lv' := [(4, .int (nI 0)), (3, .int (nI 0)), (0, .ref m9), (1, .long most)]) hx hb dX7_parts_61 hl (by decide) rfl (fun ls hl => ?_)
            exact out 100 0 [] (fun o => !(P o).isSome) F1 H locs ls rfl (Nat.le_refl _) OI_start hmet hfr1 hW (lv_sub hl [0, 1, 2, 3] rfl)
          · have y1 : 100 < 100 := Nat.not_le.mp (fun z => y1 ((nI_leI (by omega) (by omega)).mpr z))
            exact absurd y1 (by decide)
        | succ r ih =>
          intro k9 F1 H locs ls hr hmet hfr1 hW hl
          have hf1 : MKf F1 m9 B := hfG.up (fun j _ => hfr1 m9 j (fun z => hk.nm (i := 19) rfl z.symm) (fun z => hk.nm (i := 30) rfl z.symm))
          have k1 : ∀ j, (mKd j).isSome = true → j ≠ 19 → j ≠ 30 → ∀ i, F1 (B j) i = G (B j) i := fun j h1 h2 h3 i => hfr1 _ i (hk.ne h1 rfl h2) (hk.ne h1 rfl h3)
          refine lv_iload_n hx hb dX7_parts_26 rfl (lv_at hl 0 rfl) ?_
          refine lv_bipush (v := nI 100) hx hb dX7_parts_27 (by decide) ?_
          refine lv_icmp_ge (tgt := 58) hx hb dX7_parts_29 (by decide) (fun y1 => ?_) (fun y1 => ?_)
          · have y1 : 100 ≤ k9 := (nI_leI (by omega) (by omega)).mp y1
            exact absurd y1 (by omega)
          · have y1 : k9 < 100 := Nat.not_le.mp (fun z => y1 ((nI_leI (by omega) (by omega)).mpr z))
            refine lv_aload_n hx hb dX7_parts_32 rfl (lv_at hl 1 rfl) ?_
            refine g_get (C := RX7) (T := TX7) (N := 31) hx hb hts hi7 hown hN hW.1 hk.1 rfl (by decide) 30 (by decide) hfX7_82 (v := .ref (B 30)) (hf1 30 rfl) dX7_parts_33 ?_
            refine lv_iload_n hx hb dX7_parts_36 rfl (lv_at hl 0 rfl) ?_
            refine lv_aload_n hx hb dX7_parts_37 rfl (lv_at hl 1 rfl) ?_
            refine g_get (C := RX7) (T := TX7) (N := 31) hx hb hts hi7 hown hN hW.1 hk.1 rfl (by decide) 2 (by decide) hfX7_13 (v := .ref (B 2)) (hf1 2 rfl) dX7_parts_38 ?_
            refine lv_iload_n hx hb dX7_parts_41 rfl (lv_at hl 0 rfl) ?_
            refine g_zald (j := k9) hx hb hN hW.1 (hk.2.1 2 (10, 100) rfl) (by decide) (show _ = nI k9 from rfl) (by omega) (v := .int (bI (P k9).isSome)) ((k1 2 rfl (by decide) (by decide) k9).trans (hRG.2.2.1.1 k9 (by omega))) dX7_parts_42 ?_
            refine lv_if_ne (tgt := 50) hx hb dX7_parts_43 (by decide) (fun y2 => ?_) (fun y2 => ?_)
            · have y2 : (P k9).isSome = true := bI_n0.mp y2
              refine lv_iconst (v := nI 0) hx hb dX7_parts_50 (by decide) ?_
              refine g_zast (j := k9) hx hb hN hW (hk.2.1 30 (10, 100) rfl) (by decide) rfl (show _ = nI k9 from rfl) (by omega) dX7_parts_51 (fun H locs hW => ?_)
              refine lv_iinc (v := nI (k9 + 1)) (lv' := [(3, .int (nI (k9 + 1))), (0, .ref m9), (1, .long most)]) hx hb dX7_parts_52 hl (k := 0) rfl (inc1 _) (by decide) rfl (fun ls hl => ?_)
              refine lv_goto (tgt := 26) hx hb dX7_parts_55 (by decide) ?_
              exact ih (k9 + 1) _ H locs ls (by omega) (fun o ho => by
                by_cases e : o = k9
                · rw [e, gU_self, y2]; rfl
                · rw [gU_k e]; exact hmet o (by omega)) (fun b i h1 h2 => by rw [gU_a h2]; exact hfr1 b i h1 h2) hW (lv_sub hl [0, 1, 2] rfl)
            · have y2 : (P k9).isSome = false := bI_0.mp y2
              refine lv_iconst (v := nI 1) hx hb dX7_parts_46 (by decide) ?_
              refine lv_goto (tgt := 51) hx hb dX7_parts_47 (by decide) ?_
              refine g_zast (j := k9) hx hb hN hW (hk.2.1 30 (10, 100) rfl) (by decide) rfl (show _ = nI k9 from rfl) (by omega) dX7_parts_51 (fun H locs hW => ?_)
              refine lv_iinc (v := nI (k9 + 1)) (lv' := [(3, .int (nI (k9 + 1))), (0, .ref m9), (1, .long most)]) hx hb dX7_parts_52 hl (k := 0) rfl (inc1 _) (by decide) rfl (fun ls hl => ?_)
              refine lv_goto (tgt := 26) hx hb dX7_parts_55 (by decide) ?_
              exact ih (k9 + 1) _ H locs ls (by omega) (fun o ho => by
                by_cases e : o = k9
                · rw [e, gU_self, y2]; rfl
                · rw [gU_k e]; exact hmet o (by omega)) (fun b i h1 h2 => by rw [gU_a h2]; exact hfr1 b i h1 h2) hW (lv_sub hl [0, 1, 2] rfl)
      exact ini 100 0 G H locs ls rfl (fun o ho => absurd ho (Nat.not_lt_zero _)) (fun _ _ _ _ => rfl) hW (lv_sub hl [0, 1, 2] rfl)
    · have e1 : 0 < 0 := Nat.pos_of_ne_zero (fun z => e1 ((nI_le0 (by omega)).mpr z))
      exact absurd e1 (by decide)
  · have c1 : ¬ _ := fun z => c1 ((lg_cmp_ge _ _).mpr z)
    refine lv_iconst (v := nI 1) hx hb dX7_parts_7 (by decide) ?_
    refine lv_goto (tgt := 12) hx hb dX7_parts_8 (by decide) ?_
    refine g_put (C := RX7) (T := TX7) (N := 31) hx hb hts hi7 tyX7 tyX7_ok nmX7 hown hN hW hk.1 rfl (by decide) 0 (by decide) hfX7_1 rfl rfl rfl dX7_parts_12 (fun H locs hW => ?_)
    refine lv_aload_n hx hb dX7_parts_15 rfl (lv_at hl 0 rfl) ?_
    refine g_get (C := RX7) (T := TX7) (N := 31) hx hb hts hi7 hown hN hW.1 hk.1 rfl (by decide) 0 (by decide) hfX7_1 (v := .int (nI 1)) gU_self dX7_parts_16 ?_
    refine lv_if_le (tgt := 24) hx hb dX7_parts_19 (by decide) (fun e1 => ?_) (fun e1 => ?_)
    · have e1 : 1 = 0 := (nI_le0 (by omega)).mp e1
      exact absurd e1 (by decide)
    · have e1 : 0 < 1 := Nat.pos_of_ne_zero (fun z => e1 ((nI_le0 (by omega)).mpr z))
      refine lv_iconst (v := nI 0) hx hb dX7_parts_22 (by decide) ?_
      exact hret (some (.int (nI 0))) _ _ _ _ _ _ hW (⟨1, nI 0, rfl, rfl, gU_self, Or.inl ⟨rfl, fun z => z (Int64.not_le.mp c1)⟩, hR.thr hk, fun z => absurd z (by decide)⟩) (rt_i dX7_parts_23)
