def lvI (P : Nat → Option (Nat → Int32)) : List Nat := (List.range 100).filter (fun i => (P i).isSome)
theorem lvI_len (P : Nat → Option (Nat → Int32)) : (lvI P).length = lcP P := rfl
theorem lvI_mem {P : Nat → Option (Nat → Int32)} {x : Nat} : x ∈ lvI P ↔ lvP P x := by
  unfold lvI lvP
  rw [List.mem_filter, List.mem_range]
  exact ⟨fun h => ⟨h.1, Option.isSome_iff_exists.mp h.2⟩, fun h => ⟨h.1, Option.isSome_iff_exists.mpr h.2⟩⟩
theorem nodup_map_on {f : Nat → Nat} : ∀ {L : List Nat}, L.Nodup → (∀ x ∈ L, ∀ y ∈ L, f x = f y → x = y) → (L.map f).Nodup
  | [], _, _ => List.nodup_nil
  | a :: L, hn, hi => by
    have hn := List.nodup_cons.mp hn
    rw [List.map_cons, List.nodup_cons]
    refine ⟨fun h => ?_, nodup_map_on hn.2 (fun x hx y hy => hi x (List.mem_cons_of_mem _ hx) y (List.mem_cons_of_mem _ hy))⟩
    obtain ⟨b, hb, e⟩ := List.mem_map.mp h
    exact hn.1 (hi b (List.mem_cons_of_mem _ hb) a List.mem_cons_self e ▸ hb)
def SPI (P : Nat → Option (Nat → Int32)) (A : Nat → Nat) (ln : Nat → Int64) (n : Nat) : Prop := (∀ i, i < n → lvP P (A i)) ∧ (∀ i j, i < n → j < n → A i = A j → i = j) ∧ ∀ i, 1 ≤ i → i < n → (∃ a, a < i ∧ ln i = DI P (A a) (A i)) ∧ ∀ a y, a < i → lvP P y → (∀ q, q < i → A q ≠ y) → ln i ≤ DI P (A a) y
theorem SPI_next {P : Nat → Option (Nat → Int32)} {A : Nat → Nat} {ln : Nat → Int64} {n b a0 : Nat} {lst : Int64} (h : SPI P A ln n) (hb : lvP P b) (hnb : ∀ q, q < n → A q ≠ b) (ha0 : a0 < n) (hl : lst = DI P (A a0) b) (hm : ∀ a y, a < n → lvP P y → (∀ q, q < n → A q ≠ y) → lst ≤ DI P (A a) y) : SPI P (va_up A n b) (va_up ln n lst) (n + 1) := by
  obtain ⟨h1, h2, h3⟩ := h
  have eA : ∀ i, i ≠ n → va_up A n b i = A i := fun i hi => va_up_ne _ _ hi
  have eS : va_up A n b n = b := va_up_self _ _ _
  refine ⟨fun i hi => ?_, fun i j hi hj e => ?_, fun i i1 i2 => ?_⟩
  · by_cases e : i = n
    · rw [e, eS]; exact hb
    · rw [eA i e]; exact h1 i (by omega)
  · by_cases e1 : i = n <;> by_cases e2 : j = n
    · omega
    · rw [e1, eS, eA j e2] at e; exact absurd e.symm (hnb j (by omega))
    · rw [e2, eS, eA i e1] at e; exact absurd e (hnb i (by omega))
    · rw [eA i e1, eA j e2] at e; exact h2 i j (by omega) (by omega) e
  · by_cases e : i = n
    · subst e
      rw [va_up_self, eS]
      refine ⟨⟨a0, ha0, by rw [eA a0 (by omega)]; exact hl⟩, fun a y ha hy hq => ?_⟩
      rw [eA a (by omega)]
      exact hm a y ha hy (fun q hq2 => by have := hq q hq2; rw [eA q (by omega)] at this; exact this)
    · rw [va_up_ne _ _ e, eA i e]
      obtain ⟨⟨a, ha, hd⟩, h5⟩ := h3 i i1 (by omega)
      refine ⟨⟨a, ha, by rw [eA a (by omega)]; exact hd⟩, fun a y ha hy hq => ?_⟩
      rw [eA a (by omega)]
      exact h5 a y ha hy (fun q hq2 => by have := hq q hq2; rw [eA q (by omega)] at this; exact this)
theorem SPI_img {P : Nat → Option (Nat → Int32)} {A : Nat → Nat} {ln : Nat → Int64} {n : Nat} (h : SPI P A ln n) : ((List.range n).map A).Nodup ∧ ∀ x ∈ (List.range n).map A, x ∈ lvI P := by
  refine ⟨nodup_map_on List.nodup_range (fun x hx y hy e => h.2.1 x y (List.mem_range.mp hx) (List.mem_range.mp hy) e), fun x hx => ?_⟩
  obtain ⟨i, hi, rfl⟩ := List.mem_map.mp hx
  exact lvI_mem.mpr (h.1 i (List.mem_range.mp hi))
theorem SPI_more {P : Nat → Option (Nat → Int32)} {A : Nat → Nat} {ln : Nat → Int64} {n : Nat} (h : SPI P A ln n) (hn : n < lcP P) : ∃ y, lvP P y ∧ ∀ q, q < n → A q ≠ y := by
  refine Classical.byContradiction (fun hc => ?_)
  have := nodup_sub_len (lvI P) ((List.range n).map A) (List.nodup_range.filter _) (fun x hx => Classical.byContradiction (fun hx2 => hc ⟨x, lvI_mem.mp hx, fun q hq e => hx2 (List.mem_map.mpr ⟨q, List.mem_range.mpr hq, e⟩)⟩))
  rw [lvI_len, List.length_map, List.length_range] at this
  omega
theorem SPI_le {P : Nat → Option (Nat → Int32)} {A : Nat → Nat} {ln : Nat → Int64} {n : Nat} (h : SPI P A ln n) : n ≤ lcP P := by
  have := nodup_sub_len _ (lvI P) (SPI_img h).1 (SPI_img h).2
  rw [List.length_map, List.length_range] at this
  exact this
theorem SPI_end {P : Nat → Option (Nat → Int32)} {A : Nat → Nat} {ln : Nat → Int64} (h : SPI P A ln (lcP P)) : pPrm (lvI P) A (lcP P) ∧ pFin (DI P) A ln (lcP P) (lcP P) := by
  refine ⟨⟨h.2.1, fun i hi => lvI_mem.mpr (h.1 i hi), fun g hg => Classical.byContradiction (fun hc => ?_)⟩, fun i i1 i2 _ => ⟨(h.2.2 i i1 i2).1, fun a b ha hb hb2 => (h.2.2 i i1 i2).2 a (A b) ha (h.1 b hb2) (fun q hq e => by have := h.2.1 q b (by omega) hb2 e; omega)⟩⟩
  have := nodup_sub_len (g :: (List.range (lcP P)).map A) (lvI P) (List.nodup_cons.mpr ⟨fun hx => by
    obtain ⟨i, hi, e⟩ := List.mem_map.mp hx
    exact hc ⟨i, List.mem_range.mp hi, e⟩, (SPI_img h).1⟩) (fun x hx => by
    rcases List.mem_cons.mp hx with rfl | hx
    · exact hg
    · exact (SPI_img h).2 x hx)
  rw [List.length_cons, List.length_map, List.length_range, lvI_len] at this
  omega
theorem sumN_congr {ln ln' : Nat → Int64} : ∀ k, (∀ i, 1 ≤ i → i ≤ k → ln' i = ln i) → sumN ln' k = sumN ln k
  | 0, _ => rfl
  | k + 1, h => by
    show sumN ln' k + ln' (1 + k) = sumN ln k + ln (1 + k)
    rw [sumN_congr k (fun i h1 h2 => h i h1 (by omega)), h (1 + k) (by omega) (by omega)]
theorem sumN_next (ln : Nat → Int64) (n : Nat) (lst : Int64) (hn : 1 ≤ n) : sumN (va_up ln n lst) (n + 1 - 1) = sumN ln (n - 1) + lst := by
  obtain ⟨k, rfl⟩ : ∃ k, n = k + 1 := ⟨n - 1, by omega⟩
  show sumN (va_up ln (k + 1) lst) k + va_up ln (k + 1) lst (1 + k) = sumN ln k + lst
  rw [sumN_congr (ln := ln) k (fun i h1 h2 => va_up_ne _ _ (by omega)), Nat.add_comm 1 k, va_up_self]
def BI (P : Nat → Option (Nat → Int32)) (A : Nat → Nat) (met : Nat → Bool) (n o9 k8 : Nat) (bst : Int32) (lst : Int64) : Prop :=
  (bst = -1 ∧ ∀ o a, o < 100 → met o = false → a < n → (o < o9 ∨ (o = o9 ∧ a < k8)) → False) ∨ ∃ b a0, bst = nI b ∧ b < 100 ∧ met b = false ∧ a0 < n ∧ lst = DI P (A a0) b ∧ ∀ o a, o < 100 → met o = false → a < n → (o < o9 ∨ (o = o9 ∧ a < k8)) → lst ≤ DI P (A a) o
theorem i64_lt_trans_le {a b d : Int64} (h1 : a < b) (h2 : b ≤ d) : a ≤ d := by
  rw [Int64.le_iff_toInt_le] at h2 ⊢
  rw [Int64.lt_iff_toInt_lt] at h1
  omega
theorem BI_upd {P : Nat → Option (Nat → Int32)} {A : Nat → Nat} {met : Nat → Bool} {n o9 k8 : Nat} {bst : Int32} {lst : Int64} (h : BI P A met n o9 k8 bst lst) (ho : o9 < 100) (hmo : met o9 = false) (hk : k8 < n) (hd : bst = -1 ∨ DI P (A k8) o9 < lst) : BI P A met n o9 (k8 + 1) (nI o9) (DI P (A k8) o9) := by
  refine Or.inr ⟨o9, k8, rfl, ho, hmo, hk, rfl, fun o a h1 h2 h3 h4 => ?_⟩
  by_cases e : o = o9 ∧ a = k8
  · rw [e.1, e.2]; exact Int64.le_refl _
  · have h4 : o < o9 ∨ (o = o9 ∧ a < k8) := by omega
    rcases h with ⟨g1, g2⟩ | ⟨b, a0, g1, g2, _, _, g3, g4⟩
    · exact (g2 o a h1 h2 h3 h4).elim
    · rcases hd with hd | hd
      · rw [g1] at hd; exact absurd hd (oI_n (by omega))
      · exact i64_lt_trans_le hd (g4 o a h1 h2 h3 h4)

set_option maxHeartbeats 4000000 in
set_option maxRecDepth 100000 in
theorem m_span (l : Launch) (Γ : gG) (K : gK) (F : gF) (sz : Nat) (m9 : Nat) (B : Nat → Nat) (hk : MKk K m9 B) (d : Nat) (P : Nat → Option (Nat → Int32)) (t : TT gLb) (S : List (Nat × Int64)) (lk bc bg bp : Nat) (hR : RS F m9 B d P t S lk bc bg bp) (hoP : okP P) (h60 : lcP P ≤ 60) : gMM l yX7_span wsX7_span 1 0 0 Γ K F sz [.ref m9] (fun v K' F' => ∃ r, v = some (.long r) ∧ K' = K ∧ RS F' m9 B d P t S lk bc bg bp ∧ ∃ A ln, pPrm (lvI P) A (lcP P) ∧ pFin (DI P) A ln (lcP P) (lcP P) ∧ r = sumN ln (lcP P - 1)) := by
  refine g_mM (cc := cX7_span) (maxL := 9) (ret := (some .long)) (by decide) rfl (Nat.le_of_ble_eq_true rfl) ?_
  intro p e s m args below meth c ls Z hsz hx hb hts hown hml hnm hN hW hret hl
  have hl : lv_has ls 9 [(0, .ref m9)] := hl
  have hown : s.vm.findClass RX7 = some m.cls := hown
  have hi7 : ∀ w ∈ wsX70, w ∈ wsX7_span := by decide +kernel
  have hfX7_1 : Cond.fieldLink RX7 1 (TX7 0).1 (TX7 0).2.1 (TX7 0).2.2.1 ∈ wsX7_span := by decide +kernel
  have hfX7_13 : Cond.fieldLink RX7 13 (TX7 2).1 (TX7 2).2.1 (TX7 2).2.2.1 ∈ wsX7_span := by decide +kernel
  have hfX7_54 : Cond.fieldLink RX7 54 (TX7 19).1 (TX7 19).2.1 (TX7 19).2.2.1 ∈ wsX7_span := by decide +kernel
  have hfX7_82 : Cond.fieldLink RX7 82 (TX7 30).1 (TX7 30).2.1 (TX7 30).2.2.1 ∈ wsX7_span := by decide +kernel
  have hfX7_125 : Cond.fieldLink RX7 125 (TX7 5).1 (TX7 5).2.1 (TX7 5).2.2.1 ∈ wsX7_span := by decide +kernel
  have hf := hR.1
  refine lv_aload_n hx hb dX7_span_0 rfl (lv_at hl 0 rfl) ?_
  refine lv_iconst (v := nI 0) hx hb dX7_span_1 (by decide) ?_
  refine g_put (C := RX7) (T := TX7) (N := 31) hx hb hts hi7 tyX7 tyX7_ok nmX7 hown hN hW hk.1 rfl (by decide) 0 (by decide) hfX7_1 rfl rfl rfl dX7_span_2 (fun H locs hW => ?_)
  have hRG : RS (gU F m9 0 (.int (nI 0))) m9 B d P t S lk bc bg bp := hR.thr hk
  generalize gU F m9 0 (.int (nI 0)) = G at hW hRG
  have hfG := hRG.1
  refine lv_lconst (v := 0) hx hb dX7_span_5 (by decide) ?_
  refine lv_lstore_n (lv' := [(1, .long 0), (0, .ref m9)]) hx hb dX7_span_6 rfl hl (by decide) rfl (fun ls hl => ?_)
  refine lv_iconst (v := nI 0) hx hb dX7_span_7 (by decide) ?_
  refine lv_istore_n (lv' := [(3, .int (nI 0)), (1, .long 0), (0, .ref m9)]) hx hb dX7_span_8 rfl hl (by decide) rfl (fun ls hl => ?_)
  refine lv_iconst (v := nI 0) hx hb dX7_span_9 (by decide) ?_
  refine lv_istore (lv' := [(4, .int (nI 0)), (3, .int (nI 0)), (1, .long 0), (0, .ref m9)]) hx hb dX7_span_10 hl (by decide) rfl (fun ls hl => ?_)
  have fin : ∀ (sm : Int64) (F1 : gF) (H : Heap) (locs : List Loc) (ls : Array Slot), (∃ A ln, SPI P A ln (lcP P) ∧ sm = sumN ln (lcP P - 1)) → (∀ b i, b ≠ B 19 → b ≠ B 30 → F1 b i = G b i) → gW Γ (gA K sz) s.heap K F1 H locs → lv_has ls 9 [(1, .long sm), (0, .ref m9)] → W p l e (gRm 1 0 0) s m args below meth c H locs 0 0 Z (F0 m 209 ls []) := by
    intro sm F1 H locs ls hA hfr1 hW hl
    obtain ⟨A, ln, hS, hsm⟩ := hA
    have hf1 : MKf F1 m9 B := hfG.up (fun j _ => hfr1 m9 j (fun z => hk.nm (i := 19) rfl z.symm) (fun z => hk.nm (i := 30) rfl z.symm))
    have k1 : ∀ j, (mKd j).isSome = true → j ≠ 19 → j ≠ 30 → ∀ i, F1 (B j) i = G (B j) i := fun j h1 h2 h3 i => hfr1 _ i (hk.ne h1 rfl h2) (hk.ne h1 rfl h3)
    have hlv : F1 m9 5 = .int (nI (lcP P)) := (hfr1 m9 5 (fun z => hk.nm (i := 19) rfl z.symm) (fun z => hk.nm (i := 30) rfl z.symm)).trans hRG.2.2.2.1
    have hrw : ∀ i p, i < 100 → P i = some p → ∀ a, a < 4 → F1 (B 3) (4 * i + a) = .int (p a) := fun i p hi hp a ha => (k1 3 rfl (by decide) (by decide) _).trans (hRG.2.2.1.2 i p hi hp a ha)
    refine lv_lload_n hx hb dX7_span_209 rfl (lv_at hl 0 rfl) ?_
    exact hret (some (.long sm)) _ _ _ _ _ _ hW (⟨sm, rfl, rfl, RS_congr hRG (fun j _ => hfr1 m9 j (fun z => hk.nm (i := 19) rfl z.symm) (fun z => hk.nm (i := 30) rfl z.symm)) (fun j i hj => k1 j (JK_some hj) (fun e => by rw [e] at hj; exact absurd hj (by decide)) (fun e => by rw [e] at hj; exact absurd hj (by decide)) i), A, ln, (SPI_end hS).1, (SPI_end hS).2, hsm⟩) (rt_l dX7_span_210)
  have inn : ∀ (r k8 o9 n : Nat) (A : Nat → Nat) (met : Nat → Bool) (bst : Int32) (lst sm : Int64) (F1 : gF) (H : Heap) (locs : List Loc) (ls : Array Slot), k8 + r = n → o9 < 100 → n ≤ 60 → 1 ≤ n → (∀ i, i < n → lvP P (A i)) → (∀ i, i < n → F1 (B 19) i = .int (nI (A i))) → (∀ o, o < 100 → F1 (B 30) o = .int (bI (met o))) → (∀ o, o < 100 → (met o = false ↔ (lvP P o ∧ ∀ q, q < n → A q ≠ o))) → (∀ b i, b ≠ B 19 → b ≠ B 30 → F1 b i = G b i) → BI P A met n o9 k8 bst lst → gW Γ (gA K sz) s.heap K F1 H locs → lv_has ls 9 [(8, .int (nI k8)), (7, .int (nI o9)), (5, .long lst), (4, .int bst), (3, .int (nI n)), (1, .long sm), (0, .ref m9)] → (∀ (bst : Int32) (lst : Int64) (ls : Array Slot), BI P A met n (o9 + 1) 0 bst lst → lv_has ls 9 [(7, .int (nI o9)), (5, .long lst), (4, .int bst), (3, .int (nI n)), (1, .long sm), (0, .ref m9)] → W p l e (gRm 1 0 0) s m args below meth c H locs 0 0 Z (F0 m 176 ls [])) → W p l e (gRm 1 0 0) s m args below meth c H locs 0 0 Z (F0 m 110 ls []) := by
    intro r
    induction r with
    | zero =>
      intro k8 o9 n A met bst lst sm F1 H locs ls hr ho9 hn60 hn1 hAl hrow hmet hspec hfr1 hBI hW hl cont
      have hf1 : MKf F1 m9 B := hfG.up (fun j _ => hfr1 m9 j (fun z => hk.nm (i := 19) rfl z.symm) (fun z => hk.nm (i := 30) rfl z.symm))
      have k1 : ∀ j, (mKd j).isSome = true → j ≠ 19 → j ≠ 30 → ∀ i, F1 (B j) i = G (B j) i := fun j h1 h2 h3 i => hfr1 _ i (hk.ne h1 rfl h2) (hk.ne h1 rfl h3)
      have hlv : F1 m9 5 = .int (nI (lcP P)) := (hfr1 m9 5 (fun z => hk.nm (i := 19) rfl z.symm) (fun z => hk.nm (i := 30) rfl z.symm)).trans hRG.2.2.2.1
      have hrw : ∀ i p, i < 100 → P i = some p → ∀ a, a < 4 → F1 (B 3) (4 * i + a) = .int (p a) := fun i p hi hp a ha => (k1 3 rfl (by decide) (by decide) _).trans (hRG.2.2.1.2 i p hi hp a ha)
      refine lv_iload hx hb dX7_span_110 (lv_at hl 0 rfl) ?_
      refine lv_iload_n hx hb dX7_span_112 rfl (lv_at hl 4 rfl) ?_
      refine lv_icmp_ge (tgt := 176) hx hb dX7_span_113 (by decide) (fun y1 => ?_) (fun y1 => ?_)
      · have y1 : n ≤ k8 := (nI_leI (by omega) (by omega)).mp y1
        refine cont bst lst ls ?_ (lv_sub hl [1, 2, 3, 4, 5, 6] rfl)
        rcases hBI with ⟨g1, g2⟩ | ⟨b, a0, g1, g2, g3, g4, g5, g6⟩
        · exact Or.inl ⟨g1, fun o a h1 h2 h3 h4 => g2 o a h1 h2 h3 (by omega)⟩
        · exact Or.inr ⟨b, a0, g1, g2, g3, g4, g5, fun o a h1 h2 h3 h4 => g6 o a h1 h2 h3 (by omega)⟩
      · have y1 : k8 < n := Nat.not_le.mp (fun z => y1 ((nI_leI (by omega) (by omega)).mpr z))
        exact absurd y1 (by omega)
    | succ r ih =>
      intro k8 o9 n A met bst lst sm F1 H locs ls hr ho9 hn60 hn1 hAl hrow hmet hspec hfr1 hBI hW hl cont
      have hf1 : MKf F1 m9 B := hfG.up (fun j _ => hfr1 m9 j (fun z => hk.nm (i := 19) rfl z.symm) (fun z => hk.nm (i := 30) rfl z.symm))
      have k1 : ∀ j, (mKd j).isSome = true → j ≠ 19 → j ≠ 30 → ∀ i, F1 (B j) i = G (B j) i := fun j h1 h2 h3 i => hfr1 _ i (hk.ne h1 rfl h2) (hk.ne h1 rfl h3)
      have hlv : F1 m9 5 = .int (nI (lcP P)) := (hfr1 m9 5 (fun z => hk.nm (i := 19) rfl z.symm) (fun z => hk.nm (i := 30) rfl z.symm)).trans hRG.2.2.2.1
      have hrw : ∀ i p, i < 100 → P i = some p → ∀ a, a < 4 → F1 (B 3) (4 * i + a) = .int (p a) := fun i p hi hp a ha => (k1 3 rfl (by decide) (by decide) _).trans (hRG.2.2.1.2 i p hi hp a ha)
      refine lv_iload hx hb dX7_span_110 (lv_at hl 0 rfl) ?_
      refine lv_iload_n hx hb dX7_span_112 rfl (lv_at hl 4 rfl) ?_
      refine lv_icmp_ge (tgt := 176) hx hb dX7_span_113 (by decide) (fun y1 => ?_) (fun y1 => ?_)
      · have y1 : n ≤ k8 := (nI_leI (by omega) (by omega)).mp y1
        exact absurd y1 (by omega)
      · have y1 : k8 < n := Nat.not_le.mp (fun z => y1 ((nI_leI (by omega) (by omega)).mpr z))
        refine lv_aload_n hx hb dX7_span_116 rfl (lv_at hl 6 rfl) ?_
        refine g_get (C := RX7) (T := TX7) (N := 31) hx hb hts hi7 hown hN hW.1 hk.1 rfl (by decide) 30 (by decide) hfX7_82 (v := .ref (B 30)) (hf1 30 rfl) dX7_span_117 ?_
        refine lv_iload hx hb dX7_span_120 (lv_at hl 1 rfl) ?_
        refine g_zald (j := o9) hx hb hN hW.1 (hk.2.1 30 (10, 100) rfl) (by decide) (show _ = nI o9 from rfl) (by omega) (v := .int (bI (met o9))) (hmet o9 (by omega)) dX7_span_122 ?_
        refine lv_if_ne (tgt := 176) hx hb dX7_span_123 (by decide) (fun y2 => ?_) (fun y2 => ?_)
        · have y2 : (met o9) = true := bI_n0.mp y2
          refine cont bst lst ls ?_ (lv_sub hl [1, 2, 3, 4, 5, 6] rfl)
          rcases hBI with ⟨g1, g2⟩ | ⟨b, a0, g1, g2, g3, g4, g5, g6⟩
          · exact Or.inl ⟨g1, fun o a h1 h2 h3 h4 => by
              by_cases e : o = o9
              · rw [e, y2] at h2; cases h2
              · exact g2 o a h1 h2 h3 (Or.inl (by omega))⟩
          · exact Or.inr ⟨b, a0, g1, g2, g3, g4, g5, fun o a h1 h2 h3 h4 => by
              by_cases e : o = o9
              · rw [e, y2] at h2; cases h2
              · exact g6 o a h1 h2 h3 (Or.inl (by omega))⟩
        · have y2 : (met o9) = false := bI_0.mp y2
          obtain ⟨⟨_, p2, hp2⟩, hno⟩ := (hspec o9 ho9).mp y2
          obtain ⟨hA100, p1, hp1⟩ := hAl k8 (by omega)
          have hDD := DI_ss hp1 hp2
          have hbtw := m_between l Γ K F1 m9 B hk hf1 (A k8) o9 hA100 ho9 p1 p2 (hrw (A k8) p1 hA100 hp1) (hrw o9 p2 ho9 hp2)
          rw [← hDD] at hbtw
          have hrk := hrow k8 (by omega)
          have hBI0 := hBI
          rcases hBI with ⟨g1, g2⟩ | ⟨b, a0, g1, g2, g3, g4, g5, g6⟩
          · refine lv_iload hx hb dX7_span_126 (lv_at hl 3 rfl) ?_
            refine lv_iconst (v := (-1)) hx hb dX7_span_128 (by decide) ?_
            refine lv_icmp_eq (tgt := 151) hx hb dX7_span_129 (by decide) (fun y4 => ?_) (fun y4 => ?_)
            · refine lv_iload hx hb dX7_span_151 (lv_at hl 1 rfl) ?_
              refine lv_istore (lv' := [(4, .int (nI o9)), (8, .int (nI k8)), (7, .int (nI o9)), (5, .long lst), (3, .int (nI n)), (1, .long sm), (0, .ref m9)]) hx hb dX7_span_153 hl (by decide) rfl (fun ls hl => ?_)
              refine lv_aload_n hx hb dX7_span_155 rfl (lv_at hl 6 rfl) ?_
              refine lv_aload_n hx hb dX7_span_156 rfl (lv_at hl 6 rfl) ?_
              refine g_get (C := RX7) (T := TX7) (N := 31) hx hb hts hi7 hown hN hW.1 hk.1 rfl (by decide) 19 (by decide) hfX7_54 (v := .ref (B 19)) (hf1 19 rfl) dX7_span_157 ?_
              refine lv_iload hx hb dX7_span_160 (lv_at hl 1 rfl) ?_
              refine g_iald (j := k8) hx hb hN hW.1 (hk.2.1 19 (8, 100) rfl) (by decide) (show _ = nI k8 from rfl) (by omega) (v := .int (nI (A k8))) hrk dX7_span_162 ?_
              refine lv_iload hx hb dX7_span_163 (lv_at hl 2 rfl) ?_
              refine g_cV (v := (some (.long (DI P (A k8) o9)))) (As := [.int (nI (A k8)), .int (nI o9)]) (b := m9) (rest := []) hx hb hml hown hts hN hW.1 (hbtw) gX7_span_X7_between rfl hk.1 (by decide) rfl (na := 2) rfl (by decide +kernel) ⟨by decide, by decide⟩ ⟨Nat.zero_le _, Nat.zero_le _⟩ rfl hl.1 (Nat.le_of_ble_eq_true rfl) dX7_span_165 ?_
              show W _ _ _ _ _ _ _ _ _ _ _ _ _ _ _ (F0 m 168 ls [.long (DI P (A k8) o9)])
              refine lv_lstore (lv' := [(5, .long (DI P (A k8) o9)), (4, .int (nI o9)), (8, .int (nI k8)), (7, .int (nI o9)), (3, .int (nI n)), (1, .long sm), (0, .ref m9)]) hx hb dX7_span_168 hl (by decide) rfl (fun ls hl => ?_)
              refine lv_iinc (v := nI (k8 + 1)) (lv' := [(8, .int (nI (k8 + 1))), (5, .long (DI P (A k8) o9)), (4, .int (nI o9)), (7, .int (nI o9)), (3, .int (nI n)), (1, .long sm), (0, .ref m9)]) hx hb dX7_span_170 hl (k := 2) rfl (inc1 _) (by decide) rfl (fun ls hl => ?_)
              refine lv_goto (tgt := 110) hx hb dX7_span_173 (by decide) ?_
              exact ih (k8 + 1) o9 n A met (nI o9) (DI P (A k8) o9) sm F1 H locs ls (by omega) ho9 hn60 hn1 hAl hrow hmet hspec hfr1 (BI_upd hBI0 ho9 y2 (by omega) (Or.inl g1)) hW (lv_sub hl [0, 3, 1, 2, 4, 5, 6] rfl) cont
            · exact absurd g1 y4
          · have hb31 : b < 2 ^ 31 := by omega
            refine lv_iload hx hb dX7_span_126 (lv_at hl 3 rfl) ?_
            refine lv_iconst (v := (-1)) hx hb dX7_span_128 (by decide) ?_
            refine lv_icmp_eq (tgt := 151) hx hb dX7_span_129 (by decide) (fun y4 => ?_) (fun y4 => ?_)
            · rw [g1] at y4; exact absurd y4 (oI_n hb31)
            · refine lv_aload_n hx hb dX7_span_132 rfl (lv_at hl 6 rfl) ?_
              refine lv_aload_n hx hb dX7_span_133 rfl (lv_at hl 6 rfl) ?_
              refine g_get (C := RX7) (T := TX7) (N := 31) hx hb hts hi7 hown hN hW.1 hk.1 rfl (by decide) 19 (by decide) hfX7_54 (v := .ref (B 19)) (hf1 19 rfl) dX7_span_134 ?_
              refine lv_iload hx hb dX7_span_137 (lv_at hl 0 rfl) ?_
              refine g_iald (j := k8) hx hb hN hW.1 (hk.2.1 19 (8, 100) rfl) (by decide) (show _ = nI k8 from rfl) (by omega) (v := .int (nI (A k8))) hrk dX7_span_139 ?_
              refine lv_iload hx hb dX7_span_140 (lv_at hl 1 rfl) ?_
              refine g_cV (v := (some (.long (DI P (A k8) o9)))) (As := [.int (nI (A k8)), .int (nI o9)]) (b := m9) (rest := []) hx hb hml hown hts hN hW.1 (hbtw) gX7_span_X7_between rfl hk.1 (by decide) rfl (na := 2) rfl (by decide +kernel) ⟨by decide, by decide⟩ ⟨Nat.zero_le _, Nat.zero_le _⟩ rfl hl.1 (Nat.le_of_ble_eq_true rfl) dX7_span_142 ?_
              show W _ _ _ _ _ _ _ _ _ _ _ _ _ _ _ (F0 m 145 ls [.long (DI P (A k8) o9)])
              refine lv_lload hx hb dX7_span_145 (lv_at hl 2 rfl) ?_
              refine W.lcmp hx hb dX7_span_147 ?_
              refine lv_if_ge (tgt := 170) hx hb dX7_span_148 (by decide) (fun y5 => ?_) (fun y5 => ?_)
              · have y5 : _ := (lg_cmp_ge _ _).mp y5
                refine lv_iinc (v := nI (k8 + 1)) (lv' := [(8, .int (nI (k8 + 1))), (7, .int (nI o9)), (5, .long lst), (4, .int bst), (3, .int (nI n)), (1, .long sm), (0, .ref m9)]) hx hb dX7_span_170 hl (k := 0) rfl (inc1 _) (by decide) rfl (fun ls hl => ?_)
                refine lv_goto (tgt := 110) hx hb dX7_span_173 (by decide) ?_
                refine ih (k8 + 1) o9 n A met bst lst sm F1 H locs ls (by omega) ho9 hn60 hn1 hAl hrow hmet hspec hfr1 (Or.inr ⟨b, a0, g1, g2, g3, g4, g5, fun o a h1 h2 h3 h4 => ?_⟩) hW (lv_sub hl [0, 1, 2, 3, 4, 5, 6] rfl) cont
                by_cases e : o = o9 ∧ a = k8
                · rw [e.1, e.2]; exact y5
                · exact g6 o a h1 h2 h3 (by omega)
              · have y5 : ¬ _ := fun z => y5 ((lg_cmp_ge _ _).mpr z)
                refine lv_iload hx hb dX7_span_151 (lv_at hl 1 rfl) ?_
                refine lv_istore (lv' := [(4, .int (nI o9)), (8, .int (nI k8)), (7, .int (nI o9)), (5, .long lst), (3, .int (nI n)), (1, .long sm), (0, .ref m9)]) hx hb dX7_span_153 hl (by decide) rfl (fun ls hl => ?_)
                refine lv_aload_n hx hb dX7_span_155 rfl (lv_at hl 6 rfl) ?_
                refine lv_aload_n hx hb dX7_span_156 rfl (lv_at hl 6 rfl) ?_
                refine g_get (C := RX7) (T := TX7) (N := 31) hx hb hts hi7 hown hN hW.1 hk.1 rfl (by decide) 19 (by decide) hfX7_54 (v := .ref (B 19)) (hf1 19 rfl) dX7_span_157 ?_
                refine lv_iload hx hb dX7_span_160 (lv_at hl 1 rfl) ?_
                refine g_iald (j := k8) hx hb hN hW.1 (hk.2.1 19 (8, 100) rfl) (by decide) (show _ = nI k8 from rfl) (by omega) (v := .int (nI (A k8))) hrk dX7_span_162 ?_
                refine lv_iload hx hb dX7_span_163 (lv_at hl 2 rfl) ?_
                refine g_cV (v := (some (.long (DI P (A k8) o9)))) (As := [.int (nI (A k8)), .int (nI o9)]) (b := m9) (rest := []) hx hb hml hown hts hN hW.1 (hbtw) gX7_span_X7_between rfl hk.1 (by decide) rfl (na := 2) rfl (by decide +kernel) ⟨by decide, by decide⟩ ⟨Nat.zero_le _, Nat.zero_le _⟩ rfl hl.1 (Nat.le_of_ble_eq_true rfl) dX7_span_165 ?_
                show W _ _ _ _ _ _ _ _ _ _ _ _ _ _ _ (F0 m 168 ls [.long (DI P (A k8) o9)])
                refine lv_lstore (lv' := [(5, .long (DI P (A k8) o9)), (4, .int (nI o9)), (8, .int (nI k8)), (7, .int (nI o9)), (3, .int (nI n)), (1, .long sm), (0, .ref m9)]) hx hb dX7_span_168 hl (by decide) rfl (fun ls hl => ?_)
                refine lv_iinc (v := nI (k8 + 1)) (lv' := [(8, .int (nI (k8 + 1))), (5, .long (DI P (A k8) o9)), (4, .int (nI o9)), (7, .int (nI o9)), (3, .int (nI n)), (1, .long sm), (0, .ref m9)]) hx hb dX7_span_170 hl (k := 2) rfl (inc1 _) (by decide) rfl (fun ls hl => ?_)
                refine lv_goto (tgt := 110) hx hb dX7_span_173 (by decide) ?_
                exact ih (k8 + 1) o9 n A met (nI o9) (DI P (A k8) o9) sm F1 H locs ls (by omega) ho9 hn60 hn1 hAl hrow hmet hspec hfr1 (BI_upd hBI0 ho9 y2 (by omega) (Or.inr (Int64.not_le.mp y5))) hW (lv_sub hl [0, 3, 1, 2, 4, 5, 6] rfl) cont
  have mid : ∀ (r o9 n : Nat) (A : Nat → Nat) (met : Nat → Bool) (bst : Int32) (lst sm : Int64) (F1 : gF) (H : Heap) (locs : List Loc) (ls : Array Slot), o9 + r = 100 → n ≤ 60 → 1 ≤ n → (∀ i, i < n → lvP P (A i)) → (∀ i, i < n → F1 (B 19) i = .int (nI (A i))) → (∀ o, o < 100 → F1 (B 30) o = .int (bI (met o))) → (∀ o, o < 100 → (met o = false ↔ (lvP P o ∧ ∀ q, q < n → A q ≠ o))) → (∀ b i, b ≠ B 19 → b ≠ B 30 → F1 b i = G b i) → BI P A met n o9 0 bst lst → gW Γ (gA K sz) s.heap K F1 H locs → lv_has ls 9 [(7, .int (nI o9)), (5, .long lst), (4, .int bst), (3, .int (nI n)), (1, .long sm), (0, .ref m9)] → (∀ (bst : Int32) (lst : Int64) (ls : Array Slot), BI P A met n 100 0 bst lst → lv_has ls 9 [(5, .long lst), (4, .int bst), (3, .int (nI n)), (1, .long sm), (0, .ref m9)] → W p l e (gRm 1 0 0) s m args below meth c H locs 0 0 Z (F0 m 182 ls [])) → W p l e (gRm 1 0 0) s m args below meth c H locs 0 0 Z (F0 m 100 ls []) := by
    intro r
    induction r with
    | zero =>
      intro o9 n A met bst lst sm F1 H locs ls hr hn60 hn1 hAl hrow hmet hspec hfr1 hBI hW hl cont
      have hf1 : MKf F1 m9 B := hfG.up (fun j _ => hfr1 m9 j (fun z => hk.nm (i := 19) rfl z.symm) (fun z => hk.nm (i := 30) rfl z.symm))
      have k1 : ∀ j, (mKd j).isSome = true → j ≠ 19 → j ≠ 30 → ∀ i, F1 (B j) i = G (B j) i := fun j h1 h2 h3 i => hfr1 _ i (hk.ne h1 rfl h2) (hk.ne h1 rfl h3)
      have hlv : F1 m9 5 = .int (nI (lcP P)) := (hfr1 m9 5 (fun z => hk.nm (i := 19) rfl z.symm) (fun z => hk.nm (i := 30) rfl z.symm)).trans hRG.2.2.2.1
      have hrw : ∀ i p, i < 100 → P i = some p → ∀ a, a < 4 → F1 (B 3) (4 * i + a) = .int (p a) := fun i p hi hp a ha => (k1 3 rfl (by decide) (by decide) _).trans (hRG.2.2.1.2 i p hi hp a ha)
      obtain rfl : o9 = 100 := by omega
      refine lv_iload hx hb dX7_span_100 (lv_at hl 0 rfl) ?_
      refine lv_bipush (v := nI 100) hx hb dX7_span_102 (by decide) ?_
      refine lv_icmp_ge (tgt := 182) hx hb dX7_span_104 (by decide) (fun y1 => ?_) (fun y1 => ?_)
      · have y1 : 100 ≤ 100 := (nI_leI (by omega) (by omega)).mp y1
        exact cont bst lst ls hBI (lv_sub hl [1, 2, 3, 4, 5] rfl)
      · have y1 : 100 < 100 := Nat.not_le.mp (fun z => y1 ((nI_leI (by omega) (by omega)).mpr z))
        exact absurd y1 (by decide)
    | succ r ih =>
      intro o9 n A met bst lst sm F1 H locs ls hr hn60 hn1 hAl hrow hmet hspec hfr1 hBI hW hl cont
      have hf1 : MKf F1 m9 B := hfG.up (fun j _ => hfr1 m9 j (fun z => hk.nm (i := 19) rfl z.symm) (fun z => hk.nm (i := 30) rfl z.symm))
      have k1 : ∀ j, (mKd j).isSome = true → j ≠ 19 → j ≠ 30 → ∀ i, F1 (B j) i = G (B j) i := fun j h1 h2 h3 i => hfr1 _ i (hk.ne h1 rfl h2) (hk.ne h1 rfl h3)
      have hlv : F1 m9 5 = .int (nI (lcP P)) := (hfr1 m9 5 (fun z => hk.nm (i := 19) rfl z.symm) (fun z => hk.nm (i := 30) rfl z.symm)).trans hRG.2.2.2.1
      have hrw : ∀ i p, i < 100 → P i = some p → ∀ a, a < 4 → F1 (B 3) (4 * i + a) = .int (p a) := fun i p hi hp a ha => (k1 3 rfl (by decide) (by decide) _).trans (hRG.2.2.1.2 i p hi hp a ha)
      refine lv_iload hx hb dX7_span_100 (lv_at hl 0 rfl) ?_
      refine lv_bipush (v := nI 100) hx hb dX7_span_102 (by decide) ?_
      refine lv_icmp_ge (tgt := 182) hx hb dX7_span_104 (by decide) (fun y1 => ?_) (fun y1 => ?_)
      · have y1 : 100 ≤ o9 := (nI_leI (by omega) (by omega)).mp y1
        exact absurd y1 (by omega)
      · have y1 : o9 < 100 := Nat.not_le.mp (fun z => y1 ((nI_leI (by omega) (by omega)).mpr z))
        refine lv_iconst (v := nI 0) hx hb dX7_span_107 (by decide) ?_
        refine lv_istore (lv' := [(8, .int (nI 0)), (7, .int (nI o9)), (5, .long lst), (4, .int bst), (3, .int (nI n)), (1, .long sm), (0, .ref m9)]) hx hb dX7_span_108 hl (by decide) rfl (fun ls hl => ?_)
        refine inn n 0 o9 n A met bst lst sm F1 H locs ls (by omega) (by omega) hn60 hn1 hAl hrow hmet hspec hfr1 hBI hW (lv_sub hl [0, 1, 2, 3, 4, 5, 6] rfl) (fun bst lst ls hBI hl => ?_)
        refine lv_iinc (v := nI (o9 + 1)) (lv' := [(7, .int (nI (o9 + 1))), (5, .long lst), (4, .int bst), (3, .int (nI n)), (1, .long sm), (0, .ref m9)]) hx hb dX7_span_176 hl (k := 0) rfl (inc1 _) (by decide) rfl (fun ls hl => ?_)
        refine lv_goto (tgt := 100) hx hb dX7_span_179 (by decide) ?_
        exact ih (o9 + 1) n A met bst lst sm F1 H locs ls (by omega) hn60 hn1 hAl hrow hmet hspec hfr1 hBI hW (lv_sub hl [0, 1, 2, 3, 4, 5] rfl) cont
  have whl : ∀ (r n : Nat) (A : Nat → Nat) (ln : Nat → Int64) (met : Nat → Bool) (sm : Int64) (F1 : gF) (H : Heap) (locs : List Loc) (ls : Array Slot), n + r = lcP P → 1 ≤ n → SPI P A ln n → sm = sumN ln (n - 1) → (∀ i, i < n → F1 (B 19) i = .int (nI (A i))) → (∀ o, o < 100 → F1 (B 30) o = .int (bI (met o))) → (∀ o, o < 100 → (met o = false ↔ (lvP P o ∧ ∀ q, q < n → A q ≠ o))) → (∀ b i, b ≠ B 19 → b ≠ B 30 → F1 b i = G b i) → gW Γ (gA K sz) s.heap K F1 H locs → lv_has ls 9 [(3, .int (nI n)), (1, .long sm), (0, .ref m9)] → W p l e (gRm 1 0 0) s m args below meth c H locs 0 0 Z (F0 m 79 ls []) := by
    intro r
    induction r with
    | zero =>
      intro n A ln met sm F1 H locs ls hr hn1 hS hsm hrow hmet hspec hfr1 hW hl
      have hf1 : MKf F1 m9 B := hfG.up (fun j _ => hfr1 m9 j (fun z => hk.nm (i := 19) rfl z.symm) (fun z => hk.nm (i := 30) rfl z.symm))
      have k1 : ∀ j, (mKd j).isSome = true → j ≠ 19 → j ≠ 30 → ∀ i, F1 (B j) i = G (B j) i := fun j h1 h2 h3 i => hfr1 _ i (hk.ne h1 rfl h2) (hk.ne h1 rfl h3)
      have hlv : F1 m9 5 = .int (nI (lcP P)) := (hfr1 m9 5 (fun z => hk.nm (i := 19) rfl z.symm) (fun z => hk.nm (i := 30) rfl z.symm)).trans hRG.2.2.2.1
      have hrw : ∀ i p, i < 100 → P i = some p → ∀ a, a < 4 → F1 (B 3) (4 * i + a) = .int (p a) := fun i p hi hp a ha => (k1 3 rfl (by decide) (by decide) _).trans (hRG.2.2.1.2 i p hi hp a ha)
      have hnl : n = lcP P := by omega
      refine lv_iload_n hx hb dX7_span_79 rfl (lv_at hl 0 rfl) ?_
      refine lv_if_le (tgt := 209) hx hb dX7_span_80 (by decide) (fun y1 => ?_) (fun y1 => ?_)
      · have y1 : n = 0 := (nI_le0 (by omega)).mp y1
        exact absurd y1 (by omega)
      · have y1 : 0 < n := Nat.pos_of_ne_zero (fun z => y1 ((nI_le0 (by omega)).mpr z))
        refine lv_iload_n hx hb dX7_span_83 rfl (lv_at hl 0 rfl) ?_
        refine lv_aload_n hx hb dX7_span_84 rfl (lv_at hl 2 rfl) ?_
        refine g_get (C := RX7) (T := TX7) (N := 31) hx hb hts hi7 hown hN hW.1 hk.1 rfl (by decide) 5 (by decide) hfX7_125 (v := .int (nI (lcP P))) hlv dX7_span_85 ?_
        refine lv_icmp_ge (tgt := 209) hx hb dX7_span_88 (by decide) (fun y2 => ?_) (fun y2 => ?_)
        · have y2 : (lcP P) ≤ n := (nI_leI (by omega) (by omega)).mp y2
          exact fin sm F1 H locs ls ⟨A, ln, by rw [← hnl]; exact hS, by rw [← hnl]; exact hsm⟩ hfr1 hW (lv_sub hl [1, 2] rfl)
        · have y2 : n < (lcP P) := Nat.not_le.mp (fun z => y2 ((nI_leI (by omega) (by omega)).mpr z))
          exact absurd y2 (by omega)
    | succ r ih =>
      intro n A ln met sm F1 H locs ls hr hn1 hS hsm hrow hmet hspec hfr1 hW hl
      have hf1 : MKf F1 m9 B := hfG.up (fun j _ => hfr1 m9 j (fun z => hk.nm (i := 19) rfl z.symm) (fun z => hk.nm (i := 30) rfl z.symm))
      have k1 : ∀ j, (mKd j).isSome = true → j ≠ 19 → j ≠ 30 → ∀ i, F1 (B j) i = G (B j) i := fun j h1 h2 h3 i => hfr1 _ i (hk.ne h1 rfl h2) (hk.ne h1 rfl h3)
      have hlv : F1 m9 5 = .int (nI (lcP P)) := (hfr1 m9 5 (fun z => hk.nm (i := 19) rfl z.symm) (fun z => hk.nm (i := 30) rfl z.symm)).trans hRG.2.2.2.1
      have hrw : ∀ i p, i < 100 → P i = some p → ∀ a, a < 4 → F1 (B 3) (4 * i + a) = .int (p a) := fun i p hi hp a ha => (k1 3 rfl (by decide) (by decide) _).trans (hRG.2.2.1.2 i p hi hp a ha)
      refine lv_iload_n hx hb dX7_span_79 rfl (lv_at hl 0 rfl) ?_
      refine lv_if_le (tgt := 209) hx hb dX7_span_80 (by decide) (fun y1 => ?_) (fun y1 => ?_)
      · have y1 : n = 0 := (nI_le0 (by omega)).mp y1
        exact absurd y1 (by omega)
      · have y1 : 0 < n := Nat.pos_of_ne_zero (fun z => y1 ((nI_le0 (by omega)).mpr z))
        refine lv_iload_n hx hb dX7_span_83 rfl (lv_at hl 0 rfl) ?_
        refine lv_aload_n hx hb dX7_span_84 rfl (lv_at hl 2 rfl) ?_
        refine g_get (C := RX7) (T := TX7) (N := 31) hx hb hts hi7 hown hN hW.1 hk.1 rfl (by decide) 5 (by decide) hfX7_125 (v := .int (nI (lcP P))) hlv dX7_span_85 ?_
        refine lv_icmp_ge (tgt := 209) hx hb dX7_span_88 (by decide) (fun y2 => ?_) (fun y2 => ?_)
        · have y2 : (lcP P) ≤ n := (nI_leI (by omega) (by omega)).mp y2
          exact absurd y2 (by omega)
        · have y2 : n < (lcP P) := Nat.not_le.mp (fun z => y2 ((nI_leI (by omega) (by omega)).mpr z))
          refine lv_iconst (v := (-1)) hx hb dX7_span_91 (by decide) ?_
          refine lv_istore (lv' := [(4, .int (-1)), (3, .int (nI n)), (1, .long sm), (0, .ref m9)]) hx hb dX7_span_92 hl (by decide) rfl (fun ls hl => ?_)
          refine lv_lconst (v := 0) hx hb dX7_span_94 (by decide) ?_
          refine lv_lstore (lv' := [(5, .long 0), (4, .int (-1)), (3, .int (nI n)), (1, .long sm), (0, .ref m9)]) hx hb dX7_span_95 hl (by decide) rfl (fun ls hl => ?_)
          refine lv_iconst (v := nI 0) hx hb dX7_span_97 (by decide) ?_
          refine lv_istore (lv' := [(7, .int (nI 0)), (5, .long 0), (4, .int (-1)), (3, .int (nI n)), (1, .long sm), (0, .ref m9)]) hx hb dX7_span_98 hl (by decide) rfl (fun ls hl => ?_)
          refine mid 100 0 n A met (-1) 0 sm F1 H locs ls rfl (by omega) hn1 hS.1 hrow hmet hspec hfr1 (Or.inl ⟨rfl, fun o a h1 h2 h3 h4 => by omega⟩) hW (lv_sub hl [0, 1, 2, 3, 4, 5] rfl) (fun bst lst ls hBI hl => ?_)
          obtain ⟨y, hy1, hy2⟩ := SPI_more hS (by omega)
          obtain ⟨b, a0, g1, g2, g3, g4, g5, g6⟩ : ∃ b a0, bst = nI b ∧ b < 100 ∧ met b = false ∧ a0 < n ∧ lst = DI P (A a0) b ∧ ∀ o a, o < 100 → met o = false → a < n → (o < 100 ∨ (o = 100 ∧ a < 0)) → lst ≤ DI P (A a) o := by
            rcases hBI with ⟨_, g2⟩ | h
            · exact (g2 y 0 hy1.1 ((hspec y hy1.1).mpr ⟨hy1, hy2⟩) hn1 (Or.inl hy1.1)).elim
            · exact h
          subst g1
          have hbs := (hspec b g2).mp g3
          refine lv_aload_n hx hb dX7_span_182 rfl (lv_at hl 4 rfl) ?_
          refine g_get (C := RX7) (T := TX7) (N := 31) hx hb hts hi7 hown hN hW.1 hk.1 rfl (by decide) 30 (by decide) hfX7_82 (v := .ref (B 30)) (hf1 30 rfl) dX7_span_183 ?_
          refine lv_iload hx hb dX7_span_186 (lv_at hl 1 rfl) ?_
          refine lv_iconst (v := nI 1) hx hb dX7_span_188 (by decide) ?_
          refine g_zast (j := b) hx hb hN hW (hk.2.1 30 (10, 100) rfl) (by decide) rfl (show _ = nI b from rfl) (by omega) dX7_span_189 (fun H locs hW => ?_)
          refine lv_aload_n hx hb dX7_span_190 rfl (lv_at hl 4 rfl) ?_
          refine g_get (C := RX7) (T := TX7) (N := 31) hx hb hts hi7 hown hN hW.1 hk.1 rfl (by decide) 19 (by decide) hfX7_54 (v := .ref (B 19)) ((gU_a (Ne.symm (hk.nm (i := 30) rfl))).trans (hf1 19 rfl)) dX7_span_191 ?_
          refine lv_iload_n hx hb dX7_span_194 rfl (lv_at hl 2 rfl) ?_
          refine lv_iload hx hb dX7_span_195 (lv_at hl 1 rfl) ?_
          refine g_iast (j := n) hx hb hN hW (hk.2.1 19 (8, 100) rfl) (by decide) (show _ = nI n from rfl) (by omega) dX7_span_197 (fun H locs hW => ?_)
          refine lv_iinc (v := nI (n + 1)) (lv' := [(3, .int (nI (n + 1))), (5, .long lst), (4, .int (nI b)), (1, .long sm), (0, .ref m9)]) hx hb dX7_span_198 hl (k := 2) rfl (inc1 _) (by decide) rfl (fun ls hl => ?_)
          refine lv_lload_n hx hb dX7_span_201 rfl (lv_at hl 3 rfl) ?_
          refine lv_lload hx hb dX7_span_202 (lv_at hl 1 rfl) ?_
          refine lv_ladd hx hb dX7_span_204 ?_
          refine lv_lstore_n (lv' := [(1, .long (sm + lst)), (3, .int (nI (n + 1))), (5, .long lst), (4, .int (nI b)), (0, .ref m9)]) hx hb dX7_span_205 rfl hl (by decide) rfl (fun ls hl => ?_)
          refine lv_goto (tgt := 79) hx hb dX7_span_206 (by decide) ?_
          refine ih (n + 1) (va_up A n b) (va_up ln n lst) (va_up met b true) (sm + lst) _ H locs ls (by omega) (by omega) (SPI_next hS hbs.1 hbs.2 g4 g5 (fun a y ha hy hq => g6 y a hy.1 ((hspec y hy.1).mpr ⟨hy, hq⟩) ha (Or.inl hy.1))) (by rw [sumN_next ln n lst hn1, hsm]) (fun i hi => ?_) (fun o ho => ?_) (fun o ho => ?_) (fun b i h1 h2 => by rw [gU_a h1, gU_a h2]; exact hfr1 b i h1 h2) hW (lv_sub hl [1, 0, 4] rfl)
          · by_cases e : i = n
            · rw [e, gU_self, va_up_self]
            · rw [gU_k e, gU_a (hk.ne (i := 19) (j := 30) rfl rfl (by decide)), va_up_ne _ _ e]; exact hrow i (by omega)
          · rw [gU_a (hk.ne (i := 30) (j := 19) rfl rfl (by decide))]
            by_cases e : o = b
            · rw [e, gU_self, va_up_self]; rfl
            · rw [gU_k e, va_up_ne _ _ e]; exact hmet o ho
          · by_cases e : o = b
            · rw [e, va_up_self]
              exact ⟨fun z => (by cases z), fun z => absurd (va_up_self _ _ _) (z.2 n (by omega))⟩
            · rw [va_up_ne _ _ e, hspec o ho]
              refine ⟨fun z => ⟨z.1, fun q hq => ?_⟩, fun z => ⟨z.1, fun q hq => ?_⟩⟩
              · by_cases e2 : q = n
                · rw [e2, va_up_self]; exact fun z => e z.symm
                · rw [va_up_ne _ _ e2]; exact z.2 q (by omega)
              · have := z.2 q (by omega)
                rw [va_up_ne _ _ (by omega)] at this
                exact this
  have sec : ∀ (r k9 f : Nat) (F1 : gF) (H : Heap) (locs : List Loc) (ls : Array Slot), k9 + r = 100 → f < k9 → lvP P f → F1 (B 19) 0 = .int (nI f) → (∀ o, o < k9 → F1 (B 30) o = .int (bI (!(P o).isSome || decide (o = f)))) → (∀ b i, b ≠ B 19 → b ≠ B 30 → F1 b i = G b i) → gW Γ (gA K sz) s.heap K F1 H locs → lv_has ls 9 [(4, .int (nI k9)), (3, .int (nI 1)), (1, .long 0), (0, .ref m9)] → W p l e (gRm 1 0 0) s m args below meth c H locs 0 0 Z (F0 m 12 ls []) := by
    intro r
    induction r with
    | zero =>
      intro k9 f F1 H locs ls hr hfk hf9 h19 hmet hfr1 hW hl
      have hf1 : MKf F1 m9 B := hfG.up (fun j _ => hfr1 m9 j (fun z => hk.nm (i := 19) rfl z.symm) (fun z => hk.nm (i := 30) rfl z.symm))
      have k1 : ∀ j, (mKd j).isSome = true → j ≠ 19 → j ≠ 30 → ∀ i, F1 (B j) i = G (B j) i := fun j h1 h2 h3 i => hfr1 _ i (hk.ne h1 rfl h2) (hk.ne h1 rfl h3)
      have hlv : F1 m9 5 = .int (nI (lcP P)) := (hfr1 m9 5 (fun z => hk.nm (i := 19) rfl z.symm) (fun z => hk.nm (i := 30) rfl z.symm)).trans hRG.2.2.2.1
      have hrw : ∀ i p, i < 100 → P i = some p → ∀ a, a < 4 → F1 (B 3) (4 * i + a) = .int (p a) := fun i p hi hp a ha => (k1 3 rfl (by decide) (by decide) _).trans (hRG.2.2.1.2 i p hi hp a ha)
      obtain rfl : k9 = 100 := by omega
      refine lv_iload hx hb dX7_span_12 (lv_at hl 0 rfl) ?_
      refine lv_bipush (v := nI 100) hx hb dX7_span_14 (by decide) ?_
      refine lv_icmp_ge (tgt := 79) hx hb dX7_span_16 (by decide) (fun y1 => ?_) (fun y1 => ?_)
      · have y1 : 100 ≤ 100 := (nI_leI (by omega) (by omega)).mp y1
        have hS1 : SPI P (fun _ => f) (fun _ => 0) 1 := ⟨fun i _ => hf9, fun i j hi hj _ => by omega, fun i i1 i2 => by omega⟩
        have h1l := SPI_le hS1
        refine whl (lcP P - 1) 1 (fun _ => f) (fun _ => 0) (fun o => !(P o).isSome || decide (o = f)) 0 F1 H locs ls (by omega) (Nat.le_refl _) hS1 rfl (fun i hi => by rw [show i = 0 by omega]; exact h19) hmet (fun o ho => ?_) hfr1 hW (lv_sub hl [1, 2, 3] rfl)
        show (!(P o).isSome || decide (o = f)) = false ↔ _
        constructor
        · intro h
          have h : (P o).isSome = true ∧ ¬ o = f := by simpa using h
          exact ⟨⟨ho, Option.isSome_iff_exists.mp h.1⟩, fun q _ e => h.2 e.symm⟩
        · intro h
          obtain ⟨_, p, hp⟩ := h.1
          rw [hp, decide_eq_false (fun e => h.2 0 (by omega) e.symm)]
          rfl
      · have y1 : 100 < 100 := Nat.not_le.mp (fun z => y1 ((nI_leI (by omega) (by omega)).mpr z))
        exact absurd y1 (by decide)
    | succ r ih =>
      intro k9 f F1 H locs ls hr hfk hf9 h19 hmet hfr1 hW hl
      have hf1 : MKf F1 m9 B := hfG.up (fun j _ => hfr1 m9 j (fun z => hk.nm (i := 19) rfl z.symm) (fun z => hk.nm (i := 30) rfl z.symm))
      have k1 : ∀ j, (mKd j).isSome = true → j ≠ 19 → j ≠ 30 → ∀ i, F1 (B j) i = G (B j) i := fun j h1 h2 h3 i => hfr1 _ i (hk.ne h1 rfl h2) (hk.ne h1 rfl h3)
      have hlv : F1 m9 5 = .int (nI (lcP P)) := (hfr1 m9 5 (fun z => hk.nm (i := 19) rfl z.symm) (fun z => hk.nm (i := 30) rfl z.symm)).trans hRG.2.2.2.1
      have hrw : ∀ i p, i < 100 → P i = some p → ∀ a, a < 4 → F1 (B 3) (4 * i + a) = .int (p a) := fun i p hi hp a ha => (k1 3 rfl (by decide) (by decide) _).trans (hRG.2.2.1.2 i p hi hp a ha)
      refine lv_iload hx hb dX7_span_12 (lv_at hl 0 rfl) ?_
      refine lv_bipush (v := nI 100) hx hb dX7_span_14 (by decide) ?_
      refine lv_icmp_ge (tgt := 79) hx hb dX7_span_16 (by decide) (fun y1 => ?_) (fun y1 => ?_)
      · have y1 : 100 ≤ k9 := (nI_leI (by omega) (by omega)).mp y1
        exact absurd y1 (by omega)
      · have y1 : k9 < 100 := Nat.not_le.mp (fun z => y1 ((nI_leI (by omega) (by omega)).mpr z))
        refine lv_aload_n hx hb dX7_span_19 rfl (lv_at hl 3 rfl) ?_
        refine g_get (C := RX7) (T := TX7) (N := 31) hx hb hts hi7 hown hN hW.1 hk.1 rfl (by decide) 30 (by decide) hfX7_82 (v := .ref (B 30)) (hf1 30 rfl) dX7_span_20 ?_
        refine lv_iload hx hb dX7_span_23 (lv_at hl 0 rfl) ?_
        refine lv_aload_n hx hb dX7_span_25 rfl (lv_at hl 3 rfl) ?_
        refine g_get (C := RX7) (T := TX7) (N := 31) hx hb hts hi7 hown hN hW.1 hk.1 rfl (by decide) 2 (by decide) hfX7_13 (v := .ref (B 2)) (hf1 2 rfl) dX7_span_26 ?_
        refine lv_iload hx hb dX7_span_29 (lv_at hl 0 rfl) ?_
        refine g_zald (j := k9) hx hb hN hW.1 (hk.2.1 2 (10, 100) rfl) (by decide) (show _ = nI k9 from rfl) (by omega) (v := .int (bI (P k9).isSome)) ((k1 2 rfl (by decide) (by decide) k9).trans (hRG.2.2.1.1 k9 (by omega))) dX7_span_31 ?_
        refine lv_if_ne (tgt := 39) hx hb dX7_span_32 (by decide) (fun y2 => ?_) (fun y2 => ?_)
        · have y2 : (P k9).isSome = true := bI_n0.mp y2
          refine lv_iconst (v := nI 0) hx hb dX7_span_39 (by decide) ?_
          refine g_zast (j := k9) hx hb hN hW (hk.2.1 30 (10, 100) rfl) (by decide) rfl (show _ = nI k9 from rfl) (by omega) dX7_span_40 (fun H locs hW => ?_)
          refine lv_aload_n hx hb dX7_span_41 rfl (lv_at hl 3 rfl) ?_
          refine g_get (C := RX7) (T := TX7) (N := 31) hx hb hts hi7 hown hN hW.1 hk.1 rfl (by decide) 2 (by decide) hfX7_13 (v := .ref (B 2)) ((gU_a (Ne.symm (hk.nm (i := 30) rfl))).trans (hf1 2 rfl)) dX7_span_42 ?_
          refine lv_iload hx hb dX7_span_45 (lv_at hl 0 rfl) ?_
          refine g_zald (j := k9) hx hb hN hW.1 (hk.2.1 2 (10, 100) rfl) (by decide) (show _ = nI k9 from rfl) (by omega) (v := .int (bI (P k9).isSome)) ((gU_a (hk.ne (i := 2) (j := 30) rfl rfl (by decide))).trans ((k1 2 rfl (by decide) (by decide) k9).trans (hRG.2.2.1.1 k9 (by omega)))) dX7_span_47 ?_
          refine lv_if_eq (tgt := 73) hx hb dX7_span_48 (by decide) (fun y3 => ?_) (fun y3 => ?_)
          · have y3 : (P k9).isSome = false := bI_0.mp y3
            rw [y2] at y3; cases y3
          · have y3 : (P k9).isSome = true := bI_n0.mp y3
            refine lv_iload_n hx hb dX7_span_51 rfl (lv_at hl 1 rfl) ?_
            refine lv_if_ne (tgt := 73) hx hb dX7_span_52 (by decide) (fun y4 => ?_) (fun y4 => ?_)
            · have y4 : ¬ 1 = 0 := fun z => y4 ((nI_eq0 (by omega)).mpr z)
              refine lv_iinc (v := nI (k9 + 1)) (lv' := [(4, .int (nI (k9 + 1))), (3, .int (nI 1)), (1, .long 0), (0, .ref m9)]) hx hb dX7_span_73 hl (k := 0) rfl (inc1 _) (by decide) rfl (fun ls hl => ?_)
              refine lv_goto (tgt := 12) hx hb dX7_span_76 (by decide) ?_
              exact ih (k9 + 1) f _ H locs ls (by omega) (by omega) hf9 (by rw [gU_a (hk.ne (i := 19) (j := 30) rfl rfl (by decide))]; exact h19) (fun o ho => by
                by_cases e : o = k9
                · rw [e, gU_self, y2, decide_eq_false (by omega)]; rfl
                · rw [gU_k e]; exact hmet o (by omega)) (fun b i h1 h2 => by rw [gU_a h2]; exact hfr1 b i h1 h2) hW (lv_sub hl [0, 1, 2, 3] rfl)
            · have y4 : 1 = 0 := (nI_eq0 (by omega)).mp y4
              exact absurd y4 (by decide)
        · have y2 : (P k9).isSome = false := bI_0.mp y2
          refine lv_iconst (v := nI 1) hx hb dX7_span_35 (by decide) ?_
          refine lv_goto (tgt := 40) hx hb dX7_span_36 (by decide) ?_
          refine g_zast (j := k9) hx hb hN hW (hk.2.1 30 (10, 100) rfl) (by decide) rfl (show _ = nI k9 from rfl) (by omega) dX7_span_40 (fun H locs hW => ?_)
          refine lv_aload_n hx hb dX7_span_41 rfl (lv_at hl 3 rfl) ?_
          refine g_get (C := RX7) (T := TX7) (N := 31) hx hb hts hi7 hown hN hW.1 hk.1 rfl (by decide) 2 (by decide) hfX7_13 (v := .ref (B 2)) ((gU_a (Ne.symm (hk.nm (i := 30) rfl))).trans (hf1 2 rfl)) dX7_span_42 ?_
          refine lv_iload hx hb dX7_span_45 (lv_at hl 0 rfl) ?_
          refine g_zald (j := k9) hx hb hN hW.1 (hk.2.1 2 (10, 100) rfl) (by decide) (show _ = nI k9 from rfl) (by omega) (v := .int (bI (P k9).isSome)) ((gU_a (hk.ne (i := 2) (j := 30) rfl rfl (by decide))).trans ((k1 2 rfl (by decide) (by decide) k9).trans (hRG.2.2.1.1 k9 (by omega)))) dX7_span_47 ?_
          refine lv_if_eq (tgt := 73) hx hb dX7_span_48 (by decide) (fun y3 => ?_) (fun y3 => ?_)
          · have y3 : (P k9).isSome = false := bI_0.mp y3
            refine lv_iinc (v := nI (k9 + 1)) (lv' := [(4, .int (nI (k9 + 1))), (3, .int (nI 1)), (1, .long 0), (0, .ref m9)]) hx hb dX7_span_73 hl (k := 0) rfl (inc1 _) (by decide) rfl (fun ls hl => ?_)
            refine lv_goto (tgt := 12) hx hb dX7_span_76 (by decide) ?_
            exact ih (k9 + 1) f _ H locs ls (by omega) (by omega) hf9 (by rw [gU_a (hk.ne (i := 19) (j := 30) rfl rfl (by decide))]; exact h19) (fun o ho => by
              by_cases e : o = k9
              · rw [e, gU_self, y2, decide_eq_false (by omega)]; rfl
              · rw [gU_k e]; exact hmet o (by omega)) (fun b i h1 h2 => by rw [gU_a h2]; exact hfr1 b i h1 h2) hW (lv_sub hl [0, 1, 2, 3] rfl)
          · have y3 : (P k9).isSome = true := bI_n0.mp y3
            rw [y2] at y3; cases y3
  have fst : ∀ (r k9 : Nat) (F1 : gF) (H : Heap) (locs : List Loc) (ls : Array Slot), k9 + r = 100 → (∀ o, o < k9 → P o = none ∧ F1 (B 30) o = .int (bI true)) → (∀ b i, b ≠ B 19 → b ≠ B 30 → F1 b i = G b i) → gW Γ (gA K sz) s.heap K F1 H locs → lv_has ls 9 [(4, .int (nI k9)), (3, .int (nI 0)), (1, .long 0), (0, .ref m9)] → W p l e (gRm 1 0 0) s m args below meth c H locs 0 0 Z (F0 m 12 ls []) := by
    intro r
    induction r with
    | zero =>
      intro k9 F1 H locs ls hr hmet hfr1 hW hl
      have hf1 : MKf F1 m9 B := hfG.up (fun j _ => hfr1 m9 j (fun z => hk.nm (i := 19) rfl z.symm) (fun z => hk.nm (i := 30) rfl z.symm))
      have k1 : ∀ j, (mKd j).isSome = true → j ≠ 19 → j ≠ 30 → ∀ i, F1 (B j) i = G (B j) i := fun j h1 h2 h3 i => hfr1 _ i (hk.ne h1 rfl h2) (hk.ne h1 rfl h3)
      have hlv : F1 m9 5 = .int (nI (lcP P)) := (hfr1 m9 5 (fun z => hk.nm (i := 19) rfl z.symm) (fun z => hk.nm (i := 30) rfl z.symm)).trans hRG.2.2.2.1
      have hrw : ∀ i p, i < 100 → P i = some p → ∀ a, a < 4 → F1 (B 3) (4 * i + a) = .int (p a) := fun i p hi hp a ha => (k1 3 rfl (by decide) (by decide) _).trans (hRG.2.2.1.2 i p hi hp a ha)
      obtain rfl : k9 = 100 := by omega
      refine lv_iload hx hb dX7_span_12 (lv_at hl 0 rfl) ?_
      refine lv_bipush (v := nI 100) hx hb dX7_span_14 (by decide) ?_
      refine lv_icmp_ge (tgt := 79) hx hb dX7_span_16 (by decide) (fun y1 => ?_) (fun y1 => ?_)
      · have y1 : 100 ≤ 100 := (nI_leI (by omega) (by omega)).mp y1
        refine lv_iload_n hx hb dX7_span_79 rfl (lv_at hl 1 rfl) ?_
        refine lv_if_le (tgt := 209) hx hb dX7_span_80 (by decide) (fun y4 => ?_) (fun y4 => ?_)
        · have y4 : 0 = 0 := (nI_le0 (by omega)).mp y4
          have hl0 : lcP P = 0 := by
            have q1 : lvI P = [] := by
              refine List.eq_nil_iff_forall_not_mem.mpr (fun x hx9 => ?_)
              obtain ⟨h1, p, hp⟩ := lvI_mem.mp hx9
              rw [(hmet x h1).1] at hp
              cases hp
            rw [← lvI_len, q1]; rfl
          exact fin 0 F1 H locs ls ⟨fun _ => 0, fun _ => 0, by rw [hl0]; exact ⟨fun i hi => absurd hi (Nat.not_lt_zero _), fun i j hi => absurd hi (Nat.not_lt_zero _), fun i i1 i2 => absurd i2 (Nat.not_lt_zero _)⟩, by rw [hl0]; rfl⟩ hfr1 hW (lv_sub hl [2, 3] rfl)
        · have y4 : 0 < 0 := Nat.pos_of_ne_zero (fun z => y4 ((nI_le0 (by omega)).mpr z))
          exact absurd y4 (by decide)
      · have y1 : 100 < 100 := Nat.not_le.mp (fun z => y1 ((nI_leI (by omega) (by omega)).mpr z))
        exact absurd y1 (by decide)
    | succ r ih =>
      intro k9 F1 H locs ls hr hmet hfr1 hW hl
      have hf1 : MKf F1 m9 B := hfG.up (fun j _ => hfr1 m9 j (fun z => hk.nm (i := 19) rfl z.symm) (fun z => hk.nm (i := 30) rfl z.symm))
      have k1 : ∀ j, (mKd j).isSome = true → j ≠ 19 → j ≠ 30 → ∀ i, F1 (B j) i = G (B j) i := fun j h1 h2 h3 i => hfr1 _ i (hk.ne h1 rfl h2) (hk.ne h1 rfl h3)
      have hlv : F1 m9 5 = .int (nI (lcP P)) := (hfr1 m9 5 (fun z => hk.nm (i := 19) rfl z.symm) (fun z => hk.nm (i := 30) rfl z.symm)).trans hRG.2.2.2.1
      have hrw : ∀ i p, i < 100 → P i = some p → ∀ a, a < 4 → F1 (B 3) (4 * i + a) = .int (p a) := fun i p hi hp a ha => (k1 3 rfl (by decide) (by decide) _).trans (hRG.2.2.1.2 i p hi hp a ha)
      refine lv_iload hx hb dX7_span_12 (lv_at hl 0 rfl) ?_
      refine lv_bipush (v := nI 100) hx hb dX7_span_14 (by decide) ?_
      refine lv_icmp_ge (tgt := 79) hx hb dX7_span_16 (by decide) (fun y1 => ?_) (fun y1 => ?_)
      · have y1 : 100 ≤ k9 := (nI_leI (by omega) (by omega)).mp y1
        exact absurd y1 (by omega)
      · have y1 : k9 < 100 := Nat.not_le.mp (fun z => y1 ((nI_leI (by omega) (by omega)).mpr z))
        refine lv_aload_n hx hb dX7_span_19 rfl (lv_at hl 3 rfl) ?_
        refine g_get (C := RX7) (T := TX7) (N := 31) hx hb hts hi7 hown hN hW.1 hk.1 rfl (by decide) 30 (by decide) hfX7_82 (v := .ref (B 30)) (hf1 30 rfl) dX7_span_20 ?_
        refine lv_iload hx hb dX7_span_23 (lv_at hl 0 rfl) ?_
        refine lv_aload_n hx hb dX7_span_25 rfl (lv_at hl 3 rfl) ?_
        refine g_get (C := RX7) (T := TX7) (N := 31) hx hb hts hi7 hown hN hW.1 hk.1 rfl (by decide) 2 (by decide) hfX7_13 (v := .ref (B 2)) (hf1 2 rfl) dX7_span_26 ?_
        refine lv_iload hx hb dX7_span_29 (lv_at hl 0 rfl) ?_
        refine g_zald (j := k9) hx hb hN hW.1 (hk.2.1 2 (10, 100) rfl) (by decide) (show _ = nI k9 from rfl) (by omega) (v := .int (bI (P k9).isSome)) ((k1 2 rfl (by decide) (by decide) k9).trans (hRG.2.2.1.1 k9 (by omega))) dX7_span_31 ?_
        refine lv_if_ne (tgt := 39) hx hb dX7_span_32 (by decide) (fun y2 => ?_) (fun y2 => ?_)
        · have y2 : (P k9).isSome = true := bI_n0.mp y2
          refine lv_iconst (v := nI 0) hx hb dX7_span_39 (by decide) ?_
          refine g_zast (j := k9) hx hb hN hW (hk.2.1 30 (10, 100) rfl) (by decide) rfl (show _ = nI k9 from rfl) (by omega) dX7_span_40 (fun H locs hW => ?_)
          refine lv_aload_n hx hb dX7_span_41 rfl (lv_at hl 3 rfl) ?_
          refine g_get (C := RX7) (T := TX7) (N := 31) hx hb hts hi7 hown hN hW.1 hk.1 rfl (by decide) 2 (by decide) hfX7_13 (v := .ref (B 2)) ((gU_a (Ne.symm (hk.nm (i := 30) rfl))).trans (hf1 2 rfl)) dX7_span_42 ?_
          refine lv_iload hx hb dX7_span_45 (lv_at hl 0 rfl) ?_
          refine g_zald (j := k9) hx hb hN hW.1 (hk.2.1 2 (10, 100) rfl) (by decide) (show _ = nI k9 from rfl) (by omega) (v := .int (bI (P k9).isSome)) ((gU_a (hk.ne (i := 2) (j := 30) rfl rfl (by decide))).trans ((k1 2 rfl (by decide) (by decide) k9).trans (hRG.2.2.1.1 k9 (by omega)))) dX7_span_47 ?_
          refine lv_if_eq (tgt := 73) hx hb dX7_span_48 (by decide) (fun y3 => ?_) (fun y3 => ?_)
          · have y3 : (P k9).isSome = false := bI_0.mp y3
            rw [y2] at y3; cases y3
          · have y3 : (P k9).isSome = true := bI_n0.mp y3
            refine lv_iload_n hx hb dX7_span_51 rfl (lv_at hl 1 rfl) ?_
            refine lv_if_ne (tgt := 73) hx hb dX7_span_52 (by decide) (fun y4 => ?_) (fun y4 => ?_)
            · have y4 : ¬ 0 = 0 := fun z => y4 ((nI_eq0 (by omega)).mpr z)
              exact absurd rfl y4
            · have y4 : 0 = 0 := (nI_eq0 (by omega)).mp y4
              refine lv_aload_n hx hb dX7_span_55 rfl (lv_at hl 3 rfl) ?_
              refine g_get (C := RX7) (T := TX7) (N := 31) hx hb hts hi7 hown hN hW.1 hk.1 rfl (by decide) 19 (by decide) hfX7_54 (v := .ref (B 19)) ((gU_a (Ne.symm (hk.nm (i := 30) rfl))).trans (hf1 19 rfl)) dX7_span_56 ?_
              refine lv_iconst (v := nI 0) hx hb dX7_span_59 (by decide) ?_
              refine lv_iload hx hb dX7_span_60 (lv_at hl 0 rfl) ?_
              refine g_iast (j := 0) hx hb hN hW (hk.2.1 19 (8, 100) rfl) (by decide) (show _ = nI 0 from rfl) (by decide) dX7_span_62 (fun H locs hW => ?_)
              refine lv_aload_n hx hb dX7_span_63 rfl (lv_at hl 3 rfl) ?_
              refine g_get (C := RX7) (T := TX7) (N := 31) hx hb hts hi7 hown hN hW.1 hk.1 rfl (by decide) 30 (by decide) hfX7_82 (v := .ref (B 30)) ((gU_a (Ne.symm (hk.nm (i := 19) rfl))).trans ((gU_a (Ne.symm (hk.nm (i := 30) rfl))).trans (hf1 30 rfl))) dX7_span_64 ?_
              refine lv_iload hx hb dX7_span_67 (lv_at hl 0 rfl) ?_
              refine lv_iconst (v := nI 1) hx hb dX7_span_69 (by decide) ?_
              refine g_zast (j := k9) hx hb hN hW (hk.2.1 30 (10, 100) rfl) (by decide) rfl (show _ = nI k9 from rfl) (by omega) dX7_span_70 (fun H locs hW => ?_)
              refine lv_iconst (v := nI 1) hx hb dX7_span_71 (by decide) ?_
              refine lv_istore_n (lv' := [(3, .int (nI 1)), (4, .int (nI k9)), (1, .long 0), (0, .ref m9)]) hx hb dX7_span_72 rfl hl (by decide) rfl (fun ls hl => ?_)
              refine lv_iinc (v := nI (k9 + 1)) (lv' := [(4, .int (nI (k9 + 1))), (3, .int (nI 1)), (1, .long 0), (0, .ref m9)]) hx hb dX7_span_73 hl (k := 1) rfl (inc1 _) (by decide) rfl (fun ls hl => ?_)
              refine lv_goto (tgt := 12) hx hb dX7_span_76 (by decide) ?_
              obtain ⟨p9, hp9⟩ := Option.isSome_iff_exists.mp y2
              exact sec r (k9 + 1) k9 _ H locs ls (by omega) (by omega) ⟨by omega, p9, hp9⟩ (by rw [gU_a (hk.ne (i := 19) (j := 30) rfl rfl (by decide)), gU_self]) (fun o ho => by
                by_cases e : o = k9
                · rw [e, gU_self, decide_eq_true rfl, Bool.or_true]; rfl
                · rw [gU_k e, gU_a (hk.ne (i := 30) (j := 19) rfl rfl (by decide)), gU_k e, (hmet o (by omega)).1, (hmet o (by omega)).2]; rfl) (fun b i h1 h2 => by rw [gU_a h2, gU_a h1, gU_a h2]; exact hfr1 b i h1 h2) hW (lv_sub hl [0, 1, 2, 3] rfl)
        · have y2 : (P k9).isSome = false := bI_0.mp y2
          refine lv_iconst (v := nI 1) hx hb dX7_span_35 (by decide) ?_
          refine lv_goto (tgt := 40) hx hb dX7_span_36 (by decide) ?_
          refine g_zast (j := k9) hx hb hN hW (hk.2.1 30 (10, 100) rfl) (by decide) rfl (show _ = nI k9 from rfl) (by omega) dX7_span_40 (fun H locs hW => ?_)
          refine lv_aload_n hx hb dX7_span_41 rfl (lv_at hl 3 rfl) ?_
          refine g_get (C := RX7) (T := TX7) (N := 31) hx hb hts hi7 hown hN hW.1 hk.1 rfl (by decide) 2 (by decide) hfX7_13 (v := .ref (B 2)) ((gU_a (Ne.symm (hk.nm (i := 30) rfl))).trans (hf1 2 rfl)) dX7_span_42 ?_
          refine lv_iload hx hb dX7_span_45 (lv_at hl 0 rfl) ?_
          refine g_zald (j := k9) hx hb hN hW.1 (hk.2.1 2 (10, 100) rfl) (by decide) (show _ = nI k9 from rfl) (by omega) (v := .int (bI (P k9).isSome)) ((gU_a (hk.ne (i := 2) (j := 30) rfl rfl (by decide))).trans ((k1 2 rfl (by decide) (by decide) k9).trans (hRG.2.2.1.1 k9 (by omega)))) dX7_span_47 ?_
          refine lv_if_eq (tgt := 73) hx hb dX7_span_48 (by decide) (fun y3 => ?_) (fun y3 => ?_)
          · have y3 : (P k9).isSome = false := bI_0.mp y3
            refine lv_iinc (v := nI (k9 + 1)) (lv' := [(4, .int (nI (k9 + 1))), (3, .int (nI 0)), (1, .long 0), (0, .ref m9)]) hx hb dX7_span_73 hl (k := 0) rfl (inc1 _) (by decide) rfl (fun ls hl => ?_)
            refine lv_goto (tgt := 12) hx hb dX7_span_76 (by decide) ?_
            exact ih (k9 + 1) _ H locs ls (by omega) (fun o ho => by
              by_cases e : o = k9
              · rw [e]; exact ⟨Option.not_isSome_iff_eq_none.mp (by rw [y2]; decide), by rw [gU_self]; rfl⟩
              · exact ⟨(hmet o (by omega)).1, by rw [gU_k e]; exact (hmet o (by omega)).2⟩) (fun b i h1 h2 => by rw [gU_a h2]; exact hfr1 b i h1 h2) hW (lv_sub hl [0, 1, 2, 3] rfl)
          · have y3 : (P k9).isSome = true := bI_n0.mp y3
            rw [y2] at y3; cases y3
  exact fst 100 0 G H locs ls rfl (fun o ho => absurd ho (Nat.not_lt_zero _)) (fun _ _ _ _ => rfl) hW (lv_sub hl [0, 1, 2, 3] rfl)
