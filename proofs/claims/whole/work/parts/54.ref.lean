theorem nodup_sub_len : ∀ (l U : List Nat), l.Nodup → (∀ x ∈ l, x ∈ U) → l.length ≤ U.length
  | [], _, _, _ => Nat.zero_le _
  | a :: l, U, hn, hs => by
    have ha := hs a List.mem_cons_self
    have hn := List.nodup_cons.mp hn
    have ih := nodup_sub_len l (U.erase a) hn.2 (fun x hx => (List.mem_erase_of_ne (show x ≠ a from fun e => hn.1 (e ▸ hx))).mpr (hs x (List.mem_cons_of_mem _ hx)))
    rw [List.length_erase_of_mem ha] at ih
    have := List.length_pos_of_mem ha
    rw [List.length_cons]
    omega
theorem free_ix (U : List Nat) (h : U.length < 140) : ∃ n, n < 140 ∧ n ∉ U := by
  refine Classical.byContradiction (fun hc => ?_)
  have := nodup_sub_len (List.range 140) U List.nodup_range (fun x hx => Classical.byContradiction (fun hx2 => hc ⟨x, List.mem_range.mp hx, hx2⟩))
  rw [List.length_range] at this
  omega
def frL (J : List Nat) (B : Nat → Nat) (m9 : Nat) (F F' : gF) : Prop := ∀ b i, (∀ j ∈ J, b ≠ B j) → ¬ (b = m9 ∧ i = 13) → F' b i = F b i
theorem frL.trans {J : List Nat} {B : Nat → Nat} {m9 : Nat} {F F1 F2 : gF} (h1 : frL J B m9 F F1) (h2 : frL J B m9 F1 F2) : frL J B m9 F F2 := fun b i a c => (h2 b i a c).trans (h1 b i a c)
theorem frL.mono {J J' : List Nat} {B : Nat → Nat} {m9 : Nat} {F F1 : gF} (hJ : ∀ j ∈ J, j ∈ J') (h1 : frL J B m9 F F1) : frL J' B m9 F F1 := fun b i a c => h1 b i (fun j hj => a j (hJ j hj)) c
theorem frL.at {J : List Nat} {B : Nat → Nat} {m9 q i : Nat} {K : gK} {F F1 : gF} (h : frL J B m9 F F1) (hk : MKk K m9 B) (hq : (mKd q).isSome = true) (hJ : ∀ j ∈ J, (mKd j).isSome = true ∧ q ≠ j) : F1 (B q) i = F (B q) i := h _ i (fun j hj => hk.ne hq (hJ j hj).1 (hJ j hj).2) (fun z => hk.nm hq z.1)
theorem frL.m {J : List Nat} {B : Nat → Nat} {m9 i : Nat} {K : gK} {F F1 : gF} (h : frL J B m9 F F1) (hk : MKk K m9 B) (hi : i ≠ 13) (hJ : ∀ j ∈ J, (mKd j).isSome = true) : F1 m9 i = F m9 i := h _ i (fun j hj z => hk.nm (hJ j hj) z.symm) (fun z => hi z.2)
theorem frL.f {J : List Nat} {B : Nat → Nat} {m9 : Nat} {K : gK} {F F1 : gF} (h : frL J B m9 F F1) (hk : MKk K m9 B) (hJ : ∀ j ∈ J, (mKd j).isSome = true) (hf : MKf F m9 B) : MKf F1 m9 B := hf.up (fun j hj => h.m hk (fun e => by rw [e] at hj; exact absurd hj (by decide)) hJ)
def usL (F : gF) (B : Nat → Nat) (U : List Nat) : Prop := ∀ j, j < 140 → F (B 6) j = .int (bI (decide (j ∈ U)))
theorem usL.set {F : gF} {B : Nat → Nat} {U U' : List Nat} (h : usL F B U) (hU : ∀ j, j ∈ U ↔ j ∈ U') : usL F B U' := fun j hj => by rw [h j hj]; congr 3; exact propext (hU j)
def JB : List Nat := [4, 6, 7, 8, 9, 10, 11, 12, 19, 20, 21, 22, 23]
def sdC (c : cxT mLb) (b : Bool) : Prop := match c with
  | [] => True
  | q :: _ => q.1 = b
theorem kpN_off {F F' : gF} {B : Nat → Nat} {n x : Nat} (hf : ∀ j i, 7 ≤ j → j ≤ 12 → ¬ (j ≠ 8 ∧ i = x) → ¬ (j = 8 ∧ 4 * x ≤ i ∧ i < 4 * x + 4) → F' (B j) i = F (B j) i) (hn : n ≠ x) : kpN F F' B n := fun j i h1 h2 h3 => hf j i h1 h2 (fun z => by
  rcases h3 with h3 | h3
  · exact hn (h3.2.symm.trans z.2)
  · exact z.1 h3.1) (fun z => by
  rcases h3 with h3 | h3
  · exact h3.1 z.1
  · omega)
theorem mKd_7 {j : Nat} (h1 : 7 ≤ j) (h2 : j ≤ 12) : (mKd j).isSome = true := by rcases (show j = 7 ∨ j = 8 ∨ j = 9 ∨ j = 10 ∨ j = 11 ∨ j = 12 by omega) with rfl | rfl | rfl | rfl | rfl | rfl <;> rfl
theorem m_hangC (l : Launch) (Γ : gG) (K : gK) (F : gF) (sz : Nat) (m9 : Nat) (B : Nat → Nat) (hk : MKk K m9 B) (hf : MKf F m9 B) (c : cxT mLb) (r0 r1 : Option Nat) (b9 : Bool) (hb9 : sdC c b9) (hC : CX F B m9 c r0) (hn : (ixC c).Nodup) : gMM l yX7_hang wsX7_hang 0 0 0 Γ K F sz [.ref m9, .int (oI r1), .int (oI (cTI c)), .int (bI b9)] (fun v K' F' => v = none ∧ K' = K ∧ CX F' B m9 c r1 ∧ ∀ b j, ¬ (b = m9 ∧ j = 13) → ¬ ((b = B 10 ∨ b = B 11) ∧ some j = cTI c) → F' b j = F b j) := by
  rcases c with _ | ⟨⟨b, y, o⟩, c⟩
  · refine g_post (m_hang0 l Γ K F sz m9 B hk hf (oI r1) b9) (fun v K' F' h => ?_)
    obtain ⟨rfl, rfl, rfl⟩ := h
    exact ⟨rfl, rfl, gU_self, fun b j h1 _ => gU_ne h1⟩
  · have hb : b = b9 := hb9
    subst hb
    have hn : (y.1 :: (ixT o ++ ixC c)).Nodup := by
      have : ixC ((b, y, o) :: c) = y.1 :: (ixT o ++ ixC c) := by simp [ixC, cAd, ixT]
      rw [this] at hn; exact hn
    have hn := List.nodup_cons.mp hn
    have no : ∀ n ∈ ixT o, n ≠ y.1 := fun n h e => hn.1 (List.mem_append_left _ (e ▸ h))
    have nc : ∀ n ∈ ixC c, n ≠ y.1 := fun n h e => hn.1 (List.mem_append_right _ (e ▸ h))
    have key : ∀ (q : Nat) (v : Value), q = 10 ∨ q = 11 → (∀ n, n ≠ y.1 → kpN F (gU F (B q) y.1 v) B n) ∧ gU F (B q) y.1 v m9 13 = F m9 13 := fun q v hq => ⟨fun n hne => kpN_off (x := y.1) (fun j i h1 h2 h3 h4 => by
      by_cases e : j = q
      · subst e; exact gU_k (fun z => h3 ⟨by omega, z⟩)
      · exact gU_a (hk.ne (mKd_7 h1 h2) (by rcases hq with rfl | rfl <;> rfl) e)) hne, gU_a (fun z => hk.nm (i := q) (by rcases hq with rfl | rfl <;> rfl) z.symm)⟩
    obtain ⟨⟨a1, a2, a3, a4, a5, a6, a7, a8⟩, hXo, hCc⟩ := hC
    cases b
    · refine g_post (m_hangR l Γ K F sz m9 B hk hf (oI r1) y.1 a1) (fun v K' F' h => ?_)
      obtain ⟨rfl, rfl, rfl⟩ := h
      have kk := key 11 (.int (oI r1)) (Or.inr rfl)
      refine ⟨rfl, rfl, ⟨⟨a1, a2, (gU_a (hk.ne (i := 7) rfl rfl (by decide))).trans a3, fun a ha => (gU_a (hk.ne (i := 8) rfl rfl (by decide))).trans (a4 a ha), (gU_a (hk.ne (i := 9) rfl rfl (by decide))).trans a5, (gU_a (hk.ne (i := 10) rfl rfl (by decide))).trans a6, gU_self, (gU_a (hk.ne (i := 12) rfl rfl (by decide))).trans a8⟩, RX_congr (fun n hn2 => kk.1 n (no n hn2)) hXo, CX_congr (fun n hn2 => kk.1 n (nc n hn2)) kk.2 hCc⟩, fun b j h1 h2 => gU_ne (fun z => h2 ⟨Or.inr z.1, by rw [z.2]; rfl⟩)⟩
    · refine g_post (m_hangL l Γ K F sz m9 B hk hf (oI r1) y.1 a1) (fun v K' F' h => ?_)
      obtain ⟨rfl, rfl, rfl⟩ := h
      have kk := key 10 (.int (oI r1)) (Or.inl rfl)
      refine ⟨rfl, rfl, ⟨⟨a1, a2, (gU_a (hk.ne (i := 7) rfl rfl (by decide))).trans a3, fun a ha => (gU_a (hk.ne (i := 8) rfl rfl (by decide))).trans (a4 a ha), (gU_a (hk.ne (i := 9) rfl rfl (by decide))).trans a5, gU_self, (gU_a (hk.ne (i := 11) rfl rfl (by decide))).trans a7, (gU_a (hk.ne (i := 12) rfl rfl (by decide))).trans a8⟩, RX_congr (fun n hn2 => kk.1 n (no n hn2)) hXo, CX_congr (fun n hn2 => kk.1 n (nc n hn2)) kk.2 hCc⟩, fun b j h1 h2 => gU_ne (fun z => h2 ⟨Or.inl z.1, by rw [z.2]; rfl⟩)⟩
