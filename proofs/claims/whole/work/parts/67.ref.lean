def zV (kd : Nat × Nat) : Value := if kd.1 = 9 then .long 0 else .int 0
/-- the reference's object while it is made -/
def MKp (K0 K : gK) (F0 F : gF) (m9 : Nat) (B : Nat → Nat) (Js : List Nat) : Prop :=
  K m9 = some (7, 0) ∧ (∀ a k, K0 a = some k → K a = some k) ∧ (∀ j ∈ Js, ∃ kd, mKd j = some kd ∧ K (B j) = some kd ∧ F m9 j = .ref (B j) ∧ K0 (B j) = none ∧ ∀ i, F (B j) i = zV kd) ∧ (∀ i ∈ Js, ∀ j ∈ Js, B i = B j → i = j) ∧ (∀ j, j ∉ Js → F m9 j = F0 m9 j) ∧ ∀ a k i, K0 a = some k → a ≠ m9 → F a i = F0 a i
theorem MKp_step {K0 K : gK} {F0 F : gF} {m9 q j : Nat} {B : Nat → Nat} {Js : List Nat} {kd : Nat × Nat} {V : Nat → Value} (h : MKp K0 K F0 F m9 B Js) (hq : K q = none) (hj : j ∉ Js) (hkd : mKd j = some kd) (hV : ∀ i, V i = zV kd) : MKp K0 (va_up K q (some kd)) F0 (gU (va_up F q V) m9 j (.ref q)) m9 (va_up B j q) (j :: Js) := by
  obtain ⟨h1, h2, h3, h4, h5, h6⟩ := h
  have hqm : m9 ≠ q := fun e => by rw [e, hq] at h1; cases h1
  have hqb : ∀ i ∈ Js, B i ≠ q := fun i hi e => by
    obtain ⟨_, _, h, _⟩ := h3 i hi
    rw [e, hq] at h
    cases h
  have hbm : ∀ i ∈ Js, B i ≠ m9 := fun i hi e => by
    obtain ⟨kd, hm, h, _⟩ := h3 i hi
    rw [e, h1] at h
    have h := Option.some.inj h
    rw [← h] at hm
    unfold mKd at hm
    repeat' (split at hm)
    all_goals first | cases hm | (have hm := congrArg (fun o => (o.getD (0, 0)).1) hm; exact absurd hm (by decide))
  have hji : ∀ i ∈ Js, i ≠ j := fun i hi e => hj (e ▸ hi)
  have hB : ∀ i ∈ Js, va_up B j q i = B i := fun i hi => va_up_ne _ _ (hji i hi)
  refine ⟨kup hq h1, fun a k ha => kup hq (h2 a k ha), fun i hi => ?_, fun x hx y hy e => ?_, fun i hi => ?_, fun a k i ha hne => ?_⟩
  · rcases List.mem_cons.mp hi with rfl | hi
    · rw [va_up_self]
      refine ⟨kd, hkd, va_up_self _ _ _, gU_self, ?_, fun i2 => by rw [gU_a (Ne.symm hqm), va_up_self]; exact hV i2⟩
      cases hc : K0 q with
      | none => rfl
      | some k => rw [h2 q k hc] at hq; cases hq
    · obtain ⟨kd2, g1, g2, g3, g4, g5⟩ := h3 i hi
      rw [hB i hi]
      refine ⟨kd2, g1, kup hq g2, ?_, g4, fun i2 => ?_⟩
      · rw [gU_k (hji i hi), va_up_ne _ _ hqm]; exact g3
      · rw [gU_a (hbm i hi), va_up_ne _ _ (hqb i hi)]; exact g5 i2
  · rcases List.mem_cons.mp hx with rfl | hx <;> rcases List.mem_cons.mp hy with rfl | hy
    · rfl
    · rw [va_up_self, hB y hy] at e; exact absurd e.symm (hqb y hy)
    · have hx := ‹x ∈ Js›; rw [va_up_self, hB x hx] at e; exact absurd e (hqb x hx)
    · rw [hB x hx, hB y hy] at e; exact h4 x hx y hy e
  · rw [gU_k (show i ≠ j from fun e => hi (e ▸ List.mem_cons_self)), va_up_ne _ _ hqm]
    exact h5 i (fun hi2 => hi (List.mem_cons_of_mem _ hi2))
  · rw [gU_a hne, va_up_ne _ _ (fun e => by rw [e] at ha; rw [h2 q k ha] at hq; cases hq)]
    exact h6 a k i ha hne
theorem MKp_set {K0 K : gK} {F0 F : gF} {m9 j : Nat} {B : Nat → Nat} {Js : List Nat} {v : Value} (h : MKp K0 K F0 F m9 B Js) (hj : j ∉ Js) (hm : ∀ i ∈ Js, B i ≠ m9) : MKp K0 K (gU F0 m9 j v) (gU F m9 j v) m9 B Js := by
  obtain ⟨h1, h2, h3, h4, h5, h6⟩ := h
  refine ⟨h1, h2, fun i hi => ?_, h4, fun i hi => ?_, fun a k i ha hne => ?_⟩
  · obtain ⟨kd2, g1, g2, g3, g4, g5⟩ := h3 i hi
    exact ⟨kd2, g1, g2, by rw [gU_k (show i ≠ j from fun e => hj (e ▸ hi))]; exact g3, g4, fun i2 => by rw [gU_a (hm i hi)]; exact g5 i2⟩
  · by_cases e : i = j
    · rw [e, gU_self, gU_self]
    · rw [gU_k e, gU_k e]; exact h5 i hi
  · rw [gU_a hne, gU_a hne]; exact h6 a k i ha hne
theorem MKp_nm {K0 K : gK} {F0 F : gF} {m9 : Nat} {B : Nat → Nat} {Js : List Nat} (h : MKp K0 K F0 F m9 B Js) : ∀ i ∈ Js, B i ≠ m9 := fun i hi e => by
  obtain ⟨kd, hm, h9, _⟩ := h.2.2.1 i hi
  rw [e, h.1] at h9
  have h9 := Option.some.inj h9
  rw [← h9] at hm
  unfold mKd at hm
  repeat' (split at hm)
  all_goals first | cases hm | (have hm := congrArg (fun o => (o.getD (0, 0)).1) hm; exact absurd hm (by decide))
def JA : List Nat := [30, 29, 26, 25, 24, 23, 22, 21, 20, 19, 18, 17, 12, 11, 10, 9, 8, 7, 6, 4, 3, 2]
theorem JA_mem {j : Nat} (h : (mKd j).isSome = true) : j ∈ JA := by
  have q : ∀ j, j < 31 → (mKd j).isSome = true → j ∈ JA := by decide
  rcases Nat.lt_or_ge j 31 with h1 | h1
  · exact q j h1 h
  · exfalso
    unfold mKd at h
    rw [if_neg (by omega), if_neg (by omega), if_neg (by omega), if_neg (by omega), if_neg (by omega), if_neg (by omega), if_neg (by omega), if_neg (by omega)] at h
    cases h
theorem MKp_all {K0 K : gK} {F0 F : gF} {m9 : Nat} {B : Nat → Nat} (h : MKp K0 K F0 F m9 B JA) : MKk K m9 B ∧ MKf F m9 B := by
  refine ⟨⟨h.1, fun j kd hj => ?_, fun i j hi hj e => h.2.2.2.1 i (JA_mem hi) j (JA_mem hj) e⟩, fun j hj => ?_⟩
  · obtain ⟨kd2, g1, g2, _⟩ := h.2.2.1 j (JA_mem (by rw [hj]; rfl))
    rw [g1] at hj
    cases hj
    exact g2
  · obtain ⟨kd2, g1, g2, g3, _⟩ := h.2.2.1 j (JA_mem hj)
    exact g3
theorem MKp_z {K0 K : gK} {F0 F : gF} {m9 j i : Nat} {B : Nat → Nat} {kd : Nat × Nat} (h : MKp K0 K F0 F m9 B JA) (hj : mKd j = some kd) : F (B j) i = zV kd := by
  obtain ⟨kd2, g1, g2, g3, g4, g5⟩ := h.2.2.1 j (JA_mem (by rw [hj]; rfl))
  rw [g1] at hj
  cases hj
  exact g5 i

set_option maxHeartbeats 4000000 in
set_option maxRecDepth 100000 in
theorem m_init (l : Launch) (Γ : gG) (K : gK) (F : gF) (sz : Nat) (m9 : Nat) (a9 : Int32) (hk : K m9 = some (7, 0)) (hz : ∀ j, j ∈ [0, 5, 14, 15, 16, 27, 28] → F m9 j = .int (nI 0)) : gMM l yX7_init wsX7_init 1 22 3224 Γ K F sz [.ref m9, .int a9] (fun v K' F' => v = none ∧ ∃ B, MKk K' m9 B ∧ RS F' m9 B (axD a9) (fun _ => none) tL [] 0 0 0 0 ∧ (∀ a k, K a = some k → K' a = some k) ∧ ∀ a k i, K a = some k → a ≠ m9 → F' a i = F a i) := by
  refine g_mM (cc := cX7_init) (maxL := 2) (ret := none) (by decide) rfl (Nat.le_of_ble_eq_true rfl) ?_
  intro p e s m args below meth c ls Z hsz hx hb hts hown hml hnm hN hW hret hl
  have hl : lv_has ls 2 [(0, .ref m9), (1, .int a9)] := hl
  have hown : s.vm.findClass RX7 = some m.cls := hown
  have hi7 : ∀ w ∈ wsX70, w ∈ wsX7_init := by decide +kernel
  have hfX7_13 : Cond.fieldLink RX7 13 (TX7 2).1 (TX7 2).2.1 (TX7 2).2.2.1 ∈ wsX7_init := by decide +kernel
  have hfX7_17 : Cond.fieldLink RX7 17 (TX7 3).1 (TX7 3).2.1 (TX7 3).2.2.1 ∈ wsX7_init := by decide +kernel
  have hfX7_21 : Cond.fieldLink RX7 21 (TX7 4).1 (TX7 4).2.1 (TX7 4).2.2.1 ∈ wsX7_init := by decide +kernel
  have hfX7_24 : Cond.fieldLink RX7 24 (TX7 6).1 (TX7 6).2.1 (TX7 6).2.2.1 ∈ wsX7_init := by decide +kernel
  have hfX7_27 : Cond.fieldLink RX7 27 (TX7 7).1 (TX7 7).2.1 (TX7 7).2.2.1 ∈ wsX7_init := by decide +kernel
  have hfX7_30 : Cond.fieldLink RX7 30 (TX7 8).1 (TX7 8).2.1 (TX7 8).2.2.1 ∈ wsX7_init := by decide +kernel
  have hfX7_33 : Cond.fieldLink RX7 33 (TX7 9).1 (TX7 9).2.1 (TX7 9).2.2.1 ∈ wsX7_init := by decide +kernel
  have hfX7_36 : Cond.fieldLink RX7 36 (TX7 10).1 (TX7 10).2.1 (TX7 10).2.2.1 ∈ wsX7_init := by decide +kernel
  have hfX7_39 : Cond.fieldLink RX7 39 (TX7 11).1 (TX7 11).2.1 (TX7 11).2.2.1 ∈ wsX7_init := by decide +kernel
  have hfX7_42 : Cond.fieldLink RX7 42 (TX7 12).1 (TX7 12).2.1 (TX7 12).2.2.1 ∈ wsX7_init := by decide +kernel
  have hfX7_45 : Cond.fieldLink RX7 45 (TX7 13).1 (TX7 13).2.1 (TX7 13).2.2.1 ∈ wsX7_init := by decide +kernel
  have hfX7_48 : Cond.fieldLink RX7 48 (TX7 17).1 (TX7 17).2.1 (TX7 17).2.2.1 ∈ wsX7_init := by decide +kernel
  have hfX7_51 : Cond.fieldLink RX7 51 (TX7 18).1 (TX7 18).2.1 (TX7 18).2.2.1 ∈ wsX7_init := by decide +kernel
  have hfX7_54 : Cond.fieldLink RX7 54 (TX7 19).1 (TX7 19).2.1 (TX7 19).2.2.1 ∈ wsX7_init := by decide +kernel
  have hfX7_57 : Cond.fieldLink RX7 57 (TX7 20).1 (TX7 20).2.1 (TX7 20).2.2.1 ∈ wsX7_init := by decide +kernel
  have hfX7_60 : Cond.fieldLink RX7 60 (TX7 21).1 (TX7 21).2.1 (TX7 21).2.2.1 ∈ wsX7_init := by decide +kernel
  have hfX7_63 : Cond.fieldLink RX7 63 (TX7 22).1 (TX7 22).2.1 (TX7 22).2.2.1 ∈ wsX7_init := by decide +kernel
  have hfX7_66 : Cond.fieldLink RX7 66 (TX7 23).1 (TX7 23).2.1 (TX7 23).2.2.1 ∈ wsX7_init := by decide +kernel
  have hfX7_69 : Cond.fieldLink RX7 69 (TX7 24).1 (TX7 24).2.1 (TX7 24).2.2.1 ∈ wsX7_init := by decide +kernel
  have hfX7_72 : Cond.fieldLink RX7 72 (TX7 25).1 (TX7 25).2.1 (TX7 25).2.2.1 ∈ wsX7_init := by decide +kernel
  have hfX7_75 : Cond.fieldLink RX7 75 (TX7 26).1 (TX7 26).2.1 (TX7 26).2.2.1 ∈ wsX7_init := by decide +kernel
  have hfX7_79 : Cond.fieldLink RX7 79 (TX7 29).1 (TX7 29).2.1 (TX7 29).2.2.1 ∈ wsX7_init := by decide +kernel
  have hfX7_82 : Cond.fieldLink RX7 82 (TX7 30).1 (TX7 30).2.1 (TX7 30).2.2.1 ∈ wsX7_init := by decide +kernel
  have hfX7_85 : Cond.fieldLink RX7 85 (TX7 1).1 (TX7 1).2.1 (TX7 1).2.2.1 ∈ wsX7_init := by decide +kernel
  obtain ⟨K0, hK0⟩ : ∃ k, k = K := ⟨_, rfl⟩
  have hM0 : MKp K K F F m9 (fun _ => 0) [] := ⟨hk, fun _ _ h => h, fun j hj => (by cases hj), fun i hi => (by cases hi), fun _ _ => rfl, fun _ _ _ _ _ => rfl⟩
  refine lv_aload_n hx hb dX7_init_0 rfl (lv_at hl 0 rfl) ?_
  refine W.objInit hx hb hown (hts _ (show Cond.methodLink RX7 7 objectInit ∈ _ by decide +kernel)) (hts _ (show Cond.instanceMethod objectInit ∈ _ by decide +kernel)) (hts _ (show Cond.code objectInit ⟨#[0xb1]⟩ 1 none ∈ _ by decide +kernel)) rfl (by rw [hml]; exact hl.1) rfl dX7_init_1 (by decide) (Nat.le_of_ble_eq_true rfl) ?_
  refine W.eq (g2 := F0 m 4 ls []) rfl ?_
  refine lv_aload_n hx hb dX7_init_4 rfl (lv_at hl 0 rfl) ?_
  refine lv_bipush (v := nI 100) hx hb dX7_init_5 (by decide) ?_
  refine g_newa (t := 2) (N := 100) hx hb hts (by decide +kernel) (ty := .boolean) rfl hN hW rfl (fun h => h) rfl (by decide) (by decide) (Nat.le_of_ble_eq_true rfl) (Nat.le_of_ble_eq_true rfl) dX7_init_7 (fun q1 H hqe_q1 hq_q1 hW => ?_)
  refine g_putF (C := RX7) (T := TX7) (N := 31) hx hb hts hi7 tyX7 tyX7_ok nmX7 hown hN hW (kup hq_q1 hk) rfl (by decide) 2 (by decide) hfX7_13 rfl hnm rfl rfl rfl dX7_init_9 (fun H locs hW => ?_)
  have hM1 : MKp K (va_up K q1 (some (10, 100))) F (gU (va_up F q1 (fun _ => defaultValue .boolean)) m9 2 (.ref q1)) m9 (va_up (fun _ => 0) 2 q1) [2] := MKp_step hM0 hq_q1 (by decide) rfl (fun _ => rfl)
  generalize va_up K q1 (some (10, 100)) = K1 at hW hM1
  generalize gU (va_up F q1 (fun _ => defaultValue .boolean)) m9 2 (.ref q1) = F1 at hW hM1
  generalize va_up (fun _ => 0) 2 q1 = B1 at hM1
  refine lv_aload_n hx hb dX7_init_12 rfl (lv_at hl 0 rfl) ?_
  refine lv_sipush (v := nI 400) hx hb dX7_init_13 (by decide) ?_
  refine g_newa (t := 0) (N := 400) hx hb hts (by decide +kernel) (ty := .int) rfl hN hW rfl (fun h => h) rfl (by decide) (by decide) (Nat.le_of_ble_eq_true rfl) (Nat.le_of_ble_eq_true rfl) dX7_init_16 (fun q2 H hqe_q2 hq_q2 hW => ?_)
  refine g_putF (C := RX7) (T := TX7) (N := 31) hx hb hts hi7 tyX7 tyX7_ok nmX7 hown hN hW (kup hq_q2 hM1.1) rfl (by decide) 3 (by decide) hfX7_17 rfl hnm rfl rfl rfl dX7_init_18 (fun H locs hW => ?_)
  have hM2 : MKp K (va_up K1 q2 (some (8, 400))) F (gU (va_up F1 q2 (fun _ => defaultValue .int)) m9 3 (.ref q2)) m9 (va_up B1 3 q2) [3, 2] := MKp_step hM1 hq_q2 (by decide) rfl (fun _ => rfl)
  generalize va_up K1 q2 (some (8, 400)) = K2 at hW hM2
  generalize gU (va_up F1 q2 (fun _ => defaultValue .int)) m9 3 (.ref q2) = F2 at hW hM2
  generalize va_up B1 3 q2 = B2 at hM2
  refine lv_aload_n hx hb dX7_init_21 rfl (lv_at hl 0 rfl) ?_
  refine lv_bipush (v := nI 100) hx hb dX7_init_22 (by decide) ?_
  refine g_newa (t := 0) (N := 100) hx hb hts (by decide +kernel) (ty := .int) rfl hN hW rfl (fun h => h) rfl (by decide) (by decide) (Nat.le_of_ble_eq_true rfl) (Nat.le_of_ble_eq_true rfl) dX7_init_24 (fun q3 H hqe_q3 hq_q3 hW => ?_)
  refine g_putF (C := RX7) (T := TX7) (N := 31) hx hb hts hi7 tyX7 tyX7_ok nmX7 hown hN hW (kup hq_q3 hM2.1) rfl (by decide) 4 (by decide) hfX7_21 rfl hnm rfl rfl rfl dX7_init_26 (fun H locs hW => ?_)
  have hM3 : MKp K (va_up K2 q3 (some (8, 100))) F (gU (va_up F2 q3 (fun _ => defaultValue .int)) m9 4 (.ref q3)) m9 (va_up B2 4 q3) [4, 3, 2] := MKp_step hM2 hq_q3 (by decide) rfl (fun _ => rfl)
  generalize va_up K2 q3 (some (8, 100)) = K3 at hW hM3
  generalize gU (va_up F2 q3 (fun _ => defaultValue .int)) m9 4 (.ref q3) = F3 at hW hM3
  generalize va_up B2 4 q3 = B3 at hM3
  refine lv_aload_n hx hb dX7_init_29 rfl (lv_at hl 0 rfl) ?_
  refine lv_sipush (v := nI 140) hx hb dX7_init_30 (by decide) ?_
  refine g_newa (t := 2) (N := 140) hx hb hts (by decide +kernel) (ty := .boolean) rfl hN hW rfl (fun h => h) rfl (by decide) (by decide) (Nat.le_of_ble_eq_true rfl) (Nat.le_of_ble_eq_true rfl) dX7_init_33 (fun q4 H hqe_q4 hq_q4 hW => ?_)
  refine g_putF (C := RX7) (T := TX7) (N := 31) hx hb hts hi7 tyX7 tyX7_ok nmX7 hown hN hW (kup hq_q4 hM3.1) rfl (by decide) 6 (by decide) hfX7_24 rfl hnm rfl rfl rfl dX7_init_35 (fun H locs hW => ?_)
  have hM4 : MKp K (va_up K3 q4 (some (10, 140))) F (gU (va_up F3 q4 (fun _ => defaultValue .boolean)) m9 6 (.ref q4)) m9 (va_up B3 6 q4) [6, 4, 3, 2] := MKp_step hM3 hq_q4 (by decide) rfl (fun _ => rfl)
  generalize va_up K3 q4 (some (10, 140)) = K4 at hW hM4
  generalize gU (va_up F3 q4 (fun _ => defaultValue .boolean)) m9 6 (.ref q4) = F4 at hW hM4
  generalize va_up B3 6 q4 = B4 at hM4
  refine lv_aload_n hx hb dX7_init_38 rfl (lv_at hl 0 rfl) ?_
  refine lv_sipush (v := nI 140) hx hb dX7_init_39 (by decide) ?_
  refine g_newa (t := 0) (N := 140) hx hb hts (by decide +kernel) (ty := .int) rfl hN hW rfl (fun h => h) rfl (by decide) (by decide) (Nat.le_of_ble_eq_true rfl) (Nat.le_of_ble_eq_true rfl) dX7_init_42 (fun q5 H hqe_q5 hq_q5 hW => ?_)
  refine g_putF (C := RX7) (T := TX7) (N := 31) hx hb hts hi7 tyX7 tyX7_ok nmX7 hown hN hW (kup hq_q5 hM4.1) rfl (by decide) 7 (by decide) hfX7_27 rfl hnm rfl rfl rfl dX7_init_44 (fun H locs hW => ?_)
  have hM5 : MKp K (va_up K4 q5 (some (8, 140))) F (gU (va_up F4 q5 (fun _ => defaultValue .int)) m9 7 (.ref q5)) m9 (va_up B4 7 q5) [7, 6, 4, 3, 2] := MKp_step hM4 hq_q5 (by decide) rfl (fun _ => rfl)
  generalize va_up K4 q5 (some (8, 140)) = K5 at hW hM5
  generalize gU (va_up F4 q5 (fun _ => defaultValue .int)) m9 7 (.ref q5) = F5 at hW hM5
  generalize va_up B4 7 q5 = B5 at hM5
  refine lv_aload_n hx hb dX7_init_47 rfl (lv_at hl 0 rfl) ?_
  refine lv_sipush (v := nI 560) hx hb dX7_init_48 (by decide) ?_
  refine g_newa (t := 0) (N := 560) hx hb hts (by decide +kernel) (ty := .int) rfl hN hW rfl (fun h => h) rfl (by decide) (by decide) (Nat.le_of_ble_eq_true rfl) (Nat.le_of_ble_eq_true rfl) dX7_init_51 (fun q6 H hqe_q6 hq_q6 hW => ?_)
  refine g_putF (C := RX7) (T := TX7) (N := 31) hx hb hts hi7 tyX7 tyX7_ok nmX7 hown hN hW (kup hq_q6 hM5.1) rfl (by decide) 8 (by decide) hfX7_30 rfl hnm rfl rfl rfl dX7_init_53 (fun H locs hW => ?_)
  have hM6 : MKp K (va_up K5 q6 (some (8, 560))) F (gU (va_up F5 q6 (fun _ => defaultValue .int)) m9 8 (.ref q6)) m9 (va_up B5 8 q6) [8, 7, 6, 4, 3, 2] := MKp_step hM5 hq_q6 (by decide) rfl (fun _ => rfl)
  generalize va_up K5 q6 (some (8, 560)) = K6 at hW hM6
  generalize gU (va_up F5 q6 (fun _ => defaultValue .int)) m9 8 (.ref q6) = F6 at hW hM6
  generalize va_up B5 8 q6 = B6 at hM6
  refine lv_aload_n hx hb dX7_init_56 rfl (lv_at hl 0 rfl) ?_
  refine lv_sipush (v := nI 140) hx hb dX7_init_57 (by decide) ?_
  refine g_newa (t := 2) (N := 140) hx hb hts (by decide +kernel) (ty := .boolean) rfl hN hW rfl (fun h => h) rfl (by decide) (by decide) (Nat.le_of_ble_eq_true rfl) (Nat.le_of_ble_eq_true rfl) dX7_init_60 (fun q7 H hqe_q7 hq_q7 hW => ?_)
  refine g_putF (C := RX7) (T := TX7) (N := 31) hx hb hts hi7 tyX7 tyX7_ok nmX7 hown hN hW (kup hq_q7 hM6.1) rfl (by decide) 9 (by decide) hfX7_33 rfl hnm rfl rfl rfl dX7_init_62 (fun H locs hW => ?_)
  have hM7 : MKp K (va_up K6 q7 (some (10, 140))) F (gU (va_up F6 q7 (fun _ => defaultValue .boolean)) m9 9 (.ref q7)) m9 (va_up B6 9 q7) [9, 8, 7, 6, 4, 3, 2] := MKp_step hM6 hq_q7 (by decide) rfl (fun _ => rfl)
  generalize va_up K6 q7 (some (10, 140)) = K7 at hW hM7
  generalize gU (va_up F6 q7 (fun _ => defaultValue .boolean)) m9 9 (.ref q7) = F7 at hW hM7
  generalize va_up B6 9 q7 = B7 at hM7
  refine lv_aload_n hx hb dX7_init_65 rfl (lv_at hl 0 rfl) ?_
  refine lv_sipush (v := nI 140) hx hb dX7_init_66 (by decide) ?_
  refine g_newa (t := 0) (N := 140) hx hb hts (by decide +kernel) (ty := .int) rfl hN hW rfl (fun h => h) rfl (by decide) (by decide) (Nat.le_of_ble_eq_true rfl) (Nat.le_of_ble_eq_true rfl) dX7_init_69 (fun q8 H hqe_q8 hq_q8 hW => ?_)
  refine g_putF (C := RX7) (T := TX7) (N := 31) hx hb hts hi7 tyX7 tyX7_ok nmX7 hown hN hW (kup hq_q8 hM7.1) rfl (by decide) 10 (by decide) hfX7_36 rfl hnm rfl rfl rfl dX7_init_71 (fun H locs hW => ?_)
  have hM8 : MKp K (va_up K7 q8 (some (8, 140))) F (gU (va_up F7 q8 (fun _ => defaultValue .int)) m9 10 (.ref q8)) m9 (va_up B7 10 q8) [10, 9, 8, 7, 6, 4, 3, 2] := MKp_step hM7 hq_q8 (by decide) rfl (fun _ => rfl)
  generalize va_up K7 q8 (some (8, 140)) = K8 at hW hM8
  generalize gU (va_up F7 q8 (fun _ => defaultValue .int)) m9 10 (.ref q8) = F8 at hW hM8
  generalize va_up B7 10 q8 = B8 at hM8
  refine lv_aload_n hx hb dX7_init_74 rfl (lv_at hl 0 rfl) ?_
  refine lv_sipush (v := nI 140) hx hb dX7_init_75 (by decide) ?_
  refine g_newa (t := 0) (N := 140) hx hb hts (by decide +kernel) (ty := .int) rfl hN hW rfl (fun h => h) rfl (by decide) (by decide) (Nat.le_of_ble_eq_true rfl) (Nat.le_of_ble_eq_true rfl) dX7_init_78 (fun q9 H hqe_q9 hq_q9 hW => ?_)
  refine g_putF (C := RX7) (T := TX7) (N := 31) hx hb hts hi7 tyX7 tyX7_ok nmX7 hown hN hW (kup hq_q9 hM8.1) rfl (by decide) 11 (by decide) hfX7_39 rfl hnm rfl rfl rfl dX7_init_80 (fun H locs hW => ?_)
  have hM9 : MKp K (va_up K8 q9 (some (8, 140))) F (gU (va_up F8 q9 (fun _ => defaultValue .int)) m9 11 (.ref q9)) m9 (va_up B8 11 q9) [11, 10, 9, 8, 7, 6, 4, 3, 2] := MKp_step hM8 hq_q9 (by decide) rfl (fun _ => rfl)
  generalize va_up K8 q9 (some (8, 140)) = K9 at hW hM9
  generalize gU (va_up F8 q9 (fun _ => defaultValue .int)) m9 11 (.ref q9) = F9 at hW hM9
  generalize va_up B8 11 q9 = B9 at hM9
  refine lv_aload_n hx hb dX7_init_83 rfl (lv_at hl 0 rfl) ?_
  refine lv_sipush (v := nI 140) hx hb dX7_init_84 (by decide) ?_
  refine g_newa (t := 0) (N := 140) hx hb hts (by decide +kernel) (ty := .int) rfl hN hW rfl (fun h => h) rfl (by decide) (by decide) (Nat.le_of_ble_eq_true rfl) (Nat.le_of_ble_eq_true rfl) dX7_init_87 (fun q10 H hqe_q10 hq_q10 hW => ?_)
  refine g_putF (C := RX7) (T := TX7) (N := 31) hx hb hts hi7 tyX7 tyX7_ok nmX7 hown hN hW (kup hq_q10 hM9.1) rfl (by decide) 12 (by decide) hfX7_42 rfl hnm rfl rfl rfl dX7_init_89 (fun H locs hW => ?_)
  have hM10 : MKp K (va_up K9 q10 (some (8, 140))) F (gU (va_up F9 q10 (fun _ => defaultValue .int)) m9 12 (.ref q10)) m9 (va_up B9 12 q10) [12, 11, 10, 9, 8, 7, 6, 4, 3, 2] := MKp_step hM9 hq_q10 (by decide) rfl (fun _ => rfl)
  generalize va_up K9 q10 (some (8, 140)) = K10 at hW hM10
  generalize gU (va_up F9 q10 (fun _ => defaultValue .int)) m9 12 (.ref q10) = F10 at hW hM10
  generalize va_up B9 12 q10 = B10 at hM10
  refine lv_aload_n hx hb dX7_init_92 rfl (lv_at hl 0 rfl) ?_
  refine lv_iconst (v := (-1)) hx hb dX7_init_93 (by decide) ?_
  refine g_put (C := RX7) (T := TX7) (N := 31) hx hb hts hi7 tyX7 tyX7_ok nmX7 hown hN hW hM10.1 rfl (by decide) 13 (by decide) hfX7_45 rfl rfl rfl dX7_init_94 (fun H locs hW => ?_)
  have hM11 : MKp K K10 (gU F m9 13 (.int (-1))) (gU F10 m9 13 (.int (-1))) m9 B10 [12, 11, 10, 9, 8, 7, 6, 4, 3, 2] := MKp_set hM10 (by decide) (MKp_nm hM10)
  generalize gU F10 m9 13 (.int (-1)) = F11 at hW hM11
  refine lv_aload_n hx hb dX7_init_97 rfl (lv_at hl 0 rfl) ?_
  refine lv_sipush (v := nI 140) hx hb dX7_init_98 (by decide) ?_
  refine g_newa (t := 0) (N := 140) hx hb hts (by decide +kernel) (ty := .int) rfl hN hW rfl (fun h => h) rfl (by decide) (by decide) (Nat.le_of_ble_eq_true rfl) (Nat.le_of_ble_eq_true rfl) dX7_init_101 (fun q11 H hqe_q11 hq_q11 hW => ?_)
  refine g_putF (C := RX7) (T := TX7) (N := 31) hx hb hts hi7 tyX7 tyX7_ok nmX7 hown hN hW (kup hq_q11 hM11.1) rfl (by decide) 17 (by decide) hfX7_48 rfl hnm rfl rfl rfl dX7_init_103 (fun H locs hW => ?_)
  have hM12 : MKp K (va_up K10 q11 (some (8, 140))) (gU F m9 13 (.int (-1))) (gU (va_up F11 q11 (fun _ => defaultValue .int)) m9 17 (.ref q11)) m9 (va_up B10 17 q11) [17, 12, 11, 10, 9, 8, 7, 6, 4, 3, 2] := MKp_step hM11 hq_q11 (by decide) rfl (fun _ => rfl)
  generalize va_up K10 q11 (some (8, 140)) = K12 at hW hM12
  generalize gU (va_up F11 q11 (fun _ => defaultValue .int)) m9 17 (.ref q11) = F12 at hW hM12
  generalize va_up B10 17 q11 = B12 at hM12
  refine lv_aload_n hx hb dX7_init_106 rfl (lv_at hl 0 rfl) ?_
  refine lv_sipush (v := nI 140) hx hb dX7_init_107 (by decide) ?_
  refine g_newa (t := 0) (N := 140) hx hb hts (by decide +kernel) (ty := .int) rfl hN hW rfl (fun h => h) rfl (by decide) (by decide) (Nat.le_of_ble_eq_true rfl) (Nat.le_of_ble_eq_true rfl) dX7_init_110 (fun q12 H hqe_q12 hq_q12 hW => ?_)
  refine g_putF (C := RX7) (T := TX7) (N := 31) hx hb hts hi7 tyX7 tyX7_ok nmX7 hown hN hW (kup hq_q12 hM12.1) rfl (by decide) 18 (by decide) hfX7_51 rfl hnm rfl rfl rfl dX7_init_112 (fun H locs hW => ?_)
  have hM13 : MKp K (va_up K12 q12 (some (8, 140))) (gU F m9 13 (.int (-1))) (gU (va_up F12 q12 (fun _ => defaultValue .int)) m9 18 (.ref q12)) m9 (va_up B12 18 q12) [18, 17, 12, 11, 10, 9, 8, 7, 6, 4, 3, 2] := MKp_step hM12 hq_q12 (by decide) rfl (fun _ => rfl)
  generalize va_up K12 q12 (some (8, 140)) = K13 at hW hM13
  generalize gU (va_up F12 q12 (fun _ => defaultValue .int)) m9 18 (.ref q12) = F13 at hW hM13
  generalize va_up B12 18 q12 = B13 at hM13
  refine lv_aload_n hx hb dX7_init_115 rfl (lv_at hl 0 rfl) ?_
  refine lv_bipush (v := nI 100) hx hb dX7_init_116 (by decide) ?_
  refine g_newa (t := 0) (N := 100) hx hb hts (by decide +kernel) (ty := .int) rfl hN hW rfl (fun h => h) rfl (by decide) (by decide) (Nat.le_of_ble_eq_true rfl) (Nat.le_of_ble_eq_true rfl) dX7_init_118 (fun q13 H hqe_q13 hq_q13 hW => ?_)
  refine g_putF (C := RX7) (T := TX7) (N := 31) hx hb hts hi7 tyX7 tyX7_ok nmX7 hown hN hW (kup hq_q13 hM13.1) rfl (by decide) 19 (by decide) hfX7_54 rfl hnm rfl rfl rfl dX7_init_120 (fun H locs hW => ?_)
  have hM14 : MKp K (va_up K13 q13 (some (8, 100))) (gU F m9 13 (.int (-1))) (gU (va_up F13 q13 (fun _ => defaultValue .int)) m9 19 (.ref q13)) m9 (va_up B13 19 q13) [19, 18, 17, 12, 11, 10, 9, 8, 7, 6, 4, 3, 2] := MKp_step hM13 hq_q13 (by decide) rfl (fun _ => rfl)
  generalize va_up K13 q13 (some (8, 100)) = K14 at hW hM14
  generalize gU (va_up F13 q13 (fun _ => defaultValue .int)) m9 19 (.ref q13) = F14 at hW hM14
  generalize va_up B13 19 q13 = B14 at hM14
  refine lv_aload_n hx hb dX7_init_123 rfl (lv_at hl 0 rfl) ?_
  refine lv_bipush (v := nI 100) hx hb dX7_init_124 (by decide) ?_
  refine g_newa (t := 0) (N := 100) hx hb hts (by decide +kernel) (ty := .int) rfl hN hW rfl (fun h => h) rfl (by decide) (by decide) (Nat.le_of_ble_eq_true rfl) (Nat.le_of_ble_eq_true rfl) dX7_init_126 (fun q14 H hqe_q14 hq_q14 hW => ?_)
  refine g_putF (C := RX7) (T := TX7) (N := 31) hx hb hts hi7 tyX7 tyX7_ok nmX7 hown hN hW (kup hq_q14 hM14.1) rfl (by decide) 20 (by decide) hfX7_57 rfl hnm rfl rfl rfl dX7_init_128 (fun H locs hW => ?_)
  have hM15 : MKp K (va_up K14 q14 (some (8, 100))) (gU F m9 13 (.int (-1))) (gU (va_up F14 q14 (fun _ => defaultValue .int)) m9 20 (.ref q14)) m9 (va_up B14 20 q14) [20, 19, 18, 17, 12, 11, 10, 9, 8, 7, 6, 4, 3, 2] := MKp_step hM14 hq_q14 (by decide) rfl (fun _ => rfl)
  generalize va_up K14 q14 (some (8, 100)) = K15 at hW hM15
  generalize gU (va_up F14 q14 (fun _ => defaultValue .int)) m9 20 (.ref q14) = F15 at hW hM15
  generalize va_up B14 20 q14 = B15 at hM15
  refine lv_aload_n hx hb dX7_init_131 rfl (lv_at hl 0 rfl) ?_
  refine lv_bipush (v := nI 100) hx hb dX7_init_132 (by decide) ?_
  refine g_newa (t := 0) (N := 100) hx hb hts (by decide +kernel) (ty := .int) rfl hN hW rfl (fun h => h) rfl (by decide) (by decide) (Nat.le_of_ble_eq_true rfl) (Nat.le_of_ble_eq_true rfl) dX7_init_134 (fun q15 H hqe_q15 hq_q15 hW => ?_)
  refine g_putF (C := RX7) (T := TX7) (N := 31) hx hb hts hi7 tyX7 tyX7_ok nmX7 hown hN hW (kup hq_q15 hM15.1) rfl (by decide) 21 (by decide) hfX7_60 rfl hnm rfl rfl rfl dX7_init_136 (fun H locs hW => ?_)
  have hM16 : MKp K (va_up K15 q15 (some (8, 100))) (gU F m9 13 (.int (-1))) (gU (va_up F15 q15 (fun _ => defaultValue .int)) m9 21 (.ref q15)) m9 (va_up B15 21 q15) [21, 20, 19, 18, 17, 12, 11, 10, 9, 8, 7, 6, 4, 3, 2] := MKp_step hM15 hq_q15 (by decide) rfl (fun _ => rfl)
  generalize va_up K15 q15 (some (8, 100)) = K16 at hW hM16
  generalize gU (va_up F15 q15 (fun _ => defaultValue .int)) m9 21 (.ref q15) = F16 at hW hM16
  generalize va_up B15 21 q15 = B16 at hM16
  refine lv_aload_n hx hb dX7_init_139 rfl (lv_at hl 0 rfl) ?_
  refine lv_bipush (v := nI 100) hx hb dX7_init_140 (by decide) ?_
  refine g_newa (t := 0) (N := 100) hx hb hts (by decide +kernel) (ty := .int) rfl hN hW rfl (fun h => h) rfl (by decide) (by decide) (Nat.le_of_ble_eq_true rfl) (Nat.le_of_ble_eq_true rfl) dX7_init_142 (fun q16 H hqe_q16 hq_q16 hW => ?_)
  refine g_putF (C := RX7) (T := TX7) (N := 31) hx hb hts hi7 tyX7 tyX7_ok nmX7 hown hN hW (kup hq_q16 hM16.1) rfl (by decide) 22 (by decide) hfX7_63 rfl hnm rfl rfl rfl dX7_init_144 (fun H locs hW => ?_)
  have hM17 : MKp K (va_up K16 q16 (some (8, 100))) (gU F m9 13 (.int (-1))) (gU (va_up F16 q16 (fun _ => defaultValue .int)) m9 22 (.ref q16)) m9 (va_up B16 22 q16) [22, 21, 20, 19, 18, 17, 12, 11, 10, 9, 8, 7, 6, 4, 3, 2] := MKp_step hM16 hq_q16 (by decide) rfl (fun _ => rfl)
  generalize va_up K16 q16 (some (8, 100)) = K17 at hW hM17
  generalize gU (va_up F16 q16 (fun _ => defaultValue .int)) m9 22 (.ref q16) = F17 at hW hM17
  generalize va_up B16 22 q16 = B17 at hM17
  refine lv_aload_n hx hb dX7_init_147 rfl (lv_at hl 0 rfl) ?_
  refine lv_bipush (v := nI 100) hx hb dX7_init_148 (by decide) ?_
  refine g_newa (t := 2) (N := 100) hx hb hts (by decide +kernel) (ty := .boolean) rfl hN hW rfl (fun h => h) rfl (by decide) (by decide) (Nat.le_of_ble_eq_true rfl) (Nat.le_of_ble_eq_true rfl) dX7_init_150 (fun q17 H hqe_q17 hq_q17 hW => ?_)
  refine g_putF (C := RX7) (T := TX7) (N := 31) hx hb hts hi7 tyX7 tyX7_ok nmX7 hown hN hW (kup hq_q17 hM17.1) rfl (by decide) 23 (by decide) hfX7_66 rfl hnm rfl rfl rfl dX7_init_152 (fun H locs hW => ?_)
  have hM18 : MKp K (va_up K17 q17 (some (10, 100))) (gU F m9 13 (.int (-1))) (gU (va_up F17 q17 (fun _ => defaultValue .boolean)) m9 23 (.ref q17)) m9 (va_up B17 23 q17) [23, 22, 21, 20, 19, 18, 17, 12, 11, 10, 9, 8, 7, 6, 4, 3, 2] := MKp_step hM17 hq_q17 (by decide) rfl (fun _ => rfl)
  generalize va_up K17 q17 (some (10, 100)) = K18 at hW hM18
  generalize gU (va_up F17 q17 (fun _ => defaultValue .boolean)) m9 23 (.ref q17) = F18 at hW hM18
  generalize va_up B17 23 q17 = B18 at hM18
  refine lv_aload_n hx hb dX7_init_155 rfl (lv_at hl 0 rfl) ?_
  refine lv_iconst (v := nI 4) hx hb dX7_init_156 (by decide) ?_
  refine g_newa (t := 0) (N := 4) hx hb hts (by decide +kernel) (ty := .int) rfl hN hW rfl (fun h => h) rfl (by decide) (by decide) (Nat.le_of_ble_eq_true rfl) (Nat.le_of_ble_eq_true rfl) dX7_init_157 (fun q18 H hqe_q18 hq_q18 hW => ?_)
  refine g_putF (C := RX7) (T := TX7) (N := 31) hx hb hts hi7 tyX7 tyX7_ok nmX7 hown hN hW (kup hq_q18 hM18.1) rfl (by decide) 24 (by decide) hfX7_69 rfl hnm rfl rfl rfl dX7_init_159 (fun H locs hW => ?_)
  have hM19 : MKp K (va_up K18 q18 (some (8, 4))) (gU F m9 13 (.int (-1))) (gU (va_up F18 q18 (fun _ => defaultValue .int)) m9 24 (.ref q18)) m9 (va_up B18 24 q18) [24, 23, 22, 21, 20, 19, 18, 17, 12, 11, 10, 9, 8, 7, 6, 4, 3, 2] := MKp_step hM18 hq_q18 (by decide) rfl (fun _ => rfl)
  generalize va_up K18 q18 (some (8, 4)) = K19 at hW hM19
  generalize gU (va_up F18 q18 (fun _ => defaultValue .int)) m9 24 (.ref q18) = F19 at hW hM19
  generalize va_up B18 24 q18 = B19 at hM19
  refine lv_aload_n hx hb dX7_init_162 rfl (lv_at hl 0 rfl) ?_
  refine lv_bipush (v := nI 100) hx hb dX7_init_163 (by decide) ?_
  refine g_newa (t := 0) (N := 100) hx hb hts (by decide +kernel) (ty := .int) rfl hN hW rfl (fun h => h) rfl (by decide) (by decide) (Nat.le_of_ble_eq_true rfl) (Nat.le_of_ble_eq_true rfl) dX7_init_165 (fun q19 H hqe_q19 hq_q19 hW => ?_)
  refine g_putF (C := RX7) (T := TX7) (N := 31) hx hb hts hi7 tyX7 tyX7_ok nmX7 hown hN hW (kup hq_q19 hM19.1) rfl (by decide) 25 (by decide) hfX7_72 rfl hnm rfl rfl rfl dX7_init_167 (fun H locs hW => ?_)
  have hM20 : MKp K (va_up K19 q19 (some (8, 100))) (gU F m9 13 (.int (-1))) (gU (va_up F19 q19 (fun _ => defaultValue .int)) m9 25 (.ref q19)) m9 (va_up B19 25 q19) [25, 24, 23, 22, 21, 20, 19, 18, 17, 12, 11, 10, 9, 8, 7, 6, 4, 3, 2] := MKp_step hM19 hq_q19 (by decide) rfl (fun _ => rfl)
  generalize va_up K19 q19 (some (8, 100)) = K20 at hW hM20
  generalize gU (va_up F19 q19 (fun _ => defaultValue .int)) m9 25 (.ref q19) = F20 at hW hM20
  generalize va_up B19 25 q19 = B20 at hM20
  refine lv_aload_n hx hb dX7_init_170 rfl (lv_at hl 0 rfl) ?_
  refine lv_bipush (v := nI 100) hx hb dX7_init_171 (by decide) ?_
  refine g_newa (t := 1) (N := 100) hx hb hts (by decide +kernel) (ty := .long) rfl hN hW rfl (fun h => h) rfl (by decide) (by decide) (Nat.le_of_ble_eq_true rfl) (Nat.le_of_ble_eq_true rfl) dX7_init_173 (fun q20 H hqe_q20 hq_q20 hW => ?_)
  refine g_putF (C := RX7) (T := TX7) (N := 31) hx hb hts hi7 tyX7 tyX7_ok nmX7 hown hN hW (kup hq_q20 hM20.1) rfl (by decide) 26 (by decide) hfX7_75 rfl hnm rfl rfl rfl dX7_init_175 (fun H locs hW => ?_)
  have hM21 : MKp K (va_up K20 q20 (some (9, 100))) (gU F m9 13 (.int (-1))) (gU (va_up F20 q20 (fun _ => defaultValue .long)) m9 26 (.ref q20)) m9 (va_up B20 26 q20) [26, 25, 24, 23, 22, 21, 20, 19, 18, 17, 12, 11, 10, 9, 8, 7, 6, 4, 3, 2] := MKp_step hM20 hq_q20 (by decide) rfl (fun _ => rfl)
  generalize va_up K20 q20 (some (9, 100)) = K21 at hW hM21
  generalize gU (va_up F20 q20 (fun _ => defaultValue .long)) m9 26 (.ref q20) = F21 at hW hM21
  generalize va_up B20 26 q20 = B21 at hM21
  refine lv_aload_n hx hb dX7_init_178 rfl (lv_at hl 0 rfl) ?_
  refine lv_sipush (v := nI 140) hx hb dX7_init_179 (by decide) ?_
  refine g_newa (t := 2) (N := 140) hx hb hts (by decide +kernel) (ty := .boolean) rfl hN hW rfl (fun h => h) rfl (by decide) (by decide) (Nat.le_of_ble_eq_true rfl) (Nat.le_of_ble_eq_true rfl) dX7_init_182 (fun q21 H hqe_q21 hq_q21 hW => ?_)
  refine g_putF (C := RX7) (T := TX7) (N := 31) hx hb hts hi7 tyX7 tyX7_ok nmX7 hown hN hW (kup hq_q21 hM21.1) rfl (by decide) 29 (by decide) hfX7_79 rfl hnm rfl rfl rfl dX7_init_184 (fun H locs hW => ?_)
  have hM22 : MKp K (va_up K21 q21 (some (10, 140))) (gU F m9 13 (.int (-1))) (gU (va_up F21 q21 (fun _ => defaultValue .boolean)) m9 29 (.ref q21)) m9 (va_up B21 29 q21) [29, 26, 25, 24, 23, 22, 21, 20, 19, 18, 17, 12, 11, 10, 9, 8, 7, 6, 4, 3, 2] := MKp_step hM21 hq_q21 (by decide) rfl (fun _ => rfl)
  generalize va_up K21 q21 (some (10, 140)) = K22 at hW hM22
  generalize gU (va_up F21 q21 (fun _ => defaultValue .boolean)) m9 29 (.ref q21) = F22 at hW hM22
  generalize va_up B21 29 q21 = B22 at hM22
  refine lv_aload_n hx hb dX7_init_187 rfl (lv_at hl 0 rfl) ?_
  refine lv_bipush (v := nI 100) hx hb dX7_init_188 (by decide) ?_
  refine g_newa (t := 2) (N := 100) hx hb hts (by decide +kernel) (ty := .boolean) rfl hN hW rfl (fun h => h) rfl (by decide) (by decide) (Nat.le_of_ble_eq_true rfl) (Nat.le_of_ble_eq_true rfl) dX7_init_190 (fun q22 H hqe_q22 hq_q22 hW => ?_)
  refine g_putF (C := RX7) (T := TX7) (N := 31) hx hb hts hi7 tyX7 tyX7_ok nmX7 hown hN hW (kup hq_q22 hM22.1) rfl (by decide) 30 (by decide) hfX7_82 rfl hnm rfl rfl rfl dX7_init_192 (fun H locs hW => ?_)
  have hM23 : MKp K (va_up K22 q22 (some (10, 100))) (gU F m9 13 (.int (-1))) (gU (va_up F22 q22 (fun _ => defaultValue .boolean)) m9 30 (.ref q22)) m9 (va_up B22 30 q22) [30, 29, 26, 25, 24, 23, 22, 21, 20, 19, 18, 17, 12, 11, 10, 9, 8, 7, 6, 4, 3, 2] := MKp_step hM22 hq_q22 (by decide) rfl (fun _ => rfl)
  generalize va_up K22 q22 (some (10, 100)) = K23 at hW hM23
  generalize gU (va_up F22 q22 (fun _ => defaultValue .boolean)) m9 30 (.ref q22) = F23 at hW hM23
  generalize va_up B22 30 q22 = B23 at hM23
  refine lv_aload_n hx hb dX7_init_195 rfl (lv_at hl 0 rfl) ?_
  refine lv_iload_n hx hb dX7_init_196 rfl (lv_at hl 1 rfl) ?_
  refine lv_iconst (v := nI 1) hx hb dX7_init_197 (by decide) ?_
  refine lv_icmp_ge (tgt := 205) hx hb dX7_init_198 (by decide) (fun c1 => ?_) (fun c1 => ?_)
  · refine lv_iload_n hx hb dX7_init_205 rfl (lv_at hl 1 rfl) ?_
    refine lv_iconst (v := nI 4) hx hb dX7_init_206 (by decide) ?_
    refine lv_icmp_le (tgt := 214) hx hb dX7_init_207 (by decide) (fun c2 => ?_) (fun c2 => ?_)
    · refine lv_iload_n hx hb dX7_init_214 rfl (lv_at hl 1 rfl) ?_
      refine g_asi (show _ = nI (axD a9) from by rw [axD_eq, if_neg (show ¬ a9 < 1 from Int32.not_lt.mpr c1), if_neg (show ¬ 4 < a9 from Int32.not_lt.mpr c2)]) ?_
      refine g_putF (C := RX7) (T := TX7) (N := 31) hx hb hts hi7 tyX7 tyX7_ok nmX7 hown hN hW hM23.1 rfl (by decide) 1 (by decide) hfX7_85 rfl hnm rfl rfl rfl dX7_init_215 (fun H locs hW => ?_)
      have hM : MKp K K23 (gU (gU F m9 13 (.int (-1))) m9 1 (.int (nI (axD a9)))) (gU F23 m9 1 (.int (nI (axD a9)))) m9 B23 JA := MKp_set hM23 (by decide) (MKp_nm hM23)
      generalize gU F23 m9 1 (.int (nI (axD a9))) = F9 at hW hM
      obtain ⟨hkk, hff⟩ := MKp_all hM
      have h9 : ∀ j, j ≠ 1 → j ≠ 13 → j ∉ JA → F9 m9 j = F m9 j := fun j h1 h2 h3 => by rw [hM.2.2.2.2.1 j h3, gU_k h1, gU_k h2]
      have h913 : F9 m9 13 = .int (-1) := by rw [hM.2.2.2.2.1 13 (by decide), gU_k (by decide), gU_self]
      have h91 : F9 m9 1 = .int (nI (axD a9)) := by rw [hM.2.2.2.2.1 1 (by decide), gU_self]
      have hRS : RS F9 m9 B23 (axD a9) (fun _ => none) tL [] 0 0 0 0 := ⟨hff, h91, ⟨fun i _ => MKp_z (j := 2) (kd := (10, 100)) hM rfl, fun i p _ hp => (by cases hp)⟩, (h9 5 (by decide) (by decide) (by decide)).trans (hz 5 (by decide)), ⟨tL, rfl, trivial, h913, fun j _ => by rw [decide_eq_false (show j ∉ ixT (tL : TT mLb) from fun z => (by cases z))]; exact MKp_z (j := 6) (kd := (10, 140)) hM rfl, List.nodup_nil, fun y hy => (by cases hy)⟩, ⟨(h9 27 (by decide) (by decide) (by decide)).trans (hz 27 (by decide)), rowL.nil, rowL.nil⟩, (h9 28 (by decide) (by decide) (by decide)).trans (hz 28 (by decide)), (h9 14 (by decide) (by decide) (by decide)).trans (hz 14 (by decide)), (h9 15 (by decide) (by decide) (by decide)).trans (hz 15 (by decide)), (h9 16 (by decide) (by decide) (by decide)).trans (hz 16 (by decide))⟩
      exact hret none _ _ _ _ _ _ hW (⟨rfl, B23, hkk, hRS, fun a k ha => hM.2.1 a k ha, fun a k i ha hne => by rw [hM.2.2.2.2.2 a k i ha hne, gU_a hne, gU_a hne]⟩) (rt_v dX7_init_218)
    · refine lv_iconst (v := nI 4) hx hb dX7_init_210 (by decide) ?_
      refine lv_goto (tgt := 215) hx hb dX7_init_211 (by decide) ?_
      refine g_asi (show _ = nI (axD a9) from by rw [axD_eq, if_neg (show ¬ a9 < 1 from Int32.not_lt.mpr c1), if_pos (show 4 < a9 from Int32.not_le.mp c2)]; rfl) ?_
      refine g_putF (C := RX7) (T := TX7) (N := 31) hx hb hts hi7 tyX7 tyX7_ok nmX7 hown hN hW hM23.1 rfl (by decide) 1 (by decide) hfX7_85 rfl hnm rfl rfl rfl dX7_init_215 (fun H locs hW => ?_)
      have hM : MKp K K23 (gU (gU F m9 13 (.int (-1))) m9 1 (.int (nI (axD a9)))) (gU F23 m9 1 (.int (nI (axD a9)))) m9 B23 JA := MKp_set hM23 (by decide) (MKp_nm hM23)
      generalize gU F23 m9 1 (.int (nI (axD a9))) = F9 at hW hM
      obtain ⟨hkk, hff⟩ := MKp_all hM
      have h9 : ∀ j, j ≠ 1 → j ≠ 13 → j ∉ JA → F9 m9 j = F m9 j := fun j h1 h2 h3 => by rw [hM.2.2.2.2.1 j h3, gU_k h1, gU_k h2]
      have h913 : F9 m9 13 = .int (-1) := by rw [hM.2.2.2.2.1 13 (by decide), gU_k (by decide), gU_self]
      have h91 : F9 m9 1 = .int (nI (axD a9)) := by rw [hM.2.2.2.2.1 1 (by decide), gU_self]
      have hRS : RS F9 m9 B23 (axD a9) (fun _ => none) tL [] 0 0 0 0 := ⟨hff, h91, ⟨fun i _ => MKp_z (j := 2) (kd := (10, 100)) hM rfl, fun i p _ hp => (by cases hp)⟩, (h9 5 (by decide) (by decide) (by decide)).trans (hz 5 (by decide)), ⟨tL, rfl, trivial, h913, fun j _ => by rw [decide_eq_false (show j ∉ ixT (tL : TT mLb) from fun z => (by cases z))]; exact MKp_z (j := 6) (kd := (10, 140)) hM rfl, List.nodup_nil, fun y hy => (by cases hy)⟩, ⟨(h9 27 (by decide) (by decide) (by decide)).trans (hz 27 (by decide)), rowL.nil, rowL.nil⟩, (h9 28 (by decide) (by decide) (by decide)).trans (hz 28 (by decide)), (h9 14 (by decide) (by decide) (by decide)).trans (hz 14 (by decide)), (h9 15 (by decide) (by decide) (by decide)).trans (hz 15 (by decide)), (h9 16 (by decide) (by decide) (by decide)).trans (hz 16 (by decide))⟩
      exact hret none _ _ _ _ _ _ hW (⟨rfl, B23, hkk, hRS, fun a k ha => hM.2.1 a k ha, fun a k i ha hne => by rw [hM.2.2.2.2.2 a k i ha hne, gU_a hne, gU_a hne]⟩) (rt_v dX7_init_218)
  · refine lv_iconst (v := nI 1) hx hb dX7_init_201 (by decide) ?_
    refine lv_goto (tgt := 215) hx hb dX7_init_202 (by decide) ?_
    refine g_asi (show _ = nI (axD a9) from by rw [axD_eq, if_pos (show a9 < 1 from Int32.not_le.mp c1)]; rfl) ?_
    refine g_putF (C := RX7) (T := TX7) (N := 31) hx hb hts hi7 tyX7 tyX7_ok nmX7 hown hN hW hM23.1 rfl (by decide) 1 (by decide) hfX7_85 rfl hnm rfl rfl rfl dX7_init_215 (fun H locs hW => ?_)
    have hM : MKp K K23 (gU (gU F m9 13 (.int (-1))) m9 1 (.int (nI (axD a9)))) (gU F23 m9 1 (.int (nI (axD a9)))) m9 B23 JA := MKp_set hM23 (by decide) (MKp_nm hM23)
    generalize gU F23 m9 1 (.int (nI (axD a9))) = F9 at hW hM
    obtain ⟨hkk, hff⟩ := MKp_all hM
    have h9 : ∀ j, j ≠ 1 → j ≠ 13 → j ∉ JA → F9 m9 j = F m9 j := fun j h1 h2 h3 => by rw [hM.2.2.2.2.1 j h3, gU_k h1, gU_k h2]
    have h913 : F9 m9 13 = .int (-1) := by rw [hM.2.2.2.2.1 13 (by decide), gU_k (by decide), gU_self]
    have h91 : F9 m9 1 = .int (nI (axD a9)) := by rw [hM.2.2.2.2.1 1 (by decide), gU_self]
    have hRS : RS F9 m9 B23 (axD a9) (fun _ => none) tL [] 0 0 0 0 := ⟨hff, h91, ⟨fun i _ => MKp_z (j := 2) (kd := (10, 100)) hM rfl, fun i p _ hp => (by cases hp)⟩, (h9 5 (by decide) (by decide) (by decide)).trans (hz 5 (by decide)), ⟨tL, rfl, trivial, h913, fun j _ => by rw [decide_eq_false (show j ∉ ixT (tL : TT mLb) from fun z => (by cases z))]; exact MKp_z (j := 6) (kd := (10, 140)) hM rfl, List.nodup_nil, fun y hy => (by cases hy)⟩, ⟨(h9 27 (by decide) (by decide) (by decide)).trans (hz 27 (by decide)), rowL.nil, rowL.nil⟩, (h9 28 (by decide) (by decide) (by decide)).trans (hz 28 (by decide)), (h9 14 (by decide) (by decide) (by decide)).trans (hz 14 (by decide)), (h9 15 (by decide) (by decide) (by decide)).trans (hz 15 (by decide)), (h9 16 (by decide) (by decide) (by decide)).trans (hz 16 (by decide))⟩
    exact hret none _ _ _ _ _ _ hW (⟨rfl, B23, hkk, hRS, fun a k ha => hM.2.1 a k ha, fun a k i ha hne => by rw [hM.2.2.2.2.2 a k i ha hne, gU_a hne, gU_a hne]⟩) (rt_v dX7_init_218)
