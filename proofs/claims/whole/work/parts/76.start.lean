/-! the start -/
theorem st_N {s : State} {args : Array Value} (hts : ∀ w ∈ lw_tbl, w.before args s = true) : ∃ Γ : gG, gN Γ s := by
  obtain ⟨c0, i0, hk0⟩ := u_known (C := RX0) (T := TX0) (N := 6) (n := 6) hts inX0 (hts (.instantiable RX0 6) (by decide +kernel))
  obtain ⟨c1, i1, hk1⟩ := u_known (C := RX1) (T := TX1) (N := 4) (n := 4) hts inX1 (hts (.instantiable RX1 4) (by decide +kernel))
  obtain ⟨c2, i2, hk2⟩ := u_known (C := RX2) (T := TX2) (N := 9) (n := 9) hts inX2 (hts (.instantiable RX2 9) (by decide +kernel))
  obtain ⟨c3, i3, hk3⟩ := u_known (C := RX3) (T := TX3) (N := 4) (n := 4) hts inX3 (hts (.instantiable RX3 4) (by decide +kernel))
  obtain ⟨c4, i4, hk4⟩ := u_known (C := RX4) (T := TX4) (N := 3) (n := 3) hts inX4 (hts (.instantiable RX4 3) (by decide +kernel))
  obtain ⟨c5, i5, hk5⟩ := u_known (C := RX5) (T := TX5) (N := 4) (n := 4) hts inX5 (hts (.instantiable RX5 4) (by decide +kernel))
  obtain ⟨c6, i6, hk6⟩ := u_known (C := RX6) (T := TX6) (N := 9) (n := 9) hts inX6 (hts (.instantiable RX6 9) (by decide +kernel))
  obtain ⟨c7, i7, hk7⟩ := u_known (C := RX7) (T := TX7) (N := 31) (n := 31) hts inX7 (hts (.instantiable RX7 31) (by decide +kernel))
  obtain ⟨a0, b0, e0, f0, g0, h0⟩ := Cond.arrayClass_spec (hts (.arrayClass .int) (by decide +kernel))
  obtain ⟨a1, b1, e1, f1, g1, h1⟩ := Cond.arrayClass_spec (hts (.arrayClass .long) (by decide +kernel))
  obtain ⟨a2, b2, e2, f2, g2, h2⟩ := Cond.arrayClass_spec (hts (.arrayClass .boolean) (by decide +kernel))
  obtain ⟨e3, a3, b3, n3, -, g3, h3, f3⟩ := Cond.arrayOver_spec (hts (.arrayOver (.object "NearTree$Node")) (by decide +kernel))
  refine ⟨((fun k => if k = 0 then c0 else if k = 1 then c1 else if k = 2 then c2 else if k = 3 then c3 else if k = 4 then c4 else if k = 5 then c5 else if k = 6 then c6 else c7, fun k => if k = 0 then i0 else if k = 1 then i1 else if k = 2 then i2 else if k = 3 then i3 else if k = 4 then i4 else if k = 5 then i5 else if k = 6 then i6 else i7), fun k => if k = 0 then a0 else if k = 1 then a1 else if k = 2 then a2 else a3), ?_, ?_⟩
  · intro k q hq
    match k, hq with
    | 0, hq => cases hq; exact hk0
    | 1, hq => cases hq; exact hk1
    | 2, hq => cases hq; exact hk2
    | 3, hq => cases hq; exact hk3
    | 4, hq => cases hq; exact hk4
    | 5, hq => cases hq; exact hk5
    | 6, hq => cases hq; exact hk6
    | 7, hq => cases hq; exact hk7
    | k + 8, hq => simp [vwCl] at hq
  · intro k q hq
    match k, hq with
    | 0, hq => cases hq; exact ⟨fun N z => ⟨(fun k h => by cases h), b0, g0, e0, h0⟩, f0⟩
    | 1, hq => cases hq; exact ⟨fun N z => ⟨(fun k h => by cases h), b1, g1, e1, h1⟩, f1⟩
    | 2, hq => cases hq; exact ⟨fun N z => ⟨(fun k h => by cases h), b2, g2, e2, h2⟩, f2⟩
    | 3, hq => cases hq; exact ⟨fun N z => ⟨(fun k h => by cases h), b3, g3, e3, h3⟩, b3, e3, g3, h3, n3, f3⟩
    | k + 4, hq => simp [gTy] at hq

theorem st_str1 : ∀ q ∈ gStr, Cond.stringRef RX6 q.1 q.2 ∈ lw_tbl := by decide +kernel
theorem st_str2 : ∀ q ∈ gStr, Cond.exactly (.string RX6 q.1) "java/lang/String" ∈ flatC (Jvm.Cond.and given_1 narrow_1) := by decide +kernel
theorem st_xw : ∀ w ∈ gXW, w ∈ lw_tbl := by decide +kernel
theorem st_xo : ∀ w ∈ gXW, w.onTables = true := by decide +kernel
theorem st_TH {s : State} {args : Array Value} (hts : ∀ w ∈ lw_tbl, w.before args s = true) (hgv : (Jvm.Cond.and given_1 narrow_1).before args s = true) : gTH (fun q : Nat => s.heap.size ≤ q) s s.heap := by
  have hf := flat_of_before _ hgv
  have hA : ∀ a : Nat, a < s.heap.size → ¬ (fun q : Nat => s.heap.size ≤ q) a := fun a ha => Nat.not_le.mpr ha
  refine ⟨vx_Zqof (hts (.laysStatic Bundle.tN "UNASSIGNED_STACK" Bundle.steD) (by decide +kernel)) (hts (.initialized Bundle.tN) (by decide +kernel)) (hf (.isRef (.static Bundle.tN "UNASSIGNED_STACK" Bundle.steD)) (by decide +kernel)) hA, vx_Zqof (hts (.laysStatic Bundle.tN "SUPPRESSED_SENTINEL" Bundle.listD) (by decide +kernel)) (hts (.initialized Bundle.tN) (by decide +kernel)) (hf (.isRef (.static Bundle.tN "SUPPRESSED_SENTINEL" Bundle.listD)) (by decide +kernel)) hA, fun w hw => va_Nw.of (st_xo w hw) (hts w (st_xw w hw)), fun q hq => ?_⟩
  obtain ⟨a, c, cA, kA, q1, -⟩ := Cond.exactly_spec (args := args) (first := s) (o := none) (s := s) (idx := []) (t := .string RX6 q.1) (cls := "java/lang/String") (hf _ (st_str2 q hq))
  exact ⟨a, vk_R.of (hts _ (st_str1 q hq)) q1⟩
theorem st_Nc {s : State} {args : Array Value} (hgv : (Jvm.Cond.and given_1 narrow_1).before args s = true) : va_Nc nISE nIAE s := va_Nc.of (flat_of_before _ hgv (.not (.castable nISE nIAE)) (by decide +kernel))
