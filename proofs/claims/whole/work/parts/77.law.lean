set_option maxHeartbeats 4000000 in
set_option maxRecDepth 100000 in
theorem l_cell (l : Launch) (b L : Nat) (xs : Nat → Int32) (hL : L ≤ 3585) : Met l yL_cell wsL_cell (gRm 0 0 0) (va_Pc [.ref b, .int (nI 0)] (fun U => va_X b L xs U U.heap ∧ b < U.heap.size)) (gR (some (.int (if 0 < L then xs 0 else nI 0)))) 0 0 (fun _ => False) := by
  refine Met.ofW (cc := cL_cell) (maxL := 2) (ret := some .int) (by decide) rfl ?_
  intro p e s m args below meth c s₁ B hml hv
  obtain ⟨rfl, hX, hbl⟩ := hv
  have hl := lv_entry ([.ref b, .int (nI 0)]) (n := 2) (Nat.le_of_ble_eq_true rfl)
  rw [lg_entry_eq]
  have hx := B.exec
  have hb := B.bytes
  have hr := B.returns
  have hlocks := B.notSynchronized
  have hS : va_S (fun _ : Nat => False) s.heap s.heap [] := va_S.rf
  have hbA : ¬ (fun _ : Nat => False) b := id
  generalize (lg_sl ([.ref b, .int (nI 0)]) ++ List.replicate (2 - (lg_sl ([.ref b, .int (nI 0)])).length) Slot.unset).toArray = ls at hl ⊢
  have hl : lv_has ls 2 [(0, .ref b), (1, .int (nI 0))] := hl
  refine lv_iload_n hx hb dL_cell_0 rfl (lv_at hl 1 rfl) ?_
  refine lv_aload_n hx hb dL_cell_1 rfl (lv_at hl 0 rfl) ?_
  refine va_slen hx hb hX hbl hbA hS dL_cell_2 ?_
  refine g_asi (show _ = nI L from rfl) ?_
  refine lv_icmp_ge (tgt := 12) hx hb dL_cell_3 (by decide) (fun c1 => ?_) (fun c1 => ?_)
  · have c1 : L ≤ 0 := (nI_leI (by omega) (by omega)).mp c1
    refine lv_iconst (v := nI 0) hx hb dL_cell_12 (by decide) ?_
    exact g_iret hx hb hr hlocks (by rw [if_neg (Nat.not_lt.mpr c1)]) dL_cell_13
  · have c1 : 0 < L := Nat.not_le.mp (fun z => c1 ((nI_leI (by omega) (by omega)).mpr z))
    refine lv_aload_n hx hb dL_cell_6 rfl (lv_at hl 0 rfl) ?_
    refine lv_iload_n hx hb dL_cell_7 rfl (lv_at hl 1 rfl) ?_
    refine va_sld hx hb hX hbl hbA hS (vp_in_nI c1 (by omega)) dL_cell_8 ?_
    refine lv_goto (tgt := 13) hx hb dL_cell_9 (by decide) ?_
    exact g_iret hx hb hr hlocks (by rw [if_pos c1]; rfl) dL_cell_13

set_option maxHeartbeats 4000000 in
set_option maxRecDepth 100000 in
theorem law_loop {p : Program} {l : Launch} {e : Env} {s : State} {m : MethodId} {below : List Frame} {meth : Method} {c : Code} {b L : Nat} {xs : Nat → Int32} {Γ : gG} (hC : LCt p l s m meth c b L xs Γ) (hL : L ≤ 3585) (o x m9 : Nat) :
    ∀ (n i cl sl : Nat) (K : gK) (F : gF) (H : Heap) (locs : List Loc) (ls : Array Slot), i ≤ 4000 → L + 7 ≤ i + 7 * n → cl + 2 * n ≤ 601024 → sl + 13 * n ≤ 7293000 → LVx K F o x m9 → gW Γ (fun q : Nat => s.heap.size ≤ q) s.heap K F H locs → lv_has ls 8 [(4, .int (nI i)), (0, .ref b), (1, .ref x), (2, .ref m9), (3, .ref o)] → W p l e room_1 s m #[Value.ref b] below meth c H locs (cl) (sl) (lw_Z below #[Value.ref b] s) (F0 m 33 ls [])
  | n, i, cl, sl, K, F, H, locs, ls, hi4, hn, hcl, hsl, hLV, hW, hl => by
    obtain ⟨⟨hx, hb, hr, hml, hown, hts0, hX, hbl, hlocks, hgv⟩, hN, hT0, hNc, hfl⟩ := id hC
    have hbA : ¬ (fun q : Nat => s.heap.size ≤ q) b := Nat.not_le.mpr hbl
    have hown : s.vm.findClass RL = some m.cls := hown
    have hts : ∀ w ∈ wsL_law, w.before #[Value.ref b] s = true := fun w h => hts0 w (wsL_law_in w h)
    refine lv_iload hx hb dL_law_33 (lv_at hl 0 rfl) ?_
    refine lv_aload_n hx hb dL_law_35 rfl (lv_at hl 1 rfl) ?_
    refine va_slen hx hb hX hbl hbA hW.2.1 dL_law_36 ?_
    refine g_asi (show _ = nI L from rfl) ?_
    refine lv_bipush (v := nI 7) hx hb dL_law_37 (by decide) ?_
    refine lv_isub hx hb dL_law_39 ?_
    have hcmp : (nI L - nI 7).toInt = (L : Int) - 7 := by
      rw [Int32.toInt_sub, nI_toInt (by omega), nI_toInt (by decide)]
      exact Int.bmod_eq_of_le (by omega) (by omega)
    refine lv_icmp_gt (tgt := 1179) hx hb dL_law_40 (by decide) (fun c1 => ?_) (fun c1 => ?_)
    · refine lv_iconst (v := nI 1) hx hb dL_law_1179 (by decide) ?_
      refine g_asi (show nI 1 = 1 from rfl) ?_
      refine va_forget (fun q hq => hW.2.1.2.2 q hq) ?_
      refine W.widen (k := 601024) (n := 7293000) (by omega) (by omega) ?_
      exact lw_ret hx hb hr hlocks dL_law_1180
    · have hi7 : i + 7 ≤ L := by
        rw [Int32.lt_iff_toInt_lt, hcmp, nI_toInt (by omega)] at c1
        omega
      cases n with
      | zero =>
        exact absurd hn (by omega)
      | succ n =>
        have next : ∀ (K : gK) (F : gF) (H : Heap) (locs : List Loc) (ls : Array Slot), LVx K F o x m9 → gW Γ (fun q : Nat => s.heap.size ≤ q) s.heap K F H locs → lv_has ls 8 [(4, .int (nI i)), (0, .ref b), (1, .ref x), (2, .ref m9), (3, .ref o)] → W p l e room_1 s m #[Value.ref b] below meth c H locs (cl + 2) (sl + 13) (lw_Z below #[Value.ref b] s) (F0 m 1173 ls []) := by
          intro K F H locs ls hLV hW hl
          refine lv_iinc (v := nI (i + 7)) (lv' := [(4, .int (nI (i + 7))), (0, .ref b), (1, .ref x), (2, .ref m9), (3, .ref o)]) hx hb dL_law_1173 hl (k := 0) rfl (incn _ _) (by decide) rfl (fun ls hl => ?_)
          refine lv_goto (tgt := 33) hx hb dL_law_1176 (by decide) ?_
          exact law_loop hC hL o x m9 n (i + 7) (cl + 2) (sl + 13) K F H locs ls (by omega) (by omega) (by omega) (by omega) hLV hW (lv_sub hl [0, 1, 2, 3, 4] rfl)
        obtain ⟨a0, ha0⟩ : ∃ a, a = xs (nI i).toNatClampNeg := ⟨_, rfl⟩
        refine lv_aload_n hx hb dL_law_43 rfl (lv_at hl 1 rfl) ?_
        refine lv_iload hx hb dL_law_44 (lv_at hl 0 rfl) ?_
        refine va_sld hx hb hX hbl hbA hW.2.1 (vp_in_nI (show i < L by omega) (by omega)) dL_law_46 ?_
        refine g_asi (show _ = a0 from ha0.symm) ?_
        refine lv_bipush (v := nI 15) hx hb dL_law_47 (by decide) ?_
        refine lv_iand hx hb dL_law_49 ?_
        obtain ⟨w9, hw9, hw2⟩ := pk_andE a0 (m := nI 15) 4 (by decide)
        refine g_asi (show _ = nI w9 from hw2) ?_
        rcases (show w9 = 0 ∨ w9 = 1 ∨ w9 = 2 ∨ w9 = 3 ∨ w9 = 4 ∨ w9 = 5 ∨ w9 = 6 ∨ w9 = 7 ∨ w9 = 8 ∨ w9 = 9 ∨ w9 = 10 ∨ w9 = 11 ∨ w9 = 12 ∨ w9 = 13 ∨ w9 = 14 ∨ w9 = 15 by omega) with rfl | rfl | rfl | rfl | rfl | rfl | rfl | rfl | rfl | rfl | rfl | rfl | rfl | rfl | rfl | rfl
        · refine lv_tableIn (tgt := 124) hx hb dL_law_50 (by decide) (by decide) (off := 74) (by decide) (by decide) ?_
          exact s_put hC hL i hi7 o x m9 cl sl (by omega) (by omega) next K F H locs ls hLV hW (lv_sub hl [0, 1, 2, 3, 4] rfl)
        · refine lv_tableIn (tgt := 228) hx hb dL_law_50 (by decide) (by decide) (off := 178) (by decide) (by decide) ?_
          exact s_drop hC hL i hi7 o x m9 cl sl (by omega) (by omega) next K F H locs ls hLV hW (lv_sub hl [0, 1, 2, 3, 4] rfl)
        · refine lv_tableIn (tgt := 284) hx hb dL_law_50 (by decide) (by decide) (off := 234) (by decide) (by decide) ?_
          exact s_at hC hL i hi7 o x m9 cl sl (by omega) (by omega) next K F H locs ls hLV hW (lv_sub hl [0, 1, 2, 3, 4] rfl)
        · refine lv_tableIn (tgt := 352) hx hb dL_law_50 (by decide) (by decide) (off := 302) (by decide) (by decide) ?_
          exact s_nearest hC hL i hi7 o x m9 cl sl (by omega) (by omega) next K F H locs ls hLV hW (lv_sub hl [0, 1, 2, 3, 4] rfl)
        · refine lv_tableIn (tgt := 456) hx hb dL_law_50 (by decide) (by decide) (off := 406) (by decide) (by decide) ?_
          exact s_within hC hL i hi7 o x m9 cl sl (by omega) (by omega) next K F H locs ls hLV hW (lv_sub hl [0, 1, 2, 3, 4] rfl)
        · refine lv_tableIn (tgt := 594) hx hb dL_law_50 (by decide) (by decide) (off := 544) (by decide) (by decide) ?_
          exact s_listed hC hL i hi7 o x m9 cl sl (by omega) (by omega) next K F H locs ls hLV hW (lv_sub hl [0, 1, 2, 3, 4] rfl)
        · refine lv_tableIn (tgt := 650) hx hb dL_law_50 (by decide) (by decide) (off := 600) (by decide) (by decide) ?_
          exact s_distance hC hL i hi7 o x m9 cl sl (by omega) (by omega) next K F H locs ls hLV hW (lv_sub hl [0, 1, 2, 3, 4] rfl)
        · refine lv_tableIn (tgt := 705) hx hb dL_law_50 (by decide) (by decide) (off := 655) (by decide) (by decide) ?_
          exact s_looked hC hL i hi7 o x m9 cl sl (by omega) (by omega) next K F H locs ls hLV hW (lv_sub hl [0, 1, 2, 3, 4] rfl)
        · refine lv_tableIn (tgt := 718) hx hb dL_law_50 (by decide) (by decide) (off := 668) (by decide) (by decide) ?_
          exact s_inBox hC hL i hi7 o x m9 cl sl (by omega) (by omega) next K F H locs ls hLV hW (lv_sub hl [0, 1, 2, 3, 4] rfl)
        · refine lv_tableIn (tgt := 836) hx hb dL_law_50 (by decide) (by decide) (off := 786) (by decide) (by decide) ?_
          exact s_pair hC hL i hi7 o x m9 cl sl (by omega) (by omega) next K F H locs ls hLV hW (lv_sub hl [0, 1, 2, 3, 4] rfl)
        · refine lv_tableIn (tgt := 891) hx hb dL_law_50 (by decide) (by decide) (off := 841) (by decide) (by decide) ?_
          exact s_parts hC hL i hi7 o x m9 cl sl (by omega) (by omega) next K F H locs ls hLV hW (lv_sub hl [0, 1, 2, 3, 4] rfl)
        · refine lv_tableIn (tgt := 979) hx hb dL_law_50 (by decide) (by decide) (off := 929) (by decide) (by decide) ?_
          exact s_span hC hL i hi7 o x m9 cl sl (by omega) (by omega) next K F H locs ls hLV hW (lv_sub hl [0, 1, 2, 3, 4] rfl)
        · refine lv_tableIn (tgt := 993) hx hb dL_law_50 (by decide) (by decide) (off := 943) (by decide) (by decide) ?_
          exact s_node hC hL i hi7 o x m9 cl sl (by omega) (by omega) next K F H locs ls hLV hW (lv_sub hl [0, 1, 2, 3, 4] rfl)
        · refine lv_tableIn (tgt := 1061) hx hb dL_law_50 (by decide) (by decide) (off := 1011) (by decide) (by decide) ?_
          exact s_walk hC hL i hi7 o x m9 cl sl (by omega) (by omega) next K F H locs ls hLV hW (lv_sub hl [0, 1, 2, 3, 4] rfl)
        · refine lv_tableIn (tgt := 1117) hx hb dL_law_50 (by decide) (by decide) (off := 1067) (by decide) (by decide) ?_
          exact s_count hC hL i hi7 o x m9 cl sl (by omega) (by omega) next K F H locs ls hLV hW (lv_sub hl [0, 1, 2, 3, 4] rfl)
        · refine lv_tableOut (tgt := 1173) hx hb dL_law_50 (by decide) (by decide) ?_
          refine W.widen (k := cl + 2) (n := sl + 13) (by omega) (by omega) ?_
          exact next K F H locs ls hLV hW (lv_sub hl [0, 1, 2, 3, 4] rfl)

set_option maxHeartbeats 4000000 in
set_option maxRecDepth 100000 in
/-- from the entry, for every script of at most 3585 ints, the law comes to its end with true -/
theorem whole_start {p : Program} {e : Env} {s : State} {m : MethodId} {below : List Frame} {meth : Method} {c : Code} (l : Launch) (hfl : l.stackTraces = false) {b L : Nat} {xs : Nat → Int32} (hL : L ≤ 3585) (C0 : lw_At p s m meth c b L xs) : W p l e room_1 s m #[Value.ref b] below meth c s.heap [] 0 0 (lw_Z below #[Value.ref b] s) (entryFrame m ([Value.ref b] : List Value).toArray 8) := by
  obtain ⟨hx, hb, hr, hml, hown, hts0, hX, hbl, hlocks, hgv⟩ := id C0
  have hbA : ¬ (fun q : Nat => s.heap.size ≤ q) b := Nat.not_le.mpr hbl
  have hown : s.vm.findClass RL = some m.cls := hown
  have hts : ∀ w ∈ wsL_law, w.before #[Value.ref b] s = true := fun w h => hts0 w (wsL_law_in w h)
  obtain ⟨Γ, hN⟩ := st_N hts0
  have hA9 : va_AO "NearTree$Node" s := va_AO.of (hts0 (.arrayOver (.object "NearTree$Node")) (by decide +kernel))
  obtain ⟨a9, ha9⟩ : ∃ a : Int32, a = (if 0 < L then xs 0 else nI 0) := ⟨_, rfl⟩
  have hi6 : ∀ w ∈ wsX60, w ∈ wsL_law := inlX6
  have hi7 : ∀ w ∈ wsX70, w ∈ wsL_law := inlX7
  have hl := lv_entry ([.ref b]) (n := 8) (Nat.le_of_ble_eq_true rfl)
  rw [lg_entry_eq]
  generalize (lg_sl ([.ref b]) ++ List.replicate (8 - (lg_sl ([.ref b])).length) Slot.unset).toArray = ls at hl ⊢
  have hl : lv_has ls 8 [(0, .ref b)] := hl
  obtain ⟨KN, hKN⟩ : ∃ K : gK, ∀ a, K a = none := ⟨fun _ => none, fun _ => rfl⟩
  obtain ⟨FN, -⟩ : ∃ F : gF, True := ⟨fun _ _ => .null, trivial⟩
  have hW : gW Γ (fun q : Nat => s.heap.size ≤ q) s.heap KN FN s.heap [] := ⟨fun a q h => (by rw [hKN] at h; cases h), va_S.rf, fun a q h => (by rw [hKN] at h; cases h), fun q h => h⟩
  refine g_new (C := RX6) (T := TX6) (N := 9) (ci := 6) hx hb hts hi6 tyX6 tyX6_ok hown (show Cond.classLink RL 8 RX6 ∈ _ by decide +kernel) (by decide +kernel) (by decide +kernel) hN hW rfl (by decide) (Nat.le_of_ble_eq_true rfl) (Nat.le_of_ble_eq_true rfl) dL_law_0 (fun x H hqe_x hq_x hW => ?_)
  refine lv_dup hx hb dL_law_3 rfl ?_
  refine lv_aload_n hx hb dL_law_4 rfl (lv_at hl 0 rfl) ?_
  refine lv_iconst (v := nI 0) hx hb dL_law_5 (by decide) ?_
  refine g_callP (va_runS (As := [.ref b, .int (nI 0)]) (rest := [.ref x, .ref x]) ⟨hx, hb, hml, hown, hts⟩ (l_cell l b L xs hL) (va_cwS 2 hts gL_law_L_cell rfl rfl rfl (by decide +kernel) ⟨by show _ ≤ 2048; decide, by show _ ≤ 84000; decide⟩) ⟨fun a U g mk q => by obtain ⟨q0, q1, q2⟩ := q; exact ⟨q0, va_X.moved (u := U) (U := U.calling g mk a) (Vm.Alike.refl U.vm) q1, q2⟩, fun U hU hW' => ⟨rfl, by rw [hU]; exact va_X.moved hW'.alike (hX.kept (hW.2.1.2.1 b hbl hbA)), by rw [hU]; exact Nat.lt_of_lt_of_le hbl hW.2.1.1⟩⟩ rfl rfl hl.1 rfl (lv_room (Nat.le_of_ble_eq_true rfl)) dL_law_6 ⟨Nat.le_of_ble_eq_true rfl, Nat.le_of_ble_eq_true rfl⟩) ?_
  show W _ _ _ _ _ _ _ _ _ _ _ _ _ _ _ (F0 m 9 ls (.int (if 0 < L then xs 0 else nI 0) :: [.ref x, .ref x]))
  refine g_asi (show _ = a9 from ha9.symm) ?_
  have hz6 : ∀ j, 5 ≤ j → j < 9 → va_up FN x (fun j => defaultValue (tyX6 j)) x j = .int (nI 0) := fun j h1 h2 => by
    rw [show va_up FN x (fun j => defaultValue (tyX6 j)) x j = defaultValue (tyX6 j) from congrFun (va_up_self _ _ _) j]
    rcases (show j = 5 ∨ j = 6 ∨ j = 7 ∨ j = 8 by omega) with rfl | rfl | rfl | rfl <;> rfl
  refine g_mIC (As := [.int a9]) (b := x) (rest := [.ref x]) hA9 hx hb hml hown hts hN hW (c_NearTree l Γ _ _ H.size x a9 (va_up_self _ _ _) hz6) gL_law_X6_init rfl (by decide +kernel) (by decide +kernel) (by decide +kernel) rfl (na := 1) rfl (by decide +kernel) ⟨by show _ ≤ 2048; decide, by show _ ≤ 84000; decide⟩ ⟨Nat.le_of_ble_eq_true rfl, Nat.le_of_ble_eq_true rfl⟩ rfl hl.1 (Nat.le_of_ble_eq_true rfl) dL_law_9 (fun v Kx Fx H locs hp hW hsz' => ?_)
  obtain ⟨rfl, lb, T, row, h9, ai, ad, J, pts, lens, hNT⟩ := hp
  show W _ _ _ _ _ _ _ _ _ _ _ _ _ _ _ (F0 m 12 ls [.ref x])
  refine lv_astore_n (lv' := [(1, .ref x), (0, .ref b)]) hx hb dL_law_12 rfl hl (by decide) rfl (fun ls hl => ?_)
  have hltx : ∀ a q, Kx a = some q → a < H.size := fun a q ha => (hW.1 a q ha).lt
  refine g_new (C := RX7) (T := TX7) (N := 31) (ci := 7) hx hb hts hi7 tyX7 tyX7_ok hown (show Cond.classLink RL 70 RX7 ∈ _ by decide +kernel) (by decide +kernel) (by decide +kernel) hN hW rfl (by decide) (Nat.le_of_ble_eq_true rfl) (Nat.le_of_ble_eq_true rfl) dL_law_13 (fun m9 H hqe_m9 hq_m9 hW => ?_)
  refine lv_dup hx hb dL_law_16 rfl ?_
  refine lv_aload_n hx hb dL_law_17 rfl (lv_at hl 1 rfl) ?_
  refine lv_iconst (v := nI 0) hx hb dL_law_18 (by decide) ?_
  refine g_callP (va_runS (As := [.ref b, .int (nI 0)]) (rest := [.ref m9, .ref m9]) ⟨hx, hb, hml, hown, hts⟩ (l_cell l b L xs hL) (va_cwS 2 hts gL_law_L_cell rfl rfl rfl (by decide +kernel) ⟨by show _ ≤ 2048; decide, by show _ ≤ 84000; decide⟩) ⟨fun a U g mk q => by obtain ⟨q0, q1, q2⟩ := q; exact ⟨q0, va_X.moved (u := U) (U := U.calling g mk a) (Vm.Alike.refl U.vm) q1, q2⟩, fun U hU hW' => ⟨rfl, by rw [hU]; exact va_X.moved hW'.alike (hX.kept (hW.2.1.2.1 b hbl hbA)), by rw [hU]; exact Nat.lt_of_lt_of_le hbl hW.2.1.1⟩⟩ rfl rfl hl.1 rfl (lv_room (Nat.le_of_ble_eq_true rfl)) dL_law_19 ⟨Nat.le_of_ble_eq_true rfl, Nat.le_of_ble_eq_true rfl⟩) ?_
  show W _ _ _ _ _ _ _ _ _ _ _ _ _ _ _ (F0 m 22 ls (.int (if 0 < L then xs 0 else nI 0) :: [.ref m9, .ref m9]))
  refine g_asi (show _ = a9 from ha9.symm) ?_
  have hz7 : ∀ j, j ∈ [0, 5, 14, 15, 16, 27, 28] → va_up Fx m9 (fun j => defaultValue (tyX7 j)) m9 j = .int (nI 0) := fun j hj => by
    rw [show va_up Fx m9 (fun j => defaultValue (tyX7 j)) m9 j = defaultValue (tyX7 j) from congrFun (va_up_self _ _ _) j]
    simp only [List.mem_cons, List.not_mem_nil, or_false] at hj
    rcases hj with rfl | rfl | rfl | rfl | rfl | rfl | rfl <;> rfl
  have hlt7 : ∀ a q, Kx a = some q → a < H.size := fun a q ha => (hW.1 a q (kup hq_m9 ha)).lt
  refine g_mIF (K1 := va_up KN m9 (some (7, 0))) (As := [.int a9]) (b := m9) (rest := [.ref m9]) hx hb hml hown hts hN hW (fun a q ha => by
    by_cases e : a = m9
    · rw [e] at ha ⊢; rw [va_up_self] at ha ⊢; exact ha
    · rw [va_up_ne _ _ e] at ha; rw [hKN] at ha; cases ha) (m_init l Γ _ _ H.size m9 a9 (va_up_self _ _ _) hz7) gL_law_X7_init rfl (by decide +kernel) (by decide +kernel) (by decide +kernel) rfl (na := 1) rfl (by decide +kernel) ⟨by show _ ≤ 2048; decide, by show _ ≤ 84000; decide⟩ ⟨Nat.le_of_ble_eq_true rfl, Nat.le_of_ble_eq_true rfl⟩ rfl hl.1 (Nat.le_of_ble_eq_true rfl) dL_law_22 (fun v Km Fm H locs hp hAm hW hsz2 => ?_)
  obtain ⟨hv, B, hk, hRS, -, -⟩ := hp
  subst hv
  have hxm : ∀ a q, Kx a = some q → Km a = none := fun a q ha => by
    cases hc : Km a with
    | none => rfl
    | some q2 =>
      rcases hAm a q2 hc with ⟨z, hz⟩ | hz
      · by_cases e : a = m9
        · rw [e, hq_m9] at ha; cases ha
        · rw [va_up_ne _ _ e, hKN] at hz; cases hz
      · exact absurd (hlt7 a q ha) (by omega)
  have hx3 : ∀ a q, Kx a = some q → kMg (va_up Kx m9 (some (7, 0))) (va_up KN m9 (some (7, 0))) Km a = some q := fun a q ha => by
    have e : a ≠ m9 := fun e => by rw [e, hq_m9] at ha; cases ha
    rw [kMg_old (hxm a q ha) (by rw [va_up_ne _ _ e, hKN]), va_up_ne _ _ e]
    exact ha
  have hm3 : ∀ a q, Km a = some q → kMg (va_up Kx m9 (some (7, 0))) (va_up KN m9 (some (7, 0))) Km a = some q := fun a q ha => kMg_new ha
  have hfx3 : ∀ a q i, Kx a = some q → fMg (va_up Fx m9 (fun j => defaultValue (tyX7 j))) Fm Km a i = Fx a i := fun a q i ha => by
    rw [fMg_old (hxm a q ha), va_up_ne _ _ (fun e => by rw [e, hq_m9] at ha; cases ha)]
  have hfm3 : ∀ a q i, Km a = some q → fMg (va_up Fx m9 (fun j => defaultValue (tyX7 j))) Fm Km a i = Fm a i := fun a q i ha => fMg_new ha
  generalize kMg (va_up Kx m9 (some (7, 0))) (va_up KN m9 (some (7, 0))) Km = K3 at hW hx3 hm3
  generalize fMg (va_up Fx m9 (fun j => defaultValue (tyX7 j))) Fm Km = F3 at hW hfx3 hfm3
  show W _ _ _ _ _ _ _ _ _ _ _ _ _ _ _ (F0 m 25 ls [.ref m9])
  refine lv_astore_n (lv' := [(2, .ref m9), (1, .ref x), (0, .ref b)]) hx hb dL_law_25 rfl hl (by decide) rfl (fun ls hl => ?_)
  refine lv_iconst (v := nI 1) hx hb dL_law_26 (by decide) ?_
  refine g_newa (t := 1) (N := 1) hx hb hts (by decide +kernel) (ty := .long) rfl hN hW rfl (fun h => h) rfl (by decide) (by decide) (Nat.le_of_ble_eq_true rfl) (Nat.le_of_ble_eq_true rfl) dL_law_27 (fun o H hqe_o hq_o hW => ?_)
  refine lv_astore_n (lv' := [(3, .ref o), (2, .ref m9), (1, .ref x), (0, .ref b)]) hx hb dL_law_29 rfl hl (by decide) rfl (fun ls hl => ?_)
  refine lv_iconst (v := nI 1) hx hb dL_law_30 (by decide) ?_
  refine lv_istore (lv' := [(4, .int (nI 1)), (3, .ref o), (2, .ref m9), (1, .ref x), (0, .ref b)]) hx hb dL_law_31 hl (by decide) rfl (fun ls hl => ?_)
  have hxo : Kx o = none := by
    cases hc : Kx o with
    | none => rfl
    | some q => rw [hx3 o q hc] at hq_o; cases hq_o
  have hmo : Km o = none := by
    cases hc : Km o with
    | none => rfl
    | some q => rw [hm3 o q hc] at hq_o; cases hq_o
  have hLV : LVx (va_up K3 o (some (9, 1))) (va_up F3 o (fun _ => defaultValue .long)) o x m9 := ⟨Kx, Km, lb, T, row, h9, ai, ad, J, pts, lens, B, axD a9, tL, fun _ => none, fun _ => (0, fun _ => 0), fun _ => 0, fun _ => false, [], 0, 0, 0, 0, 0, fun a q ha => kup hq_o (hx3 a q ha), fun a q ha => kup hq_o (hm3 a q ha), hxm, va_up_self _ _ _, hxo, hmo, NT_world hNT (fun a q i ha => (fup' hq_o (hx3 a q ha)).trans (hfx3 a q i ha)), hk, RS_off hk (RS_P (fun i _ => rfl) hRS) (fun a q i ha => (fup' hq_o (hm3 a q ha)).trans (hfm3 a q i ha))⟩
  exact law_loop ⟨C0, hN, st_TH hts0 hgv, st_Nc hgv, hfl⟩ hL o x m9 514 1 _ _ _ _ H locs ls (by decide) (by omega) (Nat.le_of_ble_eq_true rfl) (Nat.le_of_ble_eq_true rfl) hLV hW (lv_sub hl [0, 4, 3, 2, 1] rfl)
