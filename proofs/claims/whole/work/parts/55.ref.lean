def lbF (pp : Nat → Nat → Int32) (i : Nat) : gLb := ((i, pp i), false)
abbrev sndT (t : TT mLb) : TT gLb := tMap (fun y => y.2) t
theorem bldG_nil {α : Type} {lt : Nat → α → α → Bool} {d n dep : Nat} : bldG lt d n dep [] = tL := by
  cases n with
  | zero => rfl
  | succ n => simp [bldG, isort]
theorem sndT_leaf {t : TT mLb} (h : sndT t = tL) : t = tL := by
  cases t with
  | leaf => rfl
  | inner s y v l r => cases h
abbrev liv (L : List mLb) : List Nat := (L.filter (fun y => !y.2.2)).map (fun y => y.2.1.1)
def sdB : cxT mLb → Bool
  | [] => false
  | q :: _ => q.1
theorem sdC_sdB (c : cxT mLb) : sdC c (sdB c) := by
  cases c with
  | nil => trivial
  | cons q c => exact rfl
theorem RX_mem {F : gF} {B : Nat → Nat} : ∀ {t : TT mLb} {up : Option Nat} {y : mLb}, RX F B t up → y ∈ tPre t → ∃ u l r, RXn F B y.1 y.2 u l r := by
  intro t
  induction t with
  | leaf => intro up y h hy; cases hy
  | inner s z v L R ihl ihr =>
    intro up y h hy
    rcases List.mem_cons.mp hy with e | e
    · exact ⟨_, _, _, e ▸ h.1⟩
    · rcases List.mem_append.mp e with e | e
      · exact ihl h.2.1 e
      · exact ihr h.2.2 e
theorem RX_rt {F : gF} {B : Nat → Nat} {t : TT mLb} {up : Option Nat} {n : Nat} (h : RX F B t up) (hr : rtI t = some n) : (∃ y l r, RXn F B n y up l r) ∧ n ∈ ixT t := by
  cases t with
  | leaf => cases hr
  | inner s y v l r => cases hr; exact ⟨⟨_, _, _, h.1⟩, List.mem_map.mpr ⟨y, List.mem_cons_self, rfl⟩⟩
theorem liv_snoc (L : List mLb) (y : mLb) : liv (L ++ [y]) = liv L ++ (if y.2.2 = true then [] else [y.2.1.1]) := by
  unfold liv
  rw [List.filter_append, List.map_append]
  congr 1
  cases h : y.2.2 <;> simp [List.filter, h]
theorem liv_len (L : List mLb) : (liv L).length ≤ L.length := by unfold liv; rw [List.length_map]; exact List.length_filter_le _ _
def JX (B : Nat → Nat) (F1 F2 : gF) (fr n o : Nat) : Prop := (∀ i, i < fr ∨ fr + n ≤ i → F2 (B 19) i = F1 (B 19) i) ∧ ∀ i, i < o → F2 (B 20) i = F1 (B 20) i ∧ F2 (B 21) i = F1 (B 21) i ∧ F2 (B 22) i = F1 (B 22) i ∧ F2 (B 23) i = F1 (B 23) i
theorem sndT_mem {pp : Nat → Nat → Int32} {d n dep : Nat} {L : List Nat} {t : TT mLb} (hL : L.length ≤ n) (h : sndT t = tMap (lbF pp) (bldG (ltP pp) d n dep L)) : ∀ y ∈ tPre t, y.2.1.1 ∈ L := fun y hy => by
  have q : y.2 ∈ tPre (sndT t) := by rw [tPre_map]; exact List.mem_map.mpr ⟨y, hy, rfl⟩
  rw [h, tPre_map] at q
  obtain ⟨i, hi, e⟩ := List.mem_map.mp q
  rw [← e]
  exact (bldG_perm _ _ _ _ _ hL).mem_iff.mp hi
theorem ixC_cons (b : Bool) (y : mLb) (o : TT mLb) (c : cxT mLb) : ixC ((b, y, o) :: c) = y.1 :: (ixT o ++ ixC c) := by simp [ixC, cAd, ixT]
theorem ixT_leaf : ixT (tL : TT mLb) = [] := rfl
theorem ixT_node (l : TT mLb) (y : mLb) (r : TT mLb) : ixT (tN l y r) = y.1 :: (ixT l ++ ixT r) := by simp [ixT, tPre]

set_option maxHeartbeats 4000000 in
set_option maxRecDepth 100000 in
theorem m_build (l : Launch) (Γ : gG) (K : gK) (F : gF) (sz : Nat) (m9 : Nat) (B : Nat → Nat) (hk : MKk K m9 B) (hf : MKf F m9 B) (d : Nat) (hd0 : 0 < d) (hd4 : d ≤ 4) (pp : Nat → Nat → Int32) (s0 : TT mLb) (cx : cxT mLb) (hd1 : F m9 1 = .int (nI d)) (hX : RX F B s0 (cTI cx)) (hC : CX F B m9 cx (rtI s0)) (hrs : ∃ n, rtI s0 = some n) (hU : usL F B (ixT s0 ++ ixC cx)) (hnd : (ixT s0 ++ ixC cx).Nodup) (hpt : ∀ y ∈ tPre s0, y.2.2 = false → ∀ a, a < 4 → F (B 3) (4 * y.2.1.1 + a) = .int (pp y.2.1.1 a)) (hLd : (liv (tPre s0)).Nodup) (hlv : (liv (tPre s0)).length ≤ 60) (hsz : tSz s0 + (ixC cx).length ≤ 130) : gMM l yX7_build wsX7_build 1 0 0 Γ K F sz [.ref m9, .int (oI (rtI s0))] (fun v K' F' => v = some (.int (nI (liv (tPre s0)).length)) ∧ K' = K ∧ ∃ t, sndT t = tMap (lbF pp) (bldG (ltP pp) d 60 cx.length (liv (tPre s0))) ∧ RX F' B t (cTI cx) ∧ CX F' B m9 cx (rtI t) ∧ usL F' B (ixT t ++ ixC cx) ∧ (ixT t ++ ixC cx).Nodup ∧ (∀ y ∈ tPre t, F' (B 4) y.2.1.1 = .int (nI y.1)) ∧ (∀ i, i ∉ (liv (tPre s0)) → F' (B 4) i = F (B 4) i) ∧ frL (17 :: 18 :: JB) B m9 F F') := by
  refine g_mM (cc := cX7_build) (maxL := 14) (ret := (some .int)) (by decide) rfl (Nat.le_of_ble_eq_true rfl) ?_
  intro p e s m args below meth c ls Z hsz hx hb hts hown hml hnm hN hW hret hl
  have hl : lv_has ls 14 [(0, .ref m9), (1, .int (oI (rtI s0)))] := hl
  have hown : s.vm.findClass RX7 = some m.cls := hown
  have hi7 : ∀ w ∈ wsX70, w ∈ wsX7_build := by decide +kernel
  have hfX7_24 : Cond.fieldLink RX7 24 (TX7 6).1 (TX7 6).2.1 (TX7 6).2.2.1 ∈ wsX7_build := by decide +kernel
  have hfX7_27 : Cond.fieldLink RX7 27 (TX7 7).1 (TX7 7).2.1 (TX7 7).2.2.1 ∈ wsX7_build := by decide +kernel
  have hfX7_33 : Cond.fieldLink RX7 33 (TX7 9).1 (TX7 9).2.1 (TX7 9).2.2.1 ∈ wsX7_build := by decide +kernel
  have hfX7_36 : Cond.fieldLink RX7 36 (TX7 10).1 (TX7 10).2.1 (TX7 10).2.2.1 ∈ wsX7_build := by decide +kernel
  have hfX7_42 : Cond.fieldLink RX7 42 (TX7 12).1 (TX7 12).2.1 (TX7 12).2.2.1 ∈ wsX7_build := by decide +kernel
  have hfX7_48 : Cond.fieldLink RX7 48 (TX7 17).1 (TX7 17).2.1 (TX7 17).2.2.1 ∈ wsX7_build := by decide +kernel
  have hfX7_54 : Cond.fieldLink RX7 54 (TX7 19).1 (TX7 19).2.1 (TX7 19).2.2.1 ∈ wsX7_build := by decide +kernel
  have hfX7_57 : Cond.fieldLink RX7 57 (TX7 20).1 (TX7 20).2.1 (TX7 20).2.2.1 ∈ wsX7_build := by decide +kernel
  have hfX7_60 : Cond.fieldLink RX7 60 (TX7 21).1 (TX7 21).2.1 (TX7 21).2.2.1 ∈ wsX7_build := by decide +kernel
  have hfX7_63 : Cond.fieldLink RX7 63 (TX7 22).1 (TX7 22).2.1 (TX7 22).2.2.1 ∈ wsX7_build := by decide +kernel
  have hfX7_66 : Cond.fieldLink RX7 66 (TX7 23).1 (TX7 23).2.1 (TX7 23).2.2.1 ∈ wsX7_build := by decide +kernel
  have hfX7_85 : Cond.fieldLink RX7 85 (TX7 1).1 (TX7 1).2.1 (TX7 1).2.2.1 ∈ wsX7_build := by decide +kernel
  obtain ⟨n, hr⟩ : ∃ n, rtI s0 = some n := hrs
  obtain ⟨⟨y0, l0, r0, hXr⟩, hnm9⟩ := RX_rt hX hr
  have hn140 := hXr.1
  have hup := hXr.2.2.2.2.2.2.2
  have hon : oI (rtI s0) = nI n := by rw [hr]; rfl
  have hll := liv_len (tPre s0)
  rw [tPre_len] at hll
  have hixl : (ixT s0).length = tSz s0 := by unfold ixT; rw [List.length_map, tPre_len]
  obtain ⟨mm, hmm⟩ : ∃ mm, mm = (liv (tPre s0)).length := ⟨_, rfl⟩
  have seg : ∀ (n9 : Nat) (L : List Nat) (cx : cxT mLb) (b9 : Bool) (F1 : gF) (fr o : Nat) (H : Heap) (locs : List Loc) (ls : Array Slot), L.length ≤ n9 → L ≠ [] → CX F1 B m9 cx none → rowL F1 (B 19) fr (L.map vI) → (∀ i ∈ L, i < 100 ∧ ∀ a, a < 4 → F1 (B 3) (4 * i + a) = .int (pp i a)) → F1 (B 20) o = .int (nI fr) → F1 (B 21) o = .int (nI (fr + L.length)) → F1 (B 22) o = .int (oI (cTI cx)) → F1 (B 23) o = .int (bI b9) → sdC cx b9 → usL F1 B (ixC cx) → (ixC cx).Nodup → (ixC cx).length + L.length ≤ 130 → fr + L.length ≤ 60 → o + L.length ≤ 60 → L.Nodup → MKf F1 m9 B → F1 m9 1 = .int (nI d) → gW Γ (gA K sz) s.heap K F1 H locs → lv_has ls 14 [(6, .int (nI (o + 1))), (5, .int (nI mm)), (0, .ref m9)] → (∀ (t : TT mLb) (F2 : gF) (H : Heap) (locs : List Loc) (ls : Array Slot), sndT t = tMap (lbF pp) (bldG (ltP pp) d n9 cx.length L) → RX F2 B t (cTI cx) → CX F2 B m9 cx (rtI t) → usL F2 B (ixT t ++ ixC cx) → (ixT t ++ ixC cx).Nodup → (∀ y ∈ tPre t, F2 (B 4) y.2.1.1 = .int (nI y.1)) → (∀ i, i ∉ L → F2 (B 4) i = F1 (B 4) i) → JX B F1 F2 fr L.length o → frL JB B m9 F1 F2 → gW Γ (gA K sz) s.heap K F2 H locs → lv_has ls 14 [(6, .int (nI o)), (5, .int (nI mm)), (0, .ref m9)] → W p l e (gRm 1 0 0) s m args below meth c H locs 0 0 Z (F0 m 151 ls [])) → W p l e (gRm 1 0 0) s m args below meth c H locs 0 0 Z (F0 m 151 ls []) := by
    intro n9
    induction n9 with
    | zero => intro L cx b9 F1 fr o H locs ls h1 h2; exact absurd (List.length_eq_zero_iff.mp (Nat.le_zero.mp h1)) h2
    | succ n9 ih =>
      intro L cx b9 F1 fr o H locs ls hLn hLne hC hrow hpt h20 h21 h22 h23 hb9 hU hnd hlen hfr60 ho60 hLd hf1 hd1 hW hl cont
      have hLp : 0 < L.length := List.length_pos_iff.mpr hLne
      refine lv_iload hx hb dX7_build_151 (lv_at hl 0 rfl) ?_
      refine lv_if_le (tgt := 364) hx hb dX7_build_153 (by decide) (fun c1 => ?_) (fun c1 => ?_)
      · have c1 : (o + 1) = 0 := (nI_le0 (by omega)).mp c1
        exact absurd c1 (by omega)
      · have c1 : 0 < (o + 1) := Nat.pos_of_ne_zero (fun z => c1 ((nI_le0 (by omega)).mpr z))
        refine lv_iinc (v := nI o) (lv' := [(6, .int (nI o)), (5, .int (nI mm)), (0, .ref m9)]) hx hb dX7_build_156 hl (k := 0) rfl (dec1s _) (by decide) rfl (fun ls hl => ?_)
        refine lv_aload_n hx hb dX7_build_159 rfl (lv_at hl 2 rfl) ?_
        refine g_get (C := RX7) (T := TX7) (N := 31) hx hb hts hi7 hown hN hW.1 hk.1 rfl (by decide) 20 (by decide) hfX7_57 (v := .ref (B 20)) (hf1 20 rfl) dX7_build_160 ?_
        refine lv_iload hx hb dX7_build_163 (lv_at hl 0 rfl) ?_
        refine g_iald (j := o) hx hb hN hW.1 (hk.2.1 20 (8, 100) rfl) (by decide) (show _ = nI o from rfl) (by omega) (v := .int (nI fr)) h20 dX7_build_165 ?_
        refine lv_istore (lv' := [(7, .int (nI fr)), (6, .int (nI o)), (5, .int (nI mm)), (0, .ref m9)]) hx hb dX7_build_166 hl (by decide) rfl (fun ls hl => ?_)
        refine lv_aload_n hx hb dX7_build_168 rfl (lv_at hl 3 rfl) ?_
        refine g_get (C := RX7) (T := TX7) (N := 31) hx hb hts hi7 hown hN hW.1 hk.1 rfl (by decide) 21 (by decide) hfX7_60 (v := .ref (B 21)) (hf1 21 rfl) dX7_build_169 ?_
        refine lv_iload hx hb dX7_build_172 (lv_at hl 1 rfl) ?_
        refine g_iald (j := o) hx hb hN hW.1 (hk.2.1 21 (8, 100) rfl) (by decide) (show _ = nI o from rfl) (by omega) (v := .int (nI (fr + L.length))) h21 dX7_build_174 ?_
        refine lv_istore (lv' := [(8, .int (nI (fr + L.length))), (7, .int (nI fr)), (6, .int (nI o)), (5, .int (nI mm)), (0, .ref m9)]) hx hb dX7_build_175 hl (by decide) rfl (fun ls hl => ?_)
        refine lv_aload_n hx hb dX7_build_177 rfl (lv_at hl 4 rfl) ?_
        refine g_get (C := RX7) (T := TX7) (N := 31) hx hb hts hi7 hown hN hW.1 hk.1 rfl (by decide) 22 (by decide) hfX7_63 (v := .ref (B 22)) (hf1 22 rfl) dX7_build_178 ?_
        refine lv_iload hx hb dX7_build_181 (lv_at hl 2 rfl) ?_
        refine g_iald (j := o) hx hb hN hW.1 (hk.2.1 22 (8, 100) rfl) (by decide) (show _ = nI o from rfl) (by omega) (v := .int (oI (cTI cx))) h22 dX7_build_183 ?_
        refine lv_istore (lv' := [(9, .int (oI (cTI cx))), (8, .int (nI (fr + L.length))), (7, .int (nI fr)), (6, .int (nI o)), (5, .int (nI mm)), (0, .ref m9)]) hx hb dX7_build_184 hl (by decide) rfl (fun ls hl => ?_)
        refine lv_aload_n hx hb dX7_build_186 rfl (lv_at hl 5 rfl) ?_
        refine g_get (C := RX7) (T := TX7) (N := 31) hx hb hts hi7 hown hN hW.1 hk.1 rfl (by decide) 23 (by decide) hfX7_66 (v := .ref (B 23)) (hf1 23 rfl) dX7_build_187 ?_
        refine lv_iload hx hb dX7_build_190 (lv_at hl 3 rfl) ?_
        refine g_zald (j := o) hx hb hN hW.1 (hk.2.1 23 (10, 100) rfl) (by decide) (show _ = nI o from rfl) (by omega) (v := .int (bI b9)) h23 dX7_build_192 ?_
        refine lv_istore (lv' := [(10, .int (bI b9)), (9, .int (oI (cTI cx))), (8, .int (nI (fr + L.length))), (7, .int (nI fr)), (6, .int (nI o)), (5, .int (nI mm)), (0, .ref m9)]) hx hb dX7_build_193 hl (by decide) rfl (fun ls hl => ?_)
        have mid : ∀ (ls : Array Slot), lv_has ls 14 [(10, .int (bI b9)), (9, .int (oI (cTI cx))), (8, .int (nI (fr + L.length))), (7, .int (nI fr)), (6, .int (nI o)), (5, .int (nI mm)), (0, .ref m9)] → W p l e (gRm 1 0 0) s m args below meth c H locs 0 0 Z (F0 m 213 ls [.int (nI cx.length)]) := by
          intro ls hl
          have hcl : cx.length ≤ (ixC cx).length := by unfold ixC; rw [List.length_map]; exact cAd_len cx
          refine lv_aload_n hx hb dX7_build_213 rfl (lv_at hl 6 rfl) ?_
          refine g_get (C := RX7) (T := TX7) (N := 31) hx hb hts hi7 hown hN hW.1 hk.1 rfl (by decide) 1 (by decide) hfX7_85 (v := .int (nI d)) hd1 dX7_build_214 ?_
          refine lv_irem hx hb dX7_build_217 (fun z => by have := (nI_eq0 (by omega)).mp z; omega) ?_
          refine g_asi (show _ = nI (cx.length % d) from pk_rem (by omega) (by omega) (by omega)) ?_
          refine lv_istore (lv' := [(11, .int (nI (cx.length % d))), (10, .int (bI b9)), (9, .int (oI (cTI cx))), (8, .int (nI (fr + L.length))), (7, .int (nI fr)), (6, .int (nI o)), (5, .int (nI mm)), (0, .ref m9)]) hx hb dX7_build_218 hl (by decide) rfl (fun ls hl => ?_)
          obtain ⟨ax, hax⟩ : ∃ ax, ax = cx.length % d := ⟨_, rfl⟩
          have haxd : ax < d := by rw [hax]; exact Nat.mod_lt _ hd0
          rw [← hax] at hl
          refine lv_aload_n hx hb dX7_build_220 rfl (lv_at hl 7 rfl) ?_
          refine lv_iload hx hb dX7_build_221 (lv_at hl 0 rfl) ?_
          refine lv_iload hx hb dX7_build_223 (lv_at hl 4 rfl) ?_
          refine lv_iload hx hb dX7_build_225 (lv_at hl 3 rfl) ?_
          refine g_mV (As := [.int (nI ax), .int (nI fr), .int (nI (fr + L.length))]) (b := m9) (rest := []) hx hb hml hown hts hN hW (m_sortBy l Γ K F1 H.size m9 B hk hf1 ax fr L pp hrow hpt (by omega) (by omega)) gX7_build_X7_sortBy rfl hk.1 (by decide) rfl (na := 3) rfl (by decide +kernel) ⟨by decide, by decide⟩ ⟨Nat.le_of_ble_eq_true rfl, Nat.le_of_ble_eq_true rfl⟩ rfl hl.1 (Nat.le_of_ble_eq_true rfl) dX7_build_227 (fun v K' F2 H locs hp hW hsz' => ?_)
          obtain ⟨rfl, hK9, hrow2, hfr2⟩ := hp
          subst K'
          show W _ _ _ _ _ _ _ _ _ _ _ _ _ _ _ (F0 m 230 ls [])
          obtain ⟨Ls, hLs⟩ : ∃ Ls, Ls = isort (ltP pp ax) [] L := ⟨_, rfl⟩
          rw [← hLs] at hrow2
          have hLl : Ls.length = L.length := by rw [hLs, isort_len]; exact Nat.zero_add _
          have hLm : ∀ x, x ∈ Ls ↔ x ∈ L := fun x => by rw [hLs, isort_mem]; simp
          have hLsd : Ls.Nodup := by rw [hLs]; exact (isort_perm (ltP pp ax) L []).nodup_iff.mpr hLd
          obtain ⟨h9, hh9⟩ : ∃ h, h = L.length / 2 := ⟨_, rfl⟩
          have hh1 : h9 < L.length := by omega
          obtain ⟨y9, ys, hys⟩ : ∃ y ys, Ls.drop h9 = y :: ys := by
            cases e : Ls.drop h9 with
            | nil => have := congrArg List.length e; rw [List.length_drop, hLl] at this; exact absurd this (by simp; omega)
            | cons y ys => exact ⟨y, ys, rfl⟩
          obtain ⟨A9, hA9⟩ : ∃ A, A = Ls.take h9 := ⟨_, rfl⟩
          have hAl : A9.length = h9 := by rw [hA9, List.length_take, hLl]; omega
          have hsp : Ls = A9 ++ y9 :: ys := by rw [hA9, ← hys, List.take_append_drop]
          have hyl : h9 + (ys.length + 1) = L.length := by rw [← hLl, hsp, List.length_append, hAl, List.length_cons]
          have hnd2 := hsp ▸ hLsd
          rw [List.nodup_append] at hnd2
          obtain ⟨nA, nY, nAY⟩ := hnd2
          have nY2 := List.nodup_cons.mp nY
          have hyL : y9 ∈ L := (hLm y9).mp (by rw [hsp]; simp)
          have hAL : ∀ x ∈ A9, x ∈ L := fun x hx => (hLm x).mp (by rw [hsp]; simp [hx])
          have hYL : ∀ x ∈ ys, x ∈ L := fun x hx => (hLm x).mp (by rw [hsp]; simp [hx])
          have hrA : rowL F2 (B 19) fr (A9.map vI) := by rw [hsp, List.map_append] at hrow2; exact hrow2.left
          have hrY : rowL F2 (B 19) (fr + h9) ((y9 :: ys).map vI) := by
            rw [hsp, List.map_append] at hrow2
            have := hrow2.right
            rw [List.length_map, hAl] at this
            exact this
          have hry := hrY.head
          have hrYs := hrY.tail
          have hbld : bldG (ltP pp) d (n9 + 1) cx.length L = tN (bldG (ltP pp) d n9 (cx.length + 1) A9) y9 (bldG (ltP pp) d n9 (cx.length + 1) ys) := by
            rw [bldG_cons (y := y9) (ys := ys) (by rw [← hax, ← hLs, ← hh9]; exact hys), ← hax, ← hLs, ← hh9, ← hA9]
          have s2 : ∀ j i, (mKd j).isSome = true → j ≠ 19 → F2 (B j) i = F1 (B j) i := fun j i h1 h2 => hfr2 _ i (fun z => hk.ne h1 rfl h2 z.1)
          have s2m : ∀ i, F2 m9 i = F1 m9 i := fun i => hfr2 _ i (fun z => hk.nm (i := 19) rfl z.1.symm)
          have hf2 : MKf F2 m9 B := hf1.up (fun j _ => s2m j)
          have hyp := hpt y9 hyL
          have hC2 : CX F2 B m9 cx none := CX_congr (fun n _ j i h1 h2 _ => s2 j i (mKd_7 h1 h2) (by omega)) (s2m 13) hC
          obtain ⟨n0, hn0, hn0U⟩ := free_ix (ixC cx) (by omega)
          have hs9 : fr + L.length - fr = L.length := by omega
          refine lv_iload hx hb dX7_build_230 (lv_at hl 4 rfl) ?_
          refine lv_iload hx hb dX7_build_232 (lv_at hl 3 rfl) ?_
          refine lv_iload hx hb dX7_build_234 (lv_at hl 4 rfl) ?_
          refine lv_isub hx hb dX7_build_236 ?_
          refine g_asi (show _ = nI L.length from by rw [pk_sub (by omega), hs9]) ?_
          refine lv_iconst (v := nI 2) hx hb dX7_build_237 (by decide) ?_
          refine lv_idiv hx hb dX7_build_238 (by decide) ?_
          refine g_asi (show _ = nI (L.length / 2) from pk_div (by omega) (by omega) (by omega)) ?_
          rw [← hh9]
          refine lv_iadd hx hb dX7_build_239 ?_
          refine g_asi (show _ = nI (fr + h9) from (nI_add _ _).trans (by rfl)) ?_
          refine lv_istore (lv' := [(12, .int (nI (fr + h9))), (11, .int (nI ax)), (10, .int (bI b9)), (9, .int (oI (cTI cx))), (8, .int (nI (fr + L.length))), (7, .int (nI fr)), (6, .int (nI o)), (5, .int (nI mm)), (0, .ref m9)]) hx hb dX7_build_240 hl (by decide) rfl (fun ls hl => ?_)
          refine lv_aload_n hx hb dX7_build_242 rfl (lv_at hl 8 rfl) ?_
          refine lv_aload_n hx hb dX7_build_243 rfl (lv_at hl 8 rfl) ?_
          refine g_get (C := RX7) (T := TX7) (N := 31) hx hb hts hi7 hown hN hW.1 hk.1 rfl (by decide) 19 (by decide) hfX7_54 (v := .ref (B 19)) (hf2 19 rfl) dX7_build_244 ?_
          refine lv_iload hx hb dX7_build_247 (lv_at hl 0 rfl) ?_
          refine g_iald (j := fr + h9) hx hb hN hW.1 (hk.2.1 19 (8, 100) rfl) (by decide) (show _ = nI (fr + h9) from rfl) (by omega) (v := .int (nI y9)) hry dX7_build_249 ?_
          refine lv_iload hx hb dX7_build_250 (lv_at hl 3 rfl) ?_
          refine g_mV (As := [.int (nI y9), .int (oI (cTI cx))]) (b := m9) (rest := []) hx hb hml hown hts hN hW (m_newNode l Γ K F2 H.size m9 B hk hf2 y9 n0 (oI (cTI cx)) (fun j => decide (j ∈ ixC cx)) (pp y9) hyp.1 (fun j hj => (s2 6 j rfl (by decide)).trans (hU j hj)) hn0 (decide_eq_false hn0U) (fun a ha => (s2 3 _ rfl (by decide)).trans (hyp.2 a ha))) gX7_build_X7_newNode rfl hk.1 (by decide) rfl (na := 2) rfl (by decide +kernel) ⟨by decide, by decide⟩ ⟨Nat.le_of_ble_eq_true rfl, Nat.le_of_ble_eq_true rfl⟩ rfl hl.1 (Nat.le_of_ble_eq_true rfl) dX7_build_252 (fun v K' F3 H locs hp hW hsz' => ?_)
          obtain ⟨x9, hx9, hxU, rfl, hK9, hnw⟩ := hp
          subst K'
          show W _ _ _ _ _ _ _ _ _ _ _ _ _ _ _ (F0 m 255 ls [.int (nI x9)])
          have hxU := of_decide_eq_false hxU
          obtain ⟨w6, w7, w8, w9, w10, w11, w12, w4, wf⟩ := hnw
          have s3m : ∀ i, F3 m9 i = F2 m9 i := fun i => wf m9 i (fun z => by
            rcases z.1 with q | q | q | q | q | q
            · exact hk.nm (i := 6) rfl q.symm
            · exact hk.nm (i := 7) rfl q.symm
            · exact hk.nm (i := 9) rfl q.symm
            · exact hk.nm (i := 10) rfl q.symm
            · exact hk.nm (i := 11) rfl q.symm
            · exact hk.nm (i := 12) rfl q.symm) (fun z => hk.nm (i := 8) rfl z.1.symm) (fun z => hk.nm (i := 4) rfl z.1.symm)
          have s3 : ∀ j i, (mKd j).isSome = true → (j = 3 ∨ 13 ≤ j) → F3 (B j) i = F2 (B j) i := fun j i h1 h2 => wf _ i (fun z => by
            rcases z.1 with q | q | q | q | q | q
            · exact hk.ne h1 (j := 6) rfl (by omega) q
            · exact hk.ne h1 (j := 7) rfl (by omega) q
            · exact hk.ne h1 (j := 9) rfl (by omega) q
            · exact hk.ne h1 (j := 10) rfl (by omega) q
            · exact hk.ne h1 (j := 11) rfl (by omega) q
            · exact hk.ne h1 (j := 12) rfl (by omega) q) (fun z => hk.ne h1 (j := 8) rfl (by omega) z.1) (fun z => hk.ne h1 (j := 4) rfl (by omega) z.1)
          have hf3 : MKf F3 m9 B := hf2.up (fun j _ => s3m j)
          have k3 : ∀ n, n ≠ x9 → kpN F2 F3 B n := fun n hne => kpN_off (x := x9) (fun j i h1 h2 h3 h4 => wf _ i (fun z => by
              refine h3 ⟨fun e => ?_, z.2⟩
              subst e
              rcases z.1 with q | q | q | q | q | q
              · exact hk.ne (i := 8) (j := 6) rfl rfl (by decide) q
              · exact hk.ne (i := 8) (j := 7) rfl rfl (by decide) q
              · exact hk.ne (i := 8) (j := 9) rfl rfl (by decide) q
              · exact hk.ne (i := 8) (j := 10) rfl rfl (by decide) q
              · exact hk.ne (i := 8) (j := 11) rfl rfl (by decide) q
              · exact hk.ne (i := 8) (j := 12) rfl rfl (by decide) q) (fun z => by
              by_cases e : j = 8
              · exact h4 ⟨e, z.2⟩
              · exact hk.ne (mKd_7 h1 h2) (j := 8) rfl e z.1) (fun z => hk.ne (mKd_7 h1 h2) (j := 4) rfl (by omega) z.1)) hne
          have nxc : ∀ n ∈ ixC cx, n ≠ x9 := fun n hn e => hxU (e ▸ hn)
          have hC3 : CX F3 B m9 cx none := CX_congr (fun n hn => k3 n (nxc n hn)) (s3m 13) hC2
          have hX3 : RXn F3 B x9 (lbF pp y9) (cTI cx) none none := ⟨hx9, hyp.1, w7, w8, w9, w10, w11, w12⟩
          refine lv_istore (lv' := [(13, .int (nI x9)), (12, .int (nI (fr + h9))), (11, .int (nI ax)), (10, .int (bI b9)), (9, .int (oI (cTI cx))), (8, .int (nI (fr + L.length))), (7, .int (nI fr)), (6, .int (nI o)), (5, .int (nI mm)), (0, .ref m9)]) hx hb dX7_build_255 hl (by decide) rfl (fun ls hl => ?_)
          refine lv_aload_n hx hb dX7_build_257 rfl (lv_at hl 9 rfl) ?_
          refine lv_iload hx hb dX7_build_258 (lv_at hl 0 rfl) ?_
          refine lv_iload hx hb dX7_build_260 (lv_at hl 4 rfl) ?_
          refine lv_iload hx hb dX7_build_262 (lv_at hl 3 rfl) ?_
          refine g_mV (As := [.int (nI x9), .int (oI (cTI cx)), .int (bI b9)]) (b := m9) (rest := []) hx hb hml hown hts hN hW (m_hangC l Γ K F3 H.size m9 B hk hf3 cx none (some x9) b9 hb9 hC3 hnd) gX7_build_X7_hang rfl hk.1 (by decide) rfl (na := 3) rfl (by decide +kernel) ⟨by decide, by decide⟩ ⟨Nat.le_of_ble_eq_true rfl, Nat.le_of_ble_eq_true rfl⟩ rfl hl.1 (Nat.le_of_ble_eq_true rfl) dX7_build_264 (fun v K' F4 H locs hp hW hsz' => ?_)
          obtain ⟨rfl, hK9, hC4, hfr4⟩ := hp
          subst K'
          show W _ _ _ _ _ _ _ _ _ _ _ _ _ _ _ (F0 m 267 ls [])
          have cxm : ∀ j, some j = cTI cx → j ∈ ixC cx := fun j hj => by
            rcases cx with _ | ⟨⟨b, y, o9⟩, c9⟩
            · cases hj
            · cases hj; rw [ixC_cons]; exact List.mem_cons_self
          have s4m : ∀ i, i ≠ 13 → F4 m9 i = F3 m9 i := fun i hi => hfr4 m9 i (fun z => hi z.2) (fun z => by
            rcases z.1 with q | q
            · exact hk.nm (i := 10) rfl q.symm
            · exact hk.nm (i := 11) rfl q.symm)
          have s4 : ∀ j i, (mKd j).isSome = true → j ≠ 10 → j ≠ 11 → F4 (B j) i = F3 (B j) i := fun j i h1 h2 h3 => hfr4 _ i (fun z => hk.nm h1 z.1) (fun z => by
            rcases z.1 with q | q
            · exact hk.ne h1 (j := 10) rfl h2 q
            · exact hk.ne h1 (j := 11) rfl h3 q)
          have hf4 : MKf F4 m9 B := hf3.up (fun j hj => s4m j (fun e => by rw [e] at hj; exact absurd hj (by decide)))
          have hX4 : RXn F4 B x9 (lbF pp y9) (cTI cx) none none := RXn_congr (fun j i h1 h2 h3 => hfr4 _ i (fun z => hk.nm (mKd_7 h1 h2) z.1) (fun z => by
            have hi : i ∈ ixC cx := cxm i z.2
            rcases h3 with h3 | h3
            · exact nxc i hi h3.2
            · rw [h3.1] at z
              rcases z.1 with q | q
              · exact hk.ne (i := 8) (j := 10) rfl rfl (by decide) q
              · exact hk.ne (i := 8) (j := 11) rfl rfl (by decide) q)) hX3
          have hU4 : usL F4 B (x9 :: ixC cx) := fun j hj => by
            rw [s4 6 j rfl (by decide) (by decide)]
            by_cases e : j = x9
            · subst e; rw [w6, decide_eq_true List.mem_cons_self]
            · rw [wf (B 6) j (fun z => e z.2) (fun z => hk.ne (i := 6) (j := 8) rfl rfl (by decide) z.1) (fun z => hk.ne (i := 6) (j := 4) rfl rfl (by decide) z.1), s2 6 j rfl (by decide), hU j hj]
              congr 3
              exact propext ⟨fun q => List.mem_cons_of_mem _ q, fun q => (List.mem_cons.mp q).resolve_left e⟩
          have e14 : ∀ j i, (mKd j).isSome = true → (j = 3 ∨ 13 ≤ j) → j ≠ 19 → F4 (B j) i = F1 (B j) i := fun j i h1 h2 h3 => (s4 j i h1 (by omega) (by omega)).trans ((s3 j i h1 h2).trans (s2 j i h1 h3))
          have e19 : ∀ i, F4 (B 19) i = F2 (B 19) i := fun i => (s4 19 i rfl (by decide) (by decide)).trans (s3 19 i rfl (Or.inr (by decide)))
          have e4 : F4 (B 4) y9 = .int (nI x9) := (s4 4 _ rfl (by decide) (by decide)).trans w4
          have e4o : ∀ i, i ≠ y9 → F4 (B 4) i = F1 (B 4) i := fun i hi => (s4 4 i rfl (by decide) (by decide)).trans ((wf (B 4) i (fun z => by
            rcases z.1 with q | q | q | q | q | q
            · exact hk.ne (i := 4) (j := 6) rfl rfl (by decide) q
            · exact hk.ne (i := 4) (j := 7) rfl rfl (by decide) q
            · exact hk.ne (i := 4) (j := 9) rfl rfl (by decide) q
            · exact hk.ne (i := 4) (j := 10) rfl rfl (by decide) q
            · exact hk.ne (i := 4) (j := 11) rfl rfl (by decide) q
            · exact hk.ne (i := 4) (j := 12) rfl rfl (by decide) q) (fun z => hk.ne (i := 4) (j := 8) rfl rfl (by decide) z.1) (fun z => hi z.2)).trans (s2 4 i rfl (by decide)))
          have fr14 : frL JB B m9 F1 F4 := fun b i hb hm => by
            have g : ∀ j, j ∈ JB → b ≠ B j := fun j hj => hb j hj
            rw [hfr4 b i hm (fun z => z.1.elim (g 10 (by decide)) (g 11 (by decide))), wf b i (fun z => by
              rcases z.1 with q | q | q | q | q | q
              · exact g 6 (by decide) q
              · exact g 7 (by decide) q
              · exact g 9 (by decide) q
              · exact g 10 (by decide) q
              · exact g 11 (by decide) q
              · exact g 12 (by decide) q) (fun z => g 8 (by decide) z.1) (fun z => g 4 (by decide) z.1), hfr2 b i (fun z => g 19 (by decide) z.1)]
          have hm41 : F4 m9 1 = .int (nI d) := (s4m 1 (by decide)).trans ((s3m 1).trans ((s2m 1).trans hd1))
          have hptA : ∀ (G : gF), frL JB B m9 F4 G → ∀ i, i ∈ L → i < 100 ∧ ∀ a, a < 4 → G (B 3) (4 * i + a) = .int (pp i a) := fun G hG i hi => ⟨(hpt i hi).1, fun a ha => ((hG.at hk (q := 3) rfl (by decide)).trans (e14 3 _ rfl (Or.inl rfl) (by decide))).trans ((hpt i hi).2 a ha)⟩
          have hndx : (x9 :: ixC cx).Nodup := List.nodup_cons.mpr ⟨hxU, hnd⟩
          have hfr19 : ∀ i, i < fr ∨ fr + L.length ≤ i → F2 (B 19) i = F1 (B 19) i := fun i hi => hfr2 _ i (fun z => by omega)
          clear s2 s3 s3m s4m wf hfr4 hfr2 k3
          refine lv_iload hx hb dX7_build_267 (lv_at hl 1 rfl) ?_
          refine lv_iconst (v := nI 1) hx hb dX7_build_269 (by decide) ?_
          refine lv_iadd hx hb dX7_build_270 ?_
          refine g_asi (show _ = nI ((fr + h9) + 1) from (nI_add _ _).trans (by rfl)) ?_
          refine lv_iload hx hb dX7_build_271 (lv_at hl 5 rfl) ?_
          refine lv_icmp_ge (tgt := 316) hx hb dX7_build_273 (by decide) (fun c2 => ?_) (fun c2 => ?_)
          · have c2 : (fr + L.length) ≤ ((fr + h9) + 1) := (nI_leI (by omega) (by omega)).mp c2
            obtain rfl : ys = [] := List.length_eq_zero_iff.mp (by omega)
            rw [bldG_nil] at hbld
            refine lv_iload hx hb dX7_build_316 (lv_at hl 6 rfl) ?_
            refine lv_iload hx hb dX7_build_318 (lv_at hl 1 rfl) ?_
            refine lv_icmp_ge (tgt := 361) hx hb dX7_build_320 (by decide) (fun c3 => ?_) (fun c3 => ?_)
            · have c3 : (fr + h9) ≤ fr := (nI_leI (by omega) (by omega)).mp c3
              refine lv_goto (tgt := 151) hx hb dX7_build_361 (by decide) ?_
              obtain rfl : A9 = [] := List.length_eq_zero_iff.mp (by omega)
              rw [bldG_nil] at hbld
              refine cont (tN tL (x9, lbF pp y9) tL) F4 H locs ls (by rw [hbld]; rfl) ⟨hX4, trivial, trivial⟩ hC4 (by rw [ixT_node]; exact hU4) (by rw [ixT_node]; exact hndx) (fun y hy => ?_) (fun i hi => e4o i (fun e => hi (e ▸ hyL))) ⟨fun i hi => ?_, fun i hi => ⟨e14 20 i rfl (Or.inr (by decide)) (by decide), e14 21 i rfl (Or.inr (by decide)) (by decide), e14 22 i rfl (Or.inr (by decide)) (by decide), e14 23 i rfl (Or.inr (by decide)) (by decide)⟩⟩ fr14 hW (lv_sub hl [7, 8, 9] rfl)
              · rw [List.mem_singleton.mp hy]; exact e4
              · rw [e19]; exact hfr19 i hi
            · have c3 : fr < (fr + h9) := Nat.not_le.mp (fun z => c3 ((nI_leI (by omega) (by omega)).mpr z))
              refine lv_aload_n hx hb dX7_build_323 rfl (lv_at hl 9 rfl) ?_
              refine g_get (C := RX7) (T := TX7) (N := 31) hx hb hts hi7 hown hN hW.1 hk.1 rfl (by decide) 20 (by decide) hfX7_57 (v := .ref (B 20)) (hf4 20 rfl) dX7_build_324 ?_
              refine lv_iload hx hb dX7_build_327 (lv_at hl 7 rfl) ?_
              refine lv_iload hx hb dX7_build_329 (lv_at hl 6 rfl) ?_
              refine g_iast (j := o) hx hb hN hW (hk.2.1 20 (8, 100) rfl) (by decide) (show _ = nI o from rfl) (by omega) dX7_build_331 (fun H locs hW => ?_)
              refine lv_aload_n hx hb dX7_build_332 rfl (lv_at hl 9 rfl) ?_
              refine g_get (C := RX7) (T := TX7) (N := 31) hx hb hts hi7 hown hN hW.1 hk.1 rfl (by decide) 21 (by decide) hfX7_60 (v := .ref (B 21)) ((gU_a (Ne.symm (hk.nm (i := 20) rfl))).trans (hf4 21 rfl)) dX7_build_333 ?_
              refine lv_iload hx hb dX7_build_336 (lv_at hl 7 rfl) ?_
              refine lv_iload hx hb dX7_build_338 (lv_at hl 1 rfl) ?_
              refine g_iast (j := o) hx hb hN hW (hk.2.1 21 (8, 100) rfl) (by decide) (show _ = nI o from rfl) (by omega) dX7_build_340 (fun H locs hW => ?_)
              refine lv_aload_n hx hb dX7_build_341 rfl (lv_at hl 9 rfl) ?_
              refine g_get (C := RX7) (T := TX7) (N := 31) hx hb hts hi7 hown hN hW.1 hk.1 rfl (by decide) 22 (by decide) hfX7_63 (v := .ref (B 22)) ((gU_a (Ne.symm (hk.nm (i := 21) rfl))).trans ((gU_a (Ne.symm (hk.nm (i := 20) rfl))).trans (hf4 22 rfl))) dX7_build_342 ?_
              refine lv_iload hx hb dX7_build_345 (lv_at hl 7 rfl) ?_
              refine lv_iload hx hb dX7_build_347 (lv_at hl 0 rfl) ?_
              refine g_iast (j := o) hx hb hN hW (hk.2.1 22 (8, 100) rfl) (by decide) (show _ = nI o from rfl) (by omega) dX7_build_349 (fun H locs hW => ?_)
              refine lv_aload_n hx hb dX7_build_350 rfl (lv_at hl 9 rfl) ?_
              refine g_get (C := RX7) (T := TX7) (N := 31) hx hb hts hi7 hown hN hW.1 hk.1 rfl (by decide) 23 (by decide) hfX7_66 (v := .ref (B 23)) ((gU_a (Ne.symm (hk.nm (i := 22) rfl))).trans ((gU_a (Ne.symm (hk.nm (i := 21) rfl))).trans ((gU_a (Ne.symm (hk.nm (i := 20) rfl))).trans (hf4 23 rfl)))) dX7_build_351 ?_
              refine lv_iload hx hb dX7_build_354 (lv_at hl 7 rfl) ?_
              refine lv_iconst (v := nI 1) hx hb dX7_build_356 (by decide) ?_
              refine g_asi (show _ = bI true from bI_t') ?_
              refine g_zast (j := o) hx hb hN hW (hk.2.1 23 (10, 100) rfl) (by decide) rfl (show _ = nI o from rfl) (by omega) dX7_build_357 (fun H locs hW => ?_)
              obtain ⟨G5, hG5⟩ : ∃ f, f = (gU (gU (gU (gU F4 (B 20) o (.int (nI fr))) (B 21) o (.int (nI (fr + h9)))) (B 22) o (.int (nI x9))) (B 23) o (.int (bI true))) := ⟨_, rfl⟩
              rw [← hG5] at hW
              have G520 : G5 (B 20) (o) = .int (nI fr) := by rw [hG5, gU_a (hk.ne (i := 20) (j := 23) rfl rfl (by decide)), gU_a (hk.ne (i := 20) (j := 22) rfl rfl (by decide)), gU_a (hk.ne (i := 20) (j := 21) rfl rfl (by decide)), gU_self]
              have G521 : G5 (B 21) (o) = .int (nI (fr + h9)) := by rw [hG5, gU_a (hk.ne (i := 21) (j := 23) rfl rfl (by decide)), gU_a (hk.ne (i := 21) (j := 22) rfl rfl (by decide)), gU_self]
              have G522 : G5 (B 22) (o) = .int (nI x9) := by rw [hG5, gU_a (hk.ne (i := 22) (j := 23) rfl rfl (by decide)), gU_self]
              have G523 : G5 (B 23) (o) = .int (bI true) := by rw [hG5, gU_self]
              have G5f : ∀ b i, ¬ ((b = B 20 ∨ b = B 21 ∨ b = B 22 ∨ b = B 23) ∧ i = o) → G5 b i = F4 b i := fun b i h => by rw [hG5, gU_ne (fun z => h ⟨by simp [z.1], z.2⟩), gU_ne (fun z => h ⟨by simp [z.1], z.2⟩), gU_ne (fun z => h ⟨by simp [z.1], z.2⟩), gU_ne (fun z => h ⟨by simp [z.1], z.2⟩)]
              have G5j : ∀ j i, (mKd j).isSome = true → j < 20 ∨ 23 < j → G5 (B j) i = F4 (B j) i := fun j i h1 h2 => G5f _ i (fun z => by
                rcases z.1 with q | q | q | q
                · exact hk.ne h1 (j := 20) rfl (by omega) q
                · exact hk.ne h1 (j := 21) rfl (by omega) q
                · exact hk.ne h1 (j := 22) rfl (by omega) q
                · exact hk.ne h1 (j := 23) rfl (by omega) q)
              have G5m : ∀ i, G5 m9 i = F4 m9 i := fun i => G5f _ i (fun z => by
                rcases z.1 with q | q | q | q
                · exact hk.nm (i := 20) rfl q.symm
                · exact hk.nm (i := 21) rfl q.symm
                · exact hk.nm (i := 22) rfl q.symm
                · exact hk.nm (i := 23) rfl q.symm)
              have G5r : frL JB B m9 F4 G5 := fun b i hb _ => G5f b i (fun z => by
                rcases z.1 with q | q | q | q
                · exact hb 20 (by decide) q
                · exact hb 21 (by decide) q
                · exact hb 22 (by decide) q
                · exact hb 23 (by decide) q)
              have G5k : ∀ n, kpN F4 G5 B n := fun n j i h1 h2 _ => G5j j i (mKd_7 h1 h2) (by omega)
              refine lv_iinc (v := nI (o + 1)) (lv' := [(6, .int (nI (o + 1))), (13, .int (nI x9)), (12, .int (nI (fr + h9))), (11, .int (nI ax)), (10, .int (bI b9)), (9, .int (oI (cTI cx))), (8, .int (nI (fr + L.length))), (7, .int (nI fr)), (5, .int (nI mm)), (0, .ref m9)]) hx hb dX7_build_358 hl (k := 7) rfl (inc1 _) (by decide) rfl (fun ls hl => ?_)
              refine lv_goto (tgt := 151) hx hb dX7_build_361 (by decide) ?_
              refine ih A9 ((true, (x9, lbF pp y9), tL) :: cx) true G5 fr o H locs ls (by omega) (fun e => by rw [e] at hAl; simp at hAl; omega) ⟨RXn_congr (G5k x9) hX4, trivial, CX_congr (fun n _ => G5k n) (G5m 13) hC4⟩ (hrA.keep (fun j _ _ => (G5j 19 j rfl (by decide)).trans (e19 j))) (fun i hi => hptA G5 G5r i (hAL i hi)) G520 (by rw [hAl]; exact G521) G522 G523 rfl (fun j hj => by rw [G5j 6 j rfl (by decide)]; exact hU4 j hj) (by rw [ixC_cons]; exact hndx) (by rw [ixC_cons, List.length_cons, List.length_append]; simp [ixT, tPre]; omega) (by omega) (by omega) nA (G5r.f hk (by decide) hf4) ((G5m 1).trans hm41) hW (lv_sub hl [0, 8, 9] rfl) (fun t1 F6 H locs ls ht1 hX6 hC6 hU6 hn6 h46 ho6 hJ6 hr6 hW hl => ?_)
              obtain ⟨hCn, -, hCc⟩ := hC6
              have hmem := sndT_mem (by omega) ht1
              refine cont (tN t1 (x9, lbF pp y9) tL) F6 H locs ls (by rw [hbld]; show tN (sndT t1) _ tL = tN _ _ tL; rw [ht1]; rfl) ⟨hCn, hX6, trivial⟩ hCc (hU6.set (fun j => by rw [ixC_cons, ixT_node]; simp only [ixT_leaf, List.nil_append, List.append_nil, List.mem_append, List.mem_cons]; rw [or_assoc]; exact or_left_comm)) (by
                refine (List.Perm.nodup_iff ?_).mp hn6
                rw [ixC_cons, ixT_node]
                show (ixT t1 ++ x9 :: ([] ++ ixC cx)).Perm (x9 :: (ixT t1 ++ []) ++ ixC cx)
                rw [List.nil_append, List.append_nil]
                exact List.perm_middle) (fun y hy => ?_) (fun i hi => ?_) ⟨fun i hi => ?_, fun i hi => ?_⟩ (fr14.trans (G5r.trans hr6)) hW hl
              · rcases List.mem_cons.mp hy with e | e
                · rw [e]
                  exact (ho6 y9 (fun z => nAY y9 z y9 List.mem_cons_self rfl)).trans ((G5j 4 _ rfl (by decide)).trans e4)
                · exact h46 y ((List.mem_append.mp e).resolve_right (fun z => by cases z))
              · exact (ho6 i (fun z => hi (hAL i z))).trans ((G5j 4 _ rfl (by decide)).trans (e4o i (fun e => hi (e ▸ hyL))))
              · exact (hJ6.1 i (by omega)).trans ((G5j 19 i rfl (by decide)).trans ((e19 i).trans (hfr19 i hi)))
              · have q := hJ6.2 i hi
                exact ⟨q.1.trans ((G5f _ i (fun z => by omega)).trans (e14 20 i rfl (Or.inr (by decide)) (by decide))), q.2.1.trans ((G5f _ i (fun z => by omega)).trans (e14 21 i rfl (Or.inr (by decide)) (by decide))), q.2.2.1.trans ((G5f _ i (fun z => by omega)).trans (e14 22 i rfl (Or.inr (by decide)) (by decide))), q.2.2.2.trans ((G5f _ i (fun z => by omega)).trans (e14 23 i rfl (Or.inr (by decide)) (by decide)))⟩
          · have c2 : ((fr + h9) + 1) < (fr + L.length) := Nat.not_le.mp (fun z => c2 ((nI_leI (by omega) (by omega)).mpr z))
            refine lv_aload_n hx hb dX7_build_276 rfl (lv_at hl 9 rfl) ?_
            refine g_get (C := RX7) (T := TX7) (N := 31) hx hb hts hi7 hown hN hW.1 hk.1 rfl (by decide) 20 (by decide) hfX7_57 (v := .ref (B 20)) (hf4 20 rfl) dX7_build_277 ?_
            refine lv_iload hx hb dX7_build_280 (lv_at hl 7 rfl) ?_
            refine lv_iload hx hb dX7_build_282 (lv_at hl 1 rfl) ?_
            refine lv_iconst (v := nI 1) hx hb dX7_build_284 (by decide) ?_
            refine lv_iadd hx hb dX7_build_285 ?_
            refine g_asi (show _ = nI ((fr + h9) + 1) from (nI_add _ _).trans (by rfl)) ?_
            refine g_iast (j := o) hx hb hN hW (hk.2.1 20 (8, 100) rfl) (by decide) (show _ = nI o from rfl) (by omega) dX7_build_286 (fun H locs hW => ?_)
            refine lv_aload_n hx hb dX7_build_287 rfl (lv_at hl 9 rfl) ?_
            refine g_get (C := RX7) (T := TX7) (N := 31) hx hb hts hi7 hown hN hW.1 hk.1 rfl (by decide) 21 (by decide) hfX7_60 (v := .ref (B 21)) ((gU_a (Ne.symm (hk.nm (i := 20) rfl))).trans (hf4 21 rfl)) dX7_build_288 ?_
            refine lv_iload hx hb dX7_build_291 (lv_at hl 7 rfl) ?_
            refine lv_iload hx hb dX7_build_293 (lv_at hl 5 rfl) ?_
            refine g_iast (j := o) hx hb hN hW (hk.2.1 21 (8, 100) rfl) (by decide) (show _ = nI o from rfl) (by omega) dX7_build_295 (fun H locs hW => ?_)
            refine lv_aload_n hx hb dX7_build_296 rfl (lv_at hl 9 rfl) ?_
            refine g_get (C := RX7) (T := TX7) (N := 31) hx hb hts hi7 hown hN hW.1 hk.1 rfl (by decide) 22 (by decide) hfX7_63 (v := .ref (B 22)) ((gU_a (Ne.symm (hk.nm (i := 21) rfl))).trans ((gU_a (Ne.symm (hk.nm (i := 20) rfl))).trans (hf4 22 rfl))) dX7_build_297 ?_
            refine lv_iload hx hb dX7_build_300 (lv_at hl 7 rfl) ?_
            refine lv_iload hx hb dX7_build_302 (lv_at hl 0 rfl) ?_
            refine g_iast (j := o) hx hb hN hW (hk.2.1 22 (8, 100) rfl) (by decide) (show _ = nI o from rfl) (by omega) dX7_build_304 (fun H locs hW => ?_)
            refine lv_aload_n hx hb dX7_build_305 rfl (lv_at hl 9 rfl) ?_
            refine g_get (C := RX7) (T := TX7) (N := 31) hx hb hts hi7 hown hN hW.1 hk.1 rfl (by decide) 23 (by decide) hfX7_66 (v := .ref (B 23)) ((gU_a (Ne.symm (hk.nm (i := 22) rfl))).trans ((gU_a (Ne.symm (hk.nm (i := 21) rfl))).trans ((gU_a (Ne.symm (hk.nm (i := 20) rfl))).trans (hf4 23 rfl)))) dX7_build_306 ?_
            refine lv_iload hx hb dX7_build_309 (lv_at hl 7 rfl) ?_
            refine lv_iconst (v := nI 0) hx hb dX7_build_311 (by decide) ?_
            refine g_asi (show _ = bI false from bI_f') ?_
            refine g_zast (j := o) hx hb hN hW (hk.2.1 23 (10, 100) rfl) (by decide) rfl (show _ = nI o from rfl) (by omega) dX7_build_312 (fun H locs hW => ?_)
            obtain ⟨G5, hG5⟩ : ∃ f, f = (gU (gU (gU (gU F4 (B 20) o (.int (nI ((fr + h9) + 1)))) (B 21) o (.int (nI (fr + L.length)))) (B 22) o (.int (nI x9))) (B 23) o (.int (bI false))) := ⟨_, rfl⟩
            rw [← hG5] at hW
            have G520 : G5 (B 20) (o) = .int (nI (fr + h9 + 1)) := by rw [hG5, gU_a (hk.ne (i := 20) (j := 23) rfl rfl (by decide)), gU_a (hk.ne (i := 20) (j := 22) rfl rfl (by decide)), gU_a (hk.ne (i := 20) (j := 21) rfl rfl (by decide)), gU_self]
            have G521 : G5 (B 21) (o) = .int (nI (fr + L.length)) := by rw [hG5, gU_a (hk.ne (i := 21) (j := 23) rfl rfl (by decide)), gU_a (hk.ne (i := 21) (j := 22) rfl rfl (by decide)), gU_self]
            have G522 : G5 (B 22) (o) = .int (nI x9) := by rw [hG5, gU_a (hk.ne (i := 22) (j := 23) rfl rfl (by decide)), gU_self]
            have G523 : G5 (B 23) (o) = .int (bI false) := by rw [hG5, gU_self]
            have G5f : ∀ b i, ¬ ((b = B 20 ∨ b = B 21 ∨ b = B 22 ∨ b = B 23) ∧ i = o) → G5 b i = F4 b i := fun b i h => by rw [hG5, gU_ne (fun z => h ⟨by simp [z.1], z.2⟩), gU_ne (fun z => h ⟨by simp [z.1], z.2⟩), gU_ne (fun z => h ⟨by simp [z.1], z.2⟩), gU_ne (fun z => h ⟨by simp [z.1], z.2⟩)]
            have G5j : ∀ j i, (mKd j).isSome = true → j < 20 ∨ 23 < j → G5 (B j) i = F4 (B j) i := fun j i h1 h2 => G5f _ i (fun z => by
              rcases z.1 with q | q | q | q
              · exact hk.ne h1 (j := 20) rfl (by omega) q
              · exact hk.ne h1 (j := 21) rfl (by omega) q
              · exact hk.ne h1 (j := 22) rfl (by omega) q
              · exact hk.ne h1 (j := 23) rfl (by omega) q)
            have G5m : ∀ i, G5 m9 i = F4 m9 i := fun i => G5f _ i (fun z => by
              rcases z.1 with q | q | q | q
              · exact hk.nm (i := 20) rfl q.symm
              · exact hk.nm (i := 21) rfl q.symm
              · exact hk.nm (i := 22) rfl q.symm
              · exact hk.nm (i := 23) rfl q.symm)
            have G5r : frL JB B m9 F4 G5 := fun b i hb _ => G5f b i (fun z => by
              rcases z.1 with q | q | q | q
              · exact hb 20 (by decide) q
              · exact hb 21 (by decide) q
              · exact hb 22 (by decide) q
              · exact hb 23 (by decide) q)
            have G5k : ∀ n, kpN F4 G5 B n := fun n j i h1 h2 _ => G5j j i (mKd_7 h1 h2) (by omega)
            refine lv_iinc (v := nI (o + 1)) (lv' := [(6, .int (nI (o + 1))), (13, .int (nI x9)), (12, .int (nI (fr + h9))), (11, .int (nI ax)), (10, .int (bI b9)), (9, .int (oI (cTI cx))), (8, .int (nI (fr + L.length))), (7, .int (nI fr)), (5, .int (nI mm)), (0, .ref m9)]) hx hb dX7_build_313 hl (k := 7) rfl (inc1 _) (by decide) rfl (fun ls hl => ?_)
            refine lv_iload hx hb dX7_build_316 (lv_at hl 7 rfl) ?_
            refine lv_iload hx hb dX7_build_318 (lv_at hl 2 rfl) ?_
            refine lv_icmp_ge (tgt := 361) hx hb dX7_build_320 (by decide) (fun c3 => ?_) (fun c3 => ?_)
            · have c3 : (fr + h9) ≤ fr := (nI_leI (by omega) (by omega)).mp c3
              exact absurd c3 (by omega)
            · have c3 : fr < (fr + h9) := Nat.not_le.mp (fun z => c3 ((nI_leI (by omega) (by omega)).mpr z))
              refine lv_aload_n hx hb dX7_build_323 rfl (lv_at hl 9 rfl) ?_
              refine g_get (C := RX7) (T := TX7) (N := 31) hx hb hts hi7 hown hN hW.1 hk.1 rfl (by decide) 20 (by decide) hfX7_57 (v := .ref (B 20)) ((G5m 20).trans (hf4 20 rfl)) dX7_build_324 ?_
              refine lv_iload hx hb dX7_build_327 (lv_at hl 0 rfl) ?_
              refine lv_iload hx hb dX7_build_329 (lv_at hl 7 rfl) ?_
              refine g_iast (j := o + 1) hx hb hN hW (hk.2.1 20 (8, 100) rfl) (by decide) (show _ = nI (o + 1) from rfl) (by omega) dX7_build_331 (fun H locs hW => ?_)
              refine lv_aload_n hx hb dX7_build_332 rfl (lv_at hl 9 rfl) ?_
              refine g_get (C := RX7) (T := TX7) (N := 31) hx hb hts hi7 hown hN hW.1 hk.1 rfl (by decide) 21 (by decide) hfX7_60 (v := .ref (B 21)) ((gU_a (Ne.symm (hk.nm (i := 20) rfl))).trans ((G5m 21).trans (hf4 21 rfl))) dX7_build_333 ?_
              refine lv_iload hx hb dX7_build_336 (lv_at hl 0 rfl) ?_
              refine lv_iload hx hb dX7_build_338 (lv_at hl 2 rfl) ?_
              refine g_iast (j := o + 1) hx hb hN hW (hk.2.1 21 (8, 100) rfl) (by decide) (show _ = nI (o + 1) from rfl) (by omega) dX7_build_340 (fun H locs hW => ?_)
              refine lv_aload_n hx hb dX7_build_341 rfl (lv_at hl 9 rfl) ?_
              refine g_get (C := RX7) (T := TX7) (N := 31) hx hb hts hi7 hown hN hW.1 hk.1 rfl (by decide) 22 (by decide) hfX7_63 (v := .ref (B 22)) ((gU_a (Ne.symm (hk.nm (i := 21) rfl))).trans ((gU_a (Ne.symm (hk.nm (i := 20) rfl))).trans ((G5m 22).trans (hf4 22 rfl)))) dX7_build_342 ?_
              refine lv_iload hx hb dX7_build_345 (lv_at hl 0 rfl) ?_
              refine lv_iload hx hb dX7_build_347 (lv_at hl 1 rfl) ?_
              refine g_iast (j := o + 1) hx hb hN hW (hk.2.1 22 (8, 100) rfl) (by decide) (show _ = nI (o + 1) from rfl) (by omega) dX7_build_349 (fun H locs hW => ?_)
              refine lv_aload_n hx hb dX7_build_350 rfl (lv_at hl 9 rfl) ?_
              refine g_get (C := RX7) (T := TX7) (N := 31) hx hb hts hi7 hown hN hW.1 hk.1 rfl (by decide) 23 (by decide) hfX7_66 (v := .ref (B 23)) ((gU_a (Ne.symm (hk.nm (i := 22) rfl))).trans ((gU_a (Ne.symm (hk.nm (i := 21) rfl))).trans ((gU_a (Ne.symm (hk.nm (i := 20) rfl))).trans ((G5m 23).trans (hf4 23 rfl))))) dX7_build_351 ?_
              refine lv_iload hx hb dX7_build_354 (lv_at hl 0 rfl) ?_
              refine lv_iconst (v := nI 1) hx hb dX7_build_356 (by decide) ?_
              refine g_asi (show _ = bI true from bI_t') ?_
              refine g_zast (j := o + 1) hx hb hN hW (hk.2.1 23 (10, 100) rfl) (by decide) rfl (show _ = nI (o + 1) from rfl) (by omega) dX7_build_357 (fun H locs hW => ?_)
              obtain ⟨G6, hG6⟩ : ∃ f, f = (gU (gU (gU (gU G5 (B 20) (o + 1) (.int (nI fr))) (B 21) (o + 1) (.int (nI (fr + h9)))) (B 22) (o + 1) (.int (nI x9))) (B 23) (o + 1) (.int (bI true))) := ⟨_, rfl⟩
              rw [← hG6] at hW
              have G620 : G6 (B 20) (o + 1) = .int (nI fr) := by rw [hG6, gU_a (hk.ne (i := 20) (j := 23) rfl rfl (by decide)), gU_a (hk.ne (i := 20) (j := 22) rfl rfl (by decide)), gU_a (hk.ne (i := 20) (j := 21) rfl rfl (by decide)), gU_self]
              have G621 : G6 (B 21) (o + 1) = .int (nI (fr + h9)) := by rw [hG6, gU_a (hk.ne (i := 21) (j := 23) rfl rfl (by decide)), gU_a (hk.ne (i := 21) (j := 22) rfl rfl (by decide)), gU_self]
              have G622 : G6 (B 22) (o + 1) = .int (nI x9) := by rw [hG6, gU_a (hk.ne (i := 22) (j := 23) rfl rfl (by decide)), gU_self]
              have G623 : G6 (B 23) (o + 1) = .int (bI true) := by rw [hG6, gU_self]
              have G6f : ∀ b i, ¬ ((b = B 20 ∨ b = B 21 ∨ b = B 22 ∨ b = B 23) ∧ i = o + 1) → G6 b i = G5 b i := fun b i h => by rw [hG6, gU_ne (fun z => h ⟨by simp [z.1], z.2⟩), gU_ne (fun z => h ⟨by simp [z.1], z.2⟩), gU_ne (fun z => h ⟨by simp [z.1], z.2⟩), gU_ne (fun z => h ⟨by simp [z.1], z.2⟩)]
              have G6j : ∀ j i, (mKd j).isSome = true → j < 20 ∨ 23 < j → G6 (B j) i = G5 (B j) i := fun j i h1 h2 => G6f _ i (fun z => by
                rcases z.1 with q | q | q | q
                · exact hk.ne h1 (j := 20) rfl (by omega) q
                · exact hk.ne h1 (j := 21) rfl (by omega) q
                · exact hk.ne h1 (j := 22) rfl (by omega) q
                · exact hk.ne h1 (j := 23) rfl (by omega) q)
              have G6m : ∀ i, G6 m9 i = G5 m9 i := fun i => G6f _ i (fun z => by
                rcases z.1 with q | q | q | q
                · exact hk.nm (i := 20) rfl q.symm
                · exact hk.nm (i := 21) rfl q.symm
                · exact hk.nm (i := 22) rfl q.symm
                · exact hk.nm (i := 23) rfl q.symm)
              have G6r : frL JB B m9 G5 G6 := fun b i hb _ => G6f b i (fun z => by
                rcases z.1 with q | q | q | q
                · exact hb 20 (by decide) q
                · exact hb 21 (by decide) q
                · exact hb 22 (by decide) q
                · exact hb 23 (by decide) q)
              have G6k : ∀ n, kpN G5 G6 B n := fun n j i h1 h2 _ => G6j j i (mKd_7 h1 h2) (by omega)
              refine lv_iinc (v := nI ((o + 1) + 1)) (lv' := [(6, .int (nI ((o + 1) + 1))), (13, .int (nI x9)), (12, .int (nI (fr + h9))), (11, .int (nI ax)), (10, .int (bI b9)), (9, .int (oI (cTI cx))), (8, .int (nI (fr + L.length))), (7, .int (nI fr)), (5, .int (nI mm)), (0, .ref m9)]) hx hb dX7_build_358 hl (k := 0) rfl (inc1 _) (by decide) rfl (fun ls hl => ?_)
              refine lv_goto (tgt := 151) hx hb dX7_build_361 (by decide) ?_
              have G46r : frL JB B m9 F4 G6 := G5r.trans G6r
              refine ih A9 ((true, (x9, lbF pp y9), tL) :: cx) true G6 fr (o + 1) H locs ls (by omega) (fun e => by rw [e] at hAl; simp at hAl; omega) ⟨RXn_congr (G6k x9) (RXn_congr (G5k x9) hX4), trivial, CX_congr (fun n _ => G6k n) (G6m 13) (CX_congr (fun n _ => G5k n) (G5m 13) hC4)⟩ (hrA.keep (fun j _ _ => (G6j 19 j rfl (by decide)).trans ((G5j 19 j rfl (by decide)).trans (e19 j)))) (fun i hi => hptA G6 G46r i (hAL i hi)) G620 (by rw [hAl]; exact G621) G622 G623 rfl (fun j hj => by rw [G6j 6 j rfl (by decide), G5j 6 j rfl (by decide)]; exact hU4 j hj) (by rw [ixC_cons]; exact hndx) (by rw [ixC_cons, List.length_cons, List.length_append]; simp [ixT, tPre]; omega) (by omega) (by omega) nA (G46r.f hk (by decide) hf4) ((G6m 1).trans ((G5m 1).trans hm41)) hW (lv_sub hl [0, 8, 9] rfl) (fun t1 F7 H locs ls ht1 hX7 hC7 hU7 hn7 h47 ho7 hJ7 hr7 hW hl => ?_)
              obtain ⟨hCn, -, hCc⟩ := hC7
              have hmem := sndT_mem (by omega) ht1
              have q20 := hJ7.2 o (by omega)
              have ixl : (ixT t1).length = h9 := by
                have q := congrArg tSz ht1
                rw [tSz_map, tSz_map, bldG_sz _ _ _ _ _ (by omega)] at q
                unfold ixT
                rw [List.length_map, tPre_len, q, hAl]
              have G67 := G46r.trans hr7
              refine ih ys ((false, (x9, lbF pp y9), t1) :: cx) false F7 (fr + h9 + 1) o H locs ls (by omega) (fun e => by rw [e] at hyl; simp at hyl; omega) ⟨hCn, hX7, hCc⟩ (hrYs.keep (fun j j1 j2 => (hJ7.1 j (by rw [hAl]; omega)).trans ((G6j 19 j rfl (by decide)).trans ((G5j 19 j rfl (by decide)).trans (e19 j))))) (fun i hi => hptA F7 G67 i (hYL i hi)) (q20.1.trans ((G6f _ o (fun z => by omega)).trans G520)) (by rw [show fr + h9 + 1 + ys.length = fr + L.length by omega]; exact q20.2.1.trans ((G6f _ o (fun z => by omega)).trans G521)) (q20.2.2.1.trans ((G6f _ o (fun z => by omega)).trans G522)) (q20.2.2.2.trans ((G6f _ o (fun z => by omega)).trans G523)) rfl (hU7.set (fun j => by rw [ixC_cons, ixC_cons]; simp only [ixT_leaf, List.nil_append, List.mem_append, List.mem_cons]; exact or_left_comm)) (by
                refine (List.Perm.nodup_iff ?_).mp hn7
                rw [ixC_cons, ixC_cons]
                show (ixT t1 ++ x9 :: ([] ++ ixC cx)).Perm (x9 :: (ixT t1 ++ ixC cx))
                rw [List.nil_append]
                exact List.perm_middle) (by rw [ixC_cons, List.length_cons, List.length_append, ixl]; omega) (by omega) (by omega) nY2.2 (G67.f hk (by decide) hf4) ((hr7.m hk (by decide) (by decide)).trans ((G6m 1).trans ((G5m 1).trans hm41))) hW hl (fun t2 F8 H locs ls ht2 hX8 hC8 hU8 hn8 h48 ho8 hJ8 hr8 hW hl => ?_)
              obtain ⟨hCn8, hXt1, hCc8⟩ := hC8
              have hmem2 := sndT_mem (by omega) ht2
              refine cont (tN t1 (x9, lbF pp y9) t2) F8 H locs ls (by rw [hbld]; show tN (sndT t1) _ (sndT t2) = tN _ _ _; rw [ht1, ht2]; rfl) ⟨hCn8, hXt1, hX8⟩ hCc8 (hU8.set (fun j => by rw [ixC_cons, ixT_node]; simp only [List.mem_append, List.mem_cons]; exact ⟨fun h => by
                  rcases h with h | h | h | h
                  · exact Or.inl (Or.inr (Or.inr h))
                  · exact Or.inl (Or.inl h)
                  · exact Or.inl (Or.inr (Or.inl h))
                  · exact Or.inr h, fun h => by
                  rcases h with (h | h | h) | h
                  · exact Or.inr (Or.inl h)
                  · exact Or.inr (Or.inr (Or.inl h))
                  · exact Or.inl h
                  · exact Or.inr (Or.inr (Or.inr h))⟩)) (by
                refine (List.Perm.nodup_iff ?_).mp hn8
                rw [ixC_cons, ixT_node]
                show (ixT t2 ++ x9 :: (ixT t1 ++ ixC cx)).Perm (x9 :: (ixT t1 ++ ixT t2 ++ ixC cx))
                refine List.perm_middle.trans (List.Perm.cons x9 ?_)
                rw [← List.append_assoc]
                exact List.Perm.append_right _ List.perm_append_comm) (fun y hy => ?_) (fun i hi => ?_) ⟨fun i hi => ?_, fun i hi => ?_⟩ (fr14.trans (G67.trans hr8)) hW hl
              · rcases List.mem_cons.mp hy with e | e
                · rw [e]
                  exact (ho8 y9 nY2.1).trans ((ho7 y9 (fun z => nAY y9 z y9 List.mem_cons_self rfl)).trans ((G6j 4 _ rfl (by decide)).trans ((G5j 4 _ rfl (by decide)).trans e4)))
                · rcases List.mem_append.mp e with e | e
                  · exact (ho8 _ (fun z => nAY _ (hmem y e) _ (List.mem_cons_of_mem _ z) rfl)).trans (h47 y e)
                  · exact h48 y e
              · exact (ho8 i (fun z => hi (hYL i z))).trans ((ho7 i (fun z => hi (hAL i z))).trans ((G6j 4 _ rfl (by decide)).trans ((G5j 4 _ rfl (by decide)).trans (e4o i (fun e => hi (e ▸ hyL))))))
              · exact (hJ8.1 i (by omega)).trans ((hJ7.1 i (by omega)).trans ((G6j 19 i rfl (by decide)).trans ((G5j 19 i rfl (by decide)).trans ((e19 i).trans (hfr19 i hi)))))
              · have q := hJ8.2 i hi
                have q7 := hJ7.2 i (by omega)
                exact ⟨q.1.trans (q7.1.trans ((G6f _ i (fun z => by omega)).trans ((G5f _ i (fun z => by omega)).trans (e14 20 i rfl (Or.inr (by decide)) (by decide))))), q.2.1.trans (q7.2.1.trans ((G6f _ i (fun z => by omega)).trans ((G5f _ i (fun z => by omega)).trans (e14 21 i rfl (Or.inr (by decide)) (by decide))))), q.2.2.1.trans (q7.2.2.1.trans ((G6f _ i (fun z => by omega)).trans ((G5f _ i (fun z => by omega)).trans (e14 22 i rfl (Or.inr (by decide)) (by decide))))), q.2.2.2.trans (q7.2.2.2.trans ((G6f _ i (fun z => by omega)).trans ((G5f _ i (fun z => by omega)).trans (e14 23 i rfl (Or.inr (by decide)) (by decide)))))⟩
        refine lv_iload hx hb dX7_build_195 (lv_at hl 1 rfl) ?_
        refine lv_iconst (v := (-1)) hx hb dX7_build_197 (by decide) ?_
        refine lv_icmp_ne (tgt := 205) hx hb dX7_build_198 (by decide) (fun c5 => ?_) (fun c5 => ?_)
        · obtain ⟨yc, cc9, hcx, hcT, hup⟩ : ∃ (yc : Nat) (cc9 : List Nat), cx.length = cc9.length + 1 ∧ oI (cTI cx) = nI yc ∧ upC F1 B (yc :: cc9) := by
            have q := CX_up hC
            rcases cx with _ | ⟨⟨b, y, o9⟩, c9⟩
            · exact absurd rfl c5
            · exact ⟨y.1, (cPath c9).map (fun y : mLb => y.1), by rw [List.length_map, cPath_len, List.length_cons], rfl, q⟩
          refine lv_aload_n hx hb dX7_build_205 rfl (lv_at hl 6 rfl) ?_
          refine lv_iload hx hb dX7_build_206 (lv_at hl 1 rfl) ?_
          refine g_asi (show _ = nI yc from hcT) ?_
          refine g_cV (v := (some (.int (nI cc9.length)))) (As := [.int (nI yc)]) (b := m9) (rest := []) hx hb hml hown hts hN hW.1 (m_depth l Γ K F1 m9 B hk hf1 yc cc9 hup) gX7_build_X7_depth rfl hk.1 (by decide) rfl (na := 1) rfl (by decide +kernel) ⟨by decide, by decide⟩ ⟨Nat.zero_le _, Nat.zero_le _⟩ rfl hl.1 (Nat.le_of_ble_eq_true rfl) dX7_build_208 ?_
          show W _ _ _ _ _ _ _ _ _ _ _ _ _ _ _ (F0 m 211 ls [.int (nI cc9.length)])
          refine lv_iconst (v := nI 1) hx hb dX7_build_211 (by decide) ?_
          refine lv_iadd hx hb dX7_build_212 ?_
          refine g_asi (show _ = nI (cc9.length + 1) from (nI_add _ _).trans (by rfl)) ?_
          refine g_asi (show _ = nI cx.length from by rw [hcx]) ?_
          exact mid ls hl
        · have hcx : cx = [] := by
            rcases cx with _ | ⟨⟨b, y, o9⟩, c9⟩
            · rfl
            · exact absurd c5 (oI_n (Nat.lt_trans hC.1.1 (by decide)))
          refine lv_iconst (v := nI 0) hx hb dX7_build_201 (by decide) ?_
          refine lv_goto (tgt := 213) hx hb dX7_build_202 (by decide) ?_
          refine g_asi (show _ = nI cx.length from by rw [hcx]; rfl) ?_
          exact mid ls hl
  have fin : ∀ (t : TT mLb) (F2 : gF) (H : Heap) (locs : List Loc) (ls : Array Slot), sndT t = tMap (lbF pp) (bldG (ltP pp) d 60 cx.length (liv (tPre s0))) → RX F2 B t (cTI cx) → CX F2 B m9 cx (rtI t) → usL F2 B (ixT t ++ ixC cx) → (ixT t ++ ixC cx).Nodup → (∀ y ∈ tPre t, F2 (B 4) y.2.1.1 = .int (nI y.1)) → (∀ i, i ∉ (liv (tPre s0)) → F2 (B 4) i = F (B 4) i) → frL (17 :: 18 :: JB) B m9 F F2 → gW Γ (gA K sz) s.heap K F2 H locs → lv_has ls 14 [(6, .int (nI 0)), (5, .int (nI mm)), (0, .ref m9)] → W p l e (gRm 1 0 0) s m args below meth c H locs 0 0 Z (F0 m 151 ls []) := by
    intro t F2 H locs ls h1 h2 h3 h4 h5 h6 h7 h8 hW hl
    refine lv_iload hx hb dX7_build_151 (lv_at hl 0 rfl) ?_
    refine lv_if_le (tgt := 364) hx hb dX7_build_153 (by decide) (fun c1 => ?_) (fun c1 => ?_)
    · have c1 : 0 = 0 := (nI_le0 (by omega)).mp c1
      refine lv_iload hx hb dX7_build_364 (lv_at hl 1 rfl) ?_
      exact hret (some (.int (nI mm))) _ _ _ _ _ _ hW (⟨by rw [hmm], rfl, t, h1, h2, h3, h4, h5, h6, h7, h8⟩) (rt_i dX7_build_366)
    · have c1 : 0 < 0 := Nat.pos_of_ne_zero (fun z => c1 ((nI_le0 (by omega)).mpr z))
      exact absurd c1 (by decide)
  have j27 : ∀ (ls : Array Slot), lv_has ls 14 [(2, .int (oI (cTI cx))), (0, .ref m9), (1, .int (oI (rtI s0)))] → W p l e (gRm 1 0 0) s m args below meth c s.heap [] 0 0 Z (F0 m 27 ls [.int (bI (sdB cx))]) := by
    intro ls hl
    refine lv_istore_n (lv' := [(3, .int (bI (sdB cx))), (2, .int (oI (cTI cx))), (0, .ref m9), (1, .int (oI (rtI s0)))]) hx hb dX7_build_27 rfl hl (by decide) rfl (fun ls hl => ?_)
    refine lv_aload_n hx hb dX7_build_28 rfl (lv_at hl 2 rfl) ?_
    refine lv_iload_n hx hb dX7_build_29 rfl (lv_at hl 3 rfl) ?_
    refine g_mV (As := [.int (oI (rtI s0))]) (b := m9) (rest := []) hx hb hml hown hts hN hW (m_walkFrom l Γ K F s.heap.size m9 B hk hf s0 (cTI cx) hX (by omega)) gX7_build_X7_walkFrom rfl hk.1 (by decide) rfl (na := 1) rfl (by decide +kernel) ⟨by decide, by decide⟩ ⟨Nat.le_of_ble_eq_true rfl, Nat.le_of_ble_eq_true rfl⟩ rfl hl.1 (Nat.le_of_ble_eq_true rfl) dX7_build_30 (fun v K' F2 H locs hp hW hsz' => ?_)
    obtain ⟨rfl, hK9, hway, hfr⟩ := hp
    subst K'
    show W _ _ _ _ _ _ _ _ _ _ _ _ _ _ _ (F0 m 33 ls [.int (nI (tSz s0))])
    have e2 : ∀ j i, (mKd j).isSome = true → j ≠ 17 → j ≠ 18 → F2 (B j) i = F (B j) i := fun j i h1 h2 h3 => hfr _ i (hk.ne h1 rfl h2) (hk.ne h1 rfl h3)
    have e2m : ∀ i, F2 m9 i = F m9 i := fun i => hfr _ i (fun z => hk.nm (i := 17) rfl z.symm) (fun z => hk.nm (i := 18) rfl z.symm)
    have hf2 : MKf F2 m9 B := hf.up (fun j _ => e2m j)
    refine lv_istore (lv' := [(4, .int (nI (tSz s0))), (3, .int (bI (sdB cx))), (2, .int (oI (cTI cx))), (0, .ref m9), (1, .int (oI (rtI s0)))]) hx hb dX7_build_33 hl (by decide) rfl (fun ls hl => ?_)
    refine lv_iconst (v := nI 0) hx hb dX7_build_35 (by decide) ?_
    refine lv_istore (lv' := [(5, .int (nI 0)), (4, .int (nI (tSz s0))), (3, .int (bI (sdB cx))), (2, .int (oI (cTI cx))), (0, .ref m9), (1, .int (oI (rtI s0)))]) hx hb dX7_build_36 hl (by decide) rfl (fun ls hl => ?_)
    refine lv_iconst (v := nI 0) hx hb dX7_build_38 (by decide) ?_
    refine lv_istore (lv' := [(6, .int (nI 0)), (5, .int (nI 0)), (4, .int (nI (tSz s0))), (3, .int (bI (sdB cx))), (2, .int (oI (cTI cx))), (0, .ref m9), (1, .int (oI (rtI s0)))]) hx hb dX7_build_39 hl (by decide) rfl (fun ls hl => ?_)
    have gat : ∀ (L2 L1 : List mLb) (F3 : gF) (H : Heap) (locs : List Loc) (ls : Array Slot), tPre s0 = L1 ++ L2 → usL F3 B (L2.map (fun y => y.1) ++ ixC cx) → rowL F3 (B 19) 0 ((liv L1).map vI) → (∀ b i, b ≠ B 6 → b ≠ B 19 → F3 b i = F2 b i) → gW Γ (gA K sz) s.heap K F3 H locs → lv_has ls 14 [(6, .int (nI L1.length)), (5, .int (nI (liv L1).length)), (4, .int (nI (tSz s0))), (3, .int (bI (sdB cx))), (2, .int (oI (cTI cx))), (0, .ref m9)] → W p l e (gRm 1 0 0) s m args below meth c H locs 0 0 Z (F0 m 41 ls []) := by
      intro L2
      induction L2 with
      | nil =>
        intro L1 F3 H locs ls hL hU3 hrow hfr3 hW hl
        rw [List.append_nil] at hL
        subst hL
        have hf3 : MKf F3 m9 B := hf2.up (fun j _ => hfr3 _ j (fun z => hk.nm (i := 6) rfl z.symm) (fun z => hk.nm (i := 19) rfl z.symm))
        have e3m : ∀ i, F3 m9 i = F m9 i := fun i => (hfr3 _ i (fun z => hk.nm (i := 6) rfl z.symm) (fun z => hk.nm (i := 19) rfl z.symm)).trans (e2m i)
        have e3 : ∀ j i, (mKd j).isSome = true → j ≠ 6 → j ≠ 19 → j ≠ 17 → j ≠ 18 → F3 (B j) i = F (B j) i := fun j i h1 h2 h3 h4 h5 => (hfr3 _ i (hk.ne h1 rfl h2) (hk.ne h1 rfl h3)).trans (e2 j i h1 h4 h5)
        have hC3 : CX F3 B m9 cx (rtI s0) := CX_congr (fun n _ j i h1 h2 _ => e3 j i (mKd_7 h1 h2) (by omega) (by omega) (by omega) (by omega)) (e3m 13) hC
        have hndc : (ixC cx).Nodup := (List.nodup_append.mp hnd).2.1
        rw [tPre_len] at hl
        have hr3 : frL (17 :: 18 :: JB) B m9 F F3 := fun b i hb _ => (hfr3 b i (hb 6 (by decide)) (hb 19 (by decide))).trans (hfr b i (hb 17 (by decide)) (hb 18 (by decide)))
        rw [← hmm] at hl
        refine lv_iload hx hb dX7_build_41 (lv_at hl 0 rfl) ?_
        refine lv_iload hx hb dX7_build_43 (lv_at hl 2 rfl) ?_
        refine lv_icmp_ge (tgt := 104) hx hb dX7_build_45 (by decide) (fun c1 => ?_) (fun c1 => ?_)
        · have c1 : (tSz s0) ≤ (tSz s0) := (nI_leI (by omega) (by omega)).mp c1
          refine lv_aload_n hx hb dX7_build_104 rfl (lv_at hl 5 rfl) ?_
          refine lv_iconst (v := (-1)) hx hb dX7_build_105 (by decide) ?_
          refine lv_iload_n hx hb dX7_build_106 rfl (lv_at hl 4 rfl) ?_
          refine lv_iload_n hx hb dX7_build_107 rfl (lv_at hl 3 rfl) ?_
          refine g_mV (As := [.int (-1), .int (oI (cTI cx)), .int (bI (sdB cx))]) (b := m9) (rest := []) hx hb hml hown hts hN hW (m_hangC l Γ K F3 H.size m9 B hk hf3 cx (rtI s0) none (sdB cx) (sdC_sdB cx) hC3 hndc) gX7_build_X7_hang rfl hk.1 (by decide) rfl (na := 3) rfl (by decide +kernel) ⟨by decide, by decide⟩ ⟨Nat.le_of_ble_eq_true rfl, Nat.le_of_ble_eq_true rfl⟩ rfl hl.1 (Nat.le_of_ble_eq_true rfl) dX7_build_108 (fun v K' F4 H locs hp hW hsz' => ?_)
          obtain ⟨rfl, hK9, hC4, hfr4⟩ := hp
          subst K'
          show W _ _ _ _ _ _ _ _ _ _ _ _ _ _ _ (F0 m 111 ls [])
          have e4 : ∀ j i, (mKd j).isSome = true → j ≠ 10 → j ≠ 11 → F4 (B j) i = F3 (B j) i := fun j i h1 h2 h3 => hfr4 _ i (fun z => hk.nm h1 z.1) (fun z => by
            rcases z.1 with q | q
            · exact hk.ne h1 (j := 10) rfl h2 q
            · exact hk.ne h1 (j := 11) rfl h3 q)
          have e4m : ∀ i, i ≠ 13 → F4 m9 i = F3 m9 i := fun i hi => hfr4 m9 i (fun z => hi z.2) (fun z => by
            rcases z.1 with q | q
            · exact hk.nm (i := 10) rfl q.symm
            · exact hk.nm (i := 11) rfl q.symm)
          have hf4 : MKf F4 m9 B := hf3.up (fun j hj => e4m j (fun e => by rw [e] at hj; exact absurd hj (by decide)))
          have hr4 : frL (17 :: 18 :: JB) B m9 F F4 := hr3.trans (fun b i hb hm => hfr4 b i hm (fun z => z.1.elim (hb 10 (by decide)) (hb 11 (by decide))))
          have hU4 : usL F4 B (ixC cx) := fun j hj => (e4 6 j rfl (by decide) (by decide)).trans (hU3 j hj)
          refine lv_iconst (v := nI 0) hx hb dX7_build_111 (by decide) ?_
          refine lv_istore (lv' := [(6, .int (nI 0)), (5, .int (nI mm)), (4, .int (nI (tSz s0))), (3, .int (bI (sdB cx))), (2, .int (oI (cTI cx))), (0, .ref m9)]) hx hb dX7_build_112 hl (by decide) rfl (fun ls hl => ?_)
          refine lv_iload hx hb dX7_build_114 (lv_at hl 1 rfl) ?_
          refine lv_if_le (tgt := 151) hx hb dX7_build_116 (by decide) (fun c2 => ?_) (fun c2 => ?_)
          · have c2 : mm = 0 := (nI_le0 (by omega)).mp c2
            have hnil : (liv (tPre s0)) = [] := List.length_eq_zero_iff.mp (by omega)
            exact fin tL F4 H locs ls (by rw [hnil, bldG_nil]; rfl) trivial hC4 hU4 hndc (fun y hy => by cases hy) (fun i hi => (e4 4 i rfl (by decide) (by decide)).trans (e3 4 i rfl (by decide) (by decide) (by decide) (by decide))) hr4 hW (lv_sub hl [0, 1, 5] rfl)
          · have c2 : 0 < mm := Nat.pos_of_ne_zero (fun z => c2 ((nI_le0 (by omega)).mpr z))
            refine lv_aload_n hx hb dX7_build_119 rfl (lv_at hl 5 rfl) ?_
            refine g_get (C := RX7) (T := TX7) (N := 31) hx hb hts hi7 hown hN hW.1 hk.1 rfl (by decide) 20 (by decide) hfX7_57 (v := .ref (B 20)) (hf4 20 rfl) dX7_build_120 ?_
            refine lv_iconst (v := nI 0) hx hb dX7_build_123 (by decide) ?_
            refine lv_iconst (v := nI 0) hx hb dX7_build_124 (by decide) ?_
            refine g_iast (j := 0) hx hb hN hW (hk.2.1 20 (8, 100) rfl) (by decide) (show _ = nI 0 from rfl) (by decide) dX7_build_125 (fun H locs hW => ?_)
            refine lv_aload_n hx hb dX7_build_126 rfl (lv_at hl 5 rfl) ?_
            refine g_get (C := RX7) (T := TX7) (N := 31) hx hb hts hi7 hown hN hW.1 hk.1 rfl (by decide) 21 (by decide) hfX7_60 (v := .ref (B 21)) ((gU_a (Ne.symm (hk.nm (i := 20) rfl))).trans (hf4 21 rfl)) dX7_build_127 ?_
            refine lv_iconst (v := nI 0) hx hb dX7_build_130 (by decide) ?_
            refine lv_iload hx hb dX7_build_131 (lv_at hl 1 rfl) ?_
            refine g_iast (j := 0) hx hb hN hW (hk.2.1 21 (8, 100) rfl) (by decide) (show _ = nI 0 from rfl) (by decide) dX7_build_133 (fun H locs hW => ?_)
            refine lv_aload_n hx hb dX7_build_134 rfl (lv_at hl 5 rfl) ?_
            refine g_get (C := RX7) (T := TX7) (N := 31) hx hb hts hi7 hown hN hW.1 hk.1 rfl (by decide) 22 (by decide) hfX7_63 (v := .ref (B 22)) ((gU_a (Ne.symm (hk.nm (i := 21) rfl))).trans ((gU_a (Ne.symm (hk.nm (i := 20) rfl))).trans (hf4 22 rfl))) dX7_build_135 ?_
            refine lv_iconst (v := nI 0) hx hb dX7_build_138 (by decide) ?_
            refine lv_iload_n hx hb dX7_build_139 rfl (lv_at hl 4 rfl) ?_
            refine g_iast (j := 0) hx hb hN hW (hk.2.1 22 (8, 100) rfl) (by decide) (show _ = nI 0 from rfl) (by decide) dX7_build_140 (fun H locs hW => ?_)
            refine lv_aload_n hx hb dX7_build_141 rfl (lv_at hl 5 rfl) ?_
            refine g_get (C := RX7) (T := TX7) (N := 31) hx hb hts hi7 hown hN hW.1 hk.1 rfl (by decide) 23 (by decide) hfX7_66 (v := .ref (B 23)) ((gU_a (Ne.symm (hk.nm (i := 22) rfl))).trans ((gU_a (Ne.symm (hk.nm (i := 21) rfl))).trans ((gU_a (Ne.symm (hk.nm (i := 20) rfl))).trans (hf4 23 rfl)))) dX7_build_142 ?_
            refine lv_iconst (v := nI 0) hx hb dX7_build_145 (by decide) ?_
            refine lv_iload_n hx hb dX7_build_146 rfl (lv_at hl 3 rfl) ?_
            refine g_zast (j := 0) hx hb hN hW (hk.2.1 23 (10, 100) rfl) (by decide) (bI_nar _) (show _ = nI 0 from rfl) (by decide) dX7_build_147 (fun H locs hW => ?_)
            refine lv_iconst (v := nI 1) hx hb dX7_build_148 (by decide) ?_
            refine lv_istore (lv' := [(6, .int (nI 1)), (5, .int (nI mm)), (4, .int (nI (tSz s0))), (3, .int (bI (sdB cx))), (2, .int (oI (cTI cx))), (0, .ref m9)]) hx hb dX7_build_149 hl (by decide) rfl (fun ls hl => ?_)
            obtain ⟨G5, hG5⟩ : ∃ f, f = (gU (gU (gU (gU F4 (B 20) 0 (.int (nI 0))) (B 21) 0 (.int (nI mm))) (B 22) 0 (.int (oI (cTI cx)))) (B 23) 0 (.int (bI (sdB cx)))) := ⟨_, rfl⟩
            rw [← hG5] at hW
            have G520 : G5 (B 20) 0 = .int (nI 0) := by rw [hG5, gU_a (hk.ne (i := 20) (j := 23) rfl rfl (by decide)), gU_a (hk.ne (i := 20) (j := 22) rfl rfl (by decide)), gU_a (hk.ne (i := 20) (j := 21) rfl rfl (by decide)), gU_self]
            have G521 : G5 (B 21) 0 = .int (nI mm) := by rw [hG5, gU_a (hk.ne (i := 21) (j := 23) rfl rfl (by decide)), gU_a (hk.ne (i := 21) (j := 22) rfl rfl (by decide)), gU_self]
            have G522 : G5 (B 22) 0 = .int (oI (cTI cx)) := by rw [hG5, gU_a (hk.ne (i := 22) (j := 23) rfl rfl (by decide)), gU_self]
            have G523 : G5 (B 23) 0 = .int (bI (sdB cx)) := by rw [hG5, gU_self]
            have G5f : ∀ b i, b ≠ B 20 → b ≠ B 21 → b ≠ B 22 → b ≠ B 23 → G5 b i = F4 b i := fun b i h1 h2 h3 h4 => by rw [hG5, gU_a h4, gU_a h3, gU_a h2, gU_a h1]
            have G5j : ∀ j i, (mKd j).isSome = true → j < 20 ∨ 23 < j → G5 (B j) i = F4 (B j) i := fun j i h1 h2 => G5f _ i (hk.ne h1 rfl (by omega)) (hk.ne h1 rfl (by omega)) (hk.ne h1 rfl (by omega)) (hk.ne h1 rfl (by omega))
            have G5m : ∀ i, G5 m9 i = F4 m9 i := fun i => G5f _ i (fun z => hk.nm (i := 20) rfl z.symm) (fun z => hk.nm (i := 21) rfl z.symm) (fun z => hk.nm (i := 22) rfl z.symm) (fun z => hk.nm (i := 23) rfl z.symm)
            have hr5 : frL (17 :: 18 :: JB) B m9 F G5 := hr4.trans (fun b i hb _ => G5f b i (hb 20 (by decide)) (hb 21 (by decide)) (hb 22 (by decide)) (hb 23 (by decide)))
            have hG45 : ∀ i, G5 (B 4) i = F (B 4) i := fun i => (G5j 4 i rfl (by decide)).trans ((e4 4 i rfl (by decide) (by decide)).trans (e3 4 i rfl (by decide) (by decide) (by decide) (by decide)))
            clear hG5
            refine seg 60 (liv (tPre s0)) cx (sdB cx) G5 0 0 H locs ls hlv (fun e => by rw [e] at hmm; simp at hmm; omega) (CX_congr (fun n _ j i h1 h2 _ => G5j j i (mKd_7 h1 h2) (by omega)) (G5m 13) hC4) (hrow.keep (fun j _ _ => (G5j 19 j rfl (by decide)).trans (e4 19 j rfl (by decide) (by decide)))) (fun i hi => ?_) G520 (by rw [Nat.zero_add, ← hmm]; exact G521) G522 G523 (sdC_sdB cx) (fun j hj => (G5j 6 j rfl (by decide)).trans (hU4 j hj)) hndc (by omega) (by omega) (by omega) hLd (hf4.up (fun j _ => G5m j)) ((G5m 1).trans ((e4m 1 (by decide)).trans ((e3m 1).trans hd1))) hW (lv_sub hl [0, 1, 5] rfl) (fun t F6 H locs ls h1 h2 h3 h4 h5 h6 h7 _ h8 hW hl => ?_)
            · obtain ⟨y, hy, rfl⟩ := List.mem_map.mp hi
              obtain ⟨hy1, hy2⟩ := List.mem_filter.mp hy
              obtain ⟨_, _, _, hXy⟩ := RX_mem hX hy1
              exact ⟨hXy.2.1, fun a ha => ((G5j 3 _ rfl (by decide)).trans ((e4 3 _ rfl (by decide) (by decide)).trans (e3 3 _ rfl (by decide) (by decide) (by decide) (by decide)))).trans (hpt y hy1 (by simpa using hy2) a ha)⟩
            · exact fin t F6 H locs ls h1 h2 h3 h4 h5 h6 (fun i hi => (h7 i hi).trans (hG45 i)) (hr5.trans (h8.mono (fun j hj => List.mem_cons_of_mem _ (List.mem_cons_of_mem _ hj)))) hW hl
        · have c1 : (tSz s0) < (tSz s0) := Nat.not_le.mp (fun z => c1 ((nI_leI (by omega) (by omega)).mpr z))
          exact absurd c1 (Nat.lt_irrefl _)
      | cons y L2 ih =>
        intro L1 F3 H locs ls hL hU3 hrow hfr3 hW hl
        have hLl := congrArg List.length hL
        rw [tPre_len, List.length_append, List.length_cons] at hLl
        have hl1 := liv_len L1
        have hl60 : (liv L1).length ≤ mm := by
          rw [hmm, hL]
          unfold liv
          rw [List.filter_append, List.map_append, List.length_append]
          omega
        have hy1 : y ∈ tPre s0 := by rw [hL]; simp
        obtain ⟨_, _, _, hXy⟩ := RX_mem hX hy1
        have hy9 := hXy.1
        have hf3 : MKf F3 m9 B := hf2.up (fun j _ => hfr3 _ j (fun z => hk.nm (i := 6) rfl z.symm) (fun z => hk.nm (i := 19) rfl z.symm))
        have e3 : ∀ j i, (mKd j).isSome = true → j ≠ 6 → j ≠ 19 → F3 (B j) i = F2 (B j) i := fun j i h1 h2 h3 => hfr3 _ i (hk.ne h1 rfl h2) (hk.ne h1 rfl h3)
        have hwk : F3 (B 17) L1.length = .int (nI y.1) := by
          rw [e3 17 _ rfl (by decide) (by decide)]
          have q := hway
          rw [hL, List.map_append] at q
          have q := q.right.head
          rw [List.length_map, Nat.zero_add] at q
          exact q
        have h9 : F3 (B 9) y.1 = .int (bI (!y.2.2)) := ((e3 9 _ rfl (by decide) (by decide)).trans (e2 9 _ rfl (by decide) (by decide))).trans hXy.2.2.2.2.1
        have h7 : F3 (B 7) y.1 = .int (nI y.2.1.1) := ((e3 7 _ rfl (by decide) (by decide)).trans (e2 7 _ rfl (by decide) (by decide))).trans hXy.2.2.1
        have hndy : y.1 ∉ L2.map (fun y => y.1) ++ ixC cx := by
          have q := hnd
          unfold ixT at q
          rw [hL, List.map_append, List.append_assoc, List.map_cons, List.cons_append] at q
          exact (List.nodup_cons.mp (List.nodup_append.mp q).2.1).1
        have hU4 : usL (gU F3 (B 6) y.1 (.int (nI 0))) B (L2.map (fun y => y.1) ++ ixC cx) := fun j hj => by
          by_cases e : j = y.1
          · rw [e, gU_self, decide_eq_false hndy]; rfl
          · rw [gU_k e, hU3 j hj]
            congr 3
            exact propext ⟨fun q => (List.mem_cons.mp q).resolve_left e, fun q => List.mem_cons_of_mem _ q⟩
        have hL' : tPre s0 = (L1 ++ [y]) ++ L2 := by rw [hL, List.append_assoc]; rfl
        have hlv1 : liv (L1 ++ [y]) = liv L1 ++ (if y.2.2 = true then [] else [y.2.1.1]) := liv_snoc L1 y
        refine lv_iload hx hb dX7_build_41 (lv_at hl 0 rfl) ?_
        refine lv_iload hx hb dX7_build_43 (lv_at hl 2 rfl) ?_
        refine lv_icmp_ge (tgt := 104) hx hb dX7_build_45 (by decide) (fun c1 => ?_) (fun c1 => ?_)
        · have c1 : (tSz s0) ≤ L1.length := (nI_leI (by omega) (by omega)).mp c1
          exact absurd c1 (by omega)
        · have c1 : L1.length < (tSz s0) := Nat.not_le.mp (fun z => c1 ((nI_leI (by omega) (by omega)).mpr z))
          refine lv_aload_n hx hb dX7_build_48 rfl (lv_at hl 5 rfl) ?_
          refine g_get (C := RX7) (T := TX7) (N := 31) hx hb hts hi7 hown hN hW.1 hk.1 rfl (by decide) 6 (by decide) hfX7_24 (v := .ref (B 6)) (hf3 6 rfl) dX7_build_49 ?_
          refine lv_aload_n hx hb dX7_build_52 rfl (lv_at hl 5 rfl) ?_
          refine g_get (C := RX7) (T := TX7) (N := 31) hx hb hts hi7 hown hN hW.1 hk.1 rfl (by decide) 17 (by decide) hfX7_48 (v := .ref (B 17)) (hf3 17 rfl) dX7_build_53 ?_
          refine lv_iload hx hb dX7_build_56 (lv_at hl 0 rfl) ?_
          refine g_iald (j := L1.length) hx hb hN hW.1 (hk.2.1 17 (8, 140) rfl) (by decide) (show _ = nI L1.length from rfl) (by omega) (v := .int (nI y.1)) hwk dX7_build_58 ?_
          refine lv_iconst (v := nI 0) hx hb dX7_build_59 (by decide) ?_
          refine g_zast (j := y.1) hx hb hN hW (hk.2.1 6 (10, 140) rfl) (by decide) rfl (show _ = nI y.1 from rfl) (by omega) dX7_build_60 (fun H locs hW => ?_)
          refine lv_aload_n hx hb dX7_build_61 rfl (lv_at hl 5 rfl) ?_
          refine g_get (C := RX7) (T := TX7) (N := 31) hx hb hts hi7 hown hN hW.1 hk.1 rfl (by decide) 9 (by decide) hfX7_33 (v := .ref (B 9)) ((gU_a (Ne.symm (hk.nm (i := 6) rfl))).trans (hf3 9 rfl)) dX7_build_62 ?_
          refine lv_aload_n hx hb dX7_build_65 rfl (lv_at hl 5 rfl) ?_
          refine g_get (C := RX7) (T := TX7) (N := 31) hx hb hts hi7 hown hN hW.1 hk.1 rfl (by decide) 17 (by decide) hfX7_48 (v := .ref (B 17)) ((gU_a (Ne.symm (hk.nm (i := 6) rfl))).trans (hf3 17 rfl)) dX7_build_66 ?_
          refine lv_iload hx hb dX7_build_69 (lv_at hl 0 rfl) ?_
          refine g_iald (j := L1.length) hx hb hN hW.1 (hk.2.1 17 (8, 140) rfl) (by decide) (show _ = nI L1.length from rfl) (by omega) (v := .int (nI y.1)) ((gU_a (hk.ne (i := 17) (j := 6) rfl rfl (by decide))).trans hwk) dX7_build_71 ?_
          refine g_zald (j := y.1) hx hb hN hW.1 (hk.2.1 9 (10, 140) rfl) (by decide) (show _ = nI y.1 from rfl) (by omega) (v := .int (bI (!y.2.2))) ((gU_a (hk.ne (i := 9) (j := 6) rfl rfl (by decide))).trans h9) dX7_build_72 ?_
          refine lv_if_eq (tgt := 98) hx hb dX7_build_73 (by decide) (fun c2 => ?_) (fun c2 => ?_)
          · have c2 : (!y.2.2) = false := bI_0.mp c2
            have hdd : y.2.2 = true := by simpa using c2
            rw [if_pos hdd, List.append_nil] at hlv1
            refine lv_iinc (v := nI (L1.length + 1)) (lv' := [(6, .int (nI (L1.length + 1))), (5, .int (nI (liv L1).length)), (4, .int (nI (tSz s0))), (3, .int (bI (sdB cx))), (2, .int (oI (cTI cx))), (0, .ref m9)]) hx hb dX7_build_98 hl (k := 0) rfl (inc1 _) (by decide) rfl (fun ls hl => ?_)
            refine lv_goto (tgt := 41) hx hb dX7_build_101 (by decide) ?_
            refine ih (L1 ++ [y]) _ H locs ls hL' hU4 (by rw [hlv1]; exact hrow.up (Or.inl (hk.ne (i := 6) (j := 19) rfl rfl (by decide)))) (fun b i h1 h2 => (gU_a h1).trans (hfr3 b i h1 h2)) hW ?_
            rw [hlv1, List.length_append, List.length_singleton]
            exact lv_sub hl [0, 1, 2, 3, 4, 5] rfl
          · have c2 : (!y.2.2) = true := bI_n0.mp c2
            have hdd : ¬ y.2.2 = true := by simpa using c2
            rw [if_neg hdd] at hlv1
            refine lv_aload_n hx hb dX7_build_76 rfl (lv_at hl 5 rfl) ?_
            refine g_get (C := RX7) (T := TX7) (N := 31) hx hb hts hi7 hown hN hW.1 hk.1 rfl (by decide) 19 (by decide) hfX7_54 (v := .ref (B 19)) ((gU_a (Ne.symm (hk.nm (i := 6) rfl))).trans (hf3 19 rfl)) dX7_build_77 ?_
            refine lv_iload hx hb dX7_build_80 (lv_at hl 1 rfl) ?_
            refine lv_aload_n hx hb dX7_build_82 rfl (lv_at hl 5 rfl) ?_
            refine g_get (C := RX7) (T := TX7) (N := 31) hx hb hts hi7 hown hN hW.1 hk.1 rfl (by decide) 7 (by decide) hfX7_27 (v := .ref (B 7)) ((gU_a (Ne.symm (hk.nm (i := 6) rfl))).trans (hf3 7 rfl)) dX7_build_83 ?_
            refine lv_aload_n hx hb dX7_build_86 rfl (lv_at hl 5 rfl) ?_
            refine g_get (C := RX7) (T := TX7) (N := 31) hx hb hts hi7 hown hN hW.1 hk.1 rfl (by decide) 17 (by decide) hfX7_48 (v := .ref (B 17)) ((gU_a (Ne.symm (hk.nm (i := 6) rfl))).trans (hf3 17 rfl)) dX7_build_87 ?_
            refine lv_iload hx hb dX7_build_90 (lv_at hl 0 rfl) ?_
            refine g_iald (j := L1.length) hx hb hN hW.1 (hk.2.1 17 (8, 140) rfl) (by decide) (show _ = nI L1.length from rfl) (by omega) (v := .int (nI y.1)) ((gU_a (hk.ne (i := 17) (j := 6) rfl rfl (by decide))).trans hwk) dX7_build_92 ?_
            refine g_iald (j := y.1) hx hb hN hW.1 (hk.2.1 7 (8, 140) rfl) (by decide) (show _ = nI y.1 from rfl) (by omega) (v := .int (nI y.2.1.1)) ((gU_a (hk.ne (i := 7) (j := 6) rfl rfl (by decide))).trans h7) dX7_build_93 ?_
            refine g_iast (j := (liv L1).length) hx hb hN hW (hk.2.1 19 (8, 100) rfl) (by decide) (show _ = nI ((liv L1).length) from rfl) (by omega) dX7_build_94 (fun H locs hW => ?_)
            refine lv_iinc (v := nI ((liv L1).length + 1)) (lv' := [(5, .int (nI ((liv L1).length + 1))), (6, .int (nI L1.length)), (4, .int (nI (tSz s0))), (3, .int (bI (sdB cx))), (2, .int (oI (cTI cx))), (0, .ref m9)]) hx hb dX7_build_95 hl (k := 1) rfl (inc1 _) (by decide) rfl (fun ls hl => ?_)
            refine lv_iinc (v := nI (L1.length + 1)) (lv' := [(6, .int (nI (L1.length + 1))), (5, .int (nI ((liv L1).length + 1))), (4, .int (nI (tSz s0))), (3, .int (bI (sdB cx))), (2, .int (oI (cTI cx))), (0, .ref m9)]) hx hb dX7_build_98 hl (k := 1) rfl (inc1 _) (by decide) rfl (fun ls hl => ?_)
            refine lv_goto (tgt := 41) hx hb dX7_build_101 (by decide) ?_
            refine ih (L1 ++ [y]) _ H locs ls hL' (fun j hj => (gU_a (hk.ne (i := 6) (j := 19) rfl rfl (by decide))).trans (hU4 j hj)) ?_ (fun b i h1 h2 => (gU_a h2).trans ((gU_a h1).trans (hfr3 b i h1 h2))) hW ?_
            · rw [hlv1, List.map_append]
              have q := rowL.fill (v := .int (nI y.2.1.1)) (hrow.up (b := B 6) (i := y.1) (v := .int (nI 0)) (Or.inl (hk.ne (i := 6) (j := 19) rfl rfl (by decide)))) (Q := []) rowL.nil
              rw [Nat.zero_add, List.length_map] at q
              exact q
            · rw [hlv1, List.length_append, List.length_append, List.length_singleton, List.length_singleton]
              exact lv_sub hl [0, 1, 2, 3, 4, 5] rfl
    exact gat (tPre s0) [] F2 H locs ls rfl (fun j hj => (e2 6 j rfl (by decide) (by decide)).trans (hU j hj)) rowL.nil (fun _ _ _ _ => rfl) hW (lv_sub hl [0, 1, 2, 3, 4, 5] rfl)
  refine lv_aload_n hx hb dX7_build_0 rfl (lv_at hl 0 rfl) ?_
  refine g_get (C := RX7) (T := TX7) (N := 31) hx hb hts hi7 hown hN hW.1 hk.1 rfl (by decide) 12 (by decide) hfX7_42 (v := .ref (B 12)) (hf 12 rfl) dX7_build_1 ?_
  refine lv_iload_n hx hb dX7_build_4 rfl (lv_at hl 1 rfl) ?_
  refine g_iald (j := n) hx hb hN hW.1 (hk.2.1 12 (8, 140) rfl) (by decide) (show _ = nI n from hon) hn140 (v := .int (oI (cTI cx))) hup dX7_build_5 ?_
  refine lv_istore_n (lv' := [(2, .int (oI (cTI cx))), (0, .ref m9), (1, .int (oI (rtI s0)))]) hx hb dX7_build_6 rfl hl (by decide) rfl (fun ls hl => ?_)
  refine lv_iload_n hx hb dX7_build_7 rfl (lv_at hl 0 rfl) ?_
  refine lv_iconst (v := (-1)) hx hb dX7_build_8 (by decide) ?_
  refine lv_icmp_eq (tgt := 26) hx hb dX7_build_9 (by decide) (fun c1 => ?_) (fun c1 => ?_)
  · have hcx : cx = [] := by
      rcases cx with _ | ⟨⟨b, y, o9⟩, c9⟩
      · rfl
      · exact absurd c1 (oI_n (Nat.lt_trans hC.1.1 (by decide)))
    refine lv_iconst (v := nI 0) hx hb dX7_build_26 (by decide) ?_
    refine g_asi (show _ = bI (sdB cx) from by rw [hcx]; rfl) ?_
    exact j27 ls (lv_sub hl [0, 1, 2] rfl)
  · obtain ⟨yc, lf, hyc, hcT, h10, hbq⟩ : ∃ (yc : Nat) (lf : Int32), yc < 140 ∧ oI (cTI cx) = nI yc ∧ F (B 10) yc = .int lf ∧ (lf = oI (rtI s0) ↔ sdB cx = true) := by
      rcases cx with _ | ⟨⟨b, y, o9⟩, c9⟩
      · exact absurd rfl c1
      · refine ⟨y.1, _, hC.1.1, rfl, hC.1.2.2.2.2.2.1, ?_⟩
        cases b with
        | true => exact ⟨fun _ => rfl, fun _ => rfl⟩
        | false =>
          refine ⟨fun e => ?_, fun e => by cases e⟩
          have e : oI (rtI o9) = oI (rtI s0) := e
          rw [hon] at e
          exfalso
          cases ho : rtI o9 with
          | none => rw [ho] at e; exact oI_n (Nat.lt_trans hn140 (by decide)) e.symm
          | some n2 =>
            rw [ho] at e
            have hn2 := RX_rt hC.2.1 ho
            have e : n2 = n := (nI_eq (Nat.lt_trans (RX_root hC.2.1 ho) (by decide)) (Nat.lt_trans hn140 (by decide))).mp e
            refine (List.nodup_append.mp hnd).2.2 n hnm9 n ?_ rfl
            rw [ixC_cons]
            exact List.mem_cons_of_mem _ (List.mem_append_left _ (e ▸ hn2.2))
    refine lv_aload_n hx hb dX7_build_12 rfl (lv_at hl 1 rfl) ?_
    refine g_get (C := RX7) (T := TX7) (N := 31) hx hb hts hi7 hown hN hW.1 hk.1 rfl (by decide) 10 (by decide) hfX7_36 (v := .ref (B 10)) (hf 10 rfl) dX7_build_13 ?_
    refine lv_iload_n hx hb dX7_build_16 rfl (lv_at hl 0 rfl) ?_
    refine g_iald (j := yc) hx hb hN hW.1 (hk.2.1 10 (8, 140) rfl) (by decide) (show _ = nI yc from hcT) (by omega) (v := .int lf) h10 dX7_build_17 ?_
    refine lv_iload_n hx hb dX7_build_18 rfl (lv_at hl 2 rfl) ?_
    refine lv_icmp_ne (tgt := 26) hx hb dX7_build_19 (by decide) (fun c2 => ?_) (fun c2 => ?_)
    · refine lv_iconst (v := nI 0) hx hb dX7_build_26 (by decide) ?_
      refine g_asi (show _ = bI (sdB cx) from by rw [Bool.eq_false_iff.mpr (fun z => c2 (hbq.mpr z))]; rfl) ?_
      exact j27 ls (lv_sub hl [0, 1, 2] rfl)
    · refine lv_iconst (v := nI 1) hx hb dX7_build_22 (by decide) ?_
      refine lv_goto (tgt := 27) hx hb dX7_build_23 (by decide) ?_
      refine g_asi (show _ = bI (sdB cx) from by rw [hbq.mp c2]; rfl) ?_
      exact j27 ls (lv_sub hl [0, 1, 2] rfl)
