theorem NT_world {K : gK} {F F' : gF} {x lb T row h ai ad J pts lens d : Nat} {tc : TT Nat} {nd : Nat → Option Nat} {dt : Nat → gPt} {pl : Nat → Nat} {dd : Nat → Bool} {S : List (Nat × Int64)} {lim lk bc bg bp : Nat} (hNT : NT K F x lb T row h ai ad J pts lens d tc nd dt pl dd S lim lk bc bg bp) (hf : ∀ a k i, K a = some k → F' a i = F a i) : NT K F' x lb T row h ai ad J pts lens d tc nd dt pl dd S lim lk bc bg bp := by
  have hk := hNT.1
  have hL := hNT.2.2.2.2.2.2.1
  have hx := hNT.2.2.1
  refine NT_up hNT (fun _ _ z => z) (fun b k i hb _ _ _ _ => hf b k i hb) ((hf x _ 6 hk.1).trans hx.2.2.2.2.2.2.1) (lsR_up hL (fun _ _ z => z) (fun b i hb => ?_))
  rcases hb with rfl | rfl | rfl
  · exact hf _ _ i hL.1
  · exact hf _ _ i hL.2.1
  · exact hf _ _ i hL.2.2.1
theorem RS_off {K : gK} {F F' : gF} {m9 : Nat} {B : Nat → Nat} {d : Nat} {P : Nat → Option (Nat → Int32)} {t : TT gLb} {S : List (Nat × Int64)} {lk bc bg bp : Nat} (hk : MKk K m9 B) (h : RS F m9 B d P t S lk bc bg bp) (hf : ∀ a k i, K a = some k → F' a i = F a i) : RS F' m9 B d P t S lk bc bg bp := RS_congr h (fun j _ => hf m9 _ j hk.1) (fun j i hj => by
  obtain ⟨kd, hkd⟩ := Option.isSome_iff_exists.mp (JK_some hj)
  exact hf (B j) kd i (hk.2.1 j kd hkd))
theorem mid_x {K Kx Kx' Km : gK} {o sz : Nat} (hKx : ∀ a k, Kx a = some k → K a = some k) (hKm : ∀ a k, Km a = some k → K a = some k) (hdis : ∀ a k, Kx a = some k → Km a = none) (hKo : K o = some (9, 1)) (hxo : Kx o = none) (hmo : Km o = none) (hlt : ∀ a k, K a = some k → a < sz) (hA : ∀ a k, va_up Kx' o (some (9, 1)) a = some k → gA (va_up Kx o (some (9, 1))) sz a) (hxo' : Kx' o = none) :
    (∀ a k, Kx' a = some k → kMg K (va_up Kx o (some (9, 1))) (va_up Kx' o (some (9, 1))) a = some k) ∧ (∀ a k, Km a = some k → kMg K (va_up Kx o (some (9, 1))) (va_up Kx' o (some (9, 1))) a = some k ∧ va_up Kx' o (some (9, 1)) a = none) ∧ (∀ a k, Kx' a = some k → Km a = none) ∧ kMg K (va_up Kx o (some (9, 1))) (va_up Kx' o (some (9, 1))) o = some (9, 1) := by
  have h1 : ∀ a k, Kx' a = some k → va_up Kx' o (some (9, 1)) a = some k := fun a k ha => by rw [va_up_ne _ _ (fun e => by rw [e, hxo'] at ha; cases ha)]; exact ha
  have h2 : ∀ a k, Km a = some k → va_up Kx o (some (9, 1)) a = none ∧ va_up Kx' o (some (9, 1)) a = none := fun a k ha => by
    have hne : a ≠ o := fun e => by rw [e, hmo] at ha; cases ha
    have hx0 : Kx a = none := by
      cases hc : Kx a with
      | none => rfl
      | some k2 => rw [hdis a k2 hc] at ha; cases ha
    have e1 : va_up Kx o (some (9, 1)) a = none := by rw [va_up_ne _ _ hne]; exact hx0
    refine ⟨e1, ?_⟩
    cases hc : va_up Kx' o (some (9, 1)) a with
    | none => rfl
    | some k2 =>
      rcases hA a k2 hc with ⟨z, hz⟩ | hz
      · rw [e1] at hz; cases hz
      · exact absurd (hlt a k (hKm a k ha)) (by omega)
  refine ⟨fun a k ha => kMg_new (h1 a k ha), fun a k ha => ⟨(kMg_old (h2 a k ha).2 (h2 a k ha).1).trans (hKm a k ha), (h2 a k ha).2⟩, fun a k ha => ?_, kMg_new (va_up_self _ _ _)⟩
  cases hc : Km a with
  | none => rfl
  | some k2 =>
    have := (h2 a k2 hc).2
    rw [h1 a k ha] at this
    cases this
theorem mid_m {K Km : gK} (hKm : ∀ a k, Km a = some k → K a = some k) : ∀ a k, K a = some k → kMg K Km Km a = some k := fun a k ha => by
  cases hc : Km a with
  | none => exact (kMg_old hc hc).trans ha
  | some k2 =>
    have := hKm a k2 hc
    rw [ha] at this
    cases this
    exact kMg_new hc
/-- the law's state: the class's object and the reference's say the same -/
def LVx (K : gK) (F : gF) (o x m9 : Nat) : Prop := ∃ (Kx Km : gK) (lb T row h9 ai ad J pts lens : Nat) (B : Nat → Nat) (d : Nat) (tc : TT Nat) (nd : Nat → Option Nat) (dt : Nat → gPt) (pl : Nat → Nat) (dd : Nat → Bool) (S : List (Nat × Int64)) (lim lk bc bg bp : Nat), (∀ a k, Kx a = some k → K a = some k) ∧ (∀ a k, Km a = some k → K a = some k) ∧ (∀ a k, Kx a = some k → Km a = none) ∧ K o = some (9, 1) ∧ Kx o = none ∧ Km o = none ∧ NT Kx F x lb T row h9 ai ad J pts lens d tc nd dt pl dd S lim lk bc bg bp ∧ MKk Km m9 B ∧ RS F m9 B d (ndP nd dt) (tMap (fL dt dd) tc) S lk bc bg bp
def LCt (p : Program) (l : Launch) (s : State) (m : MethodId) (meth : Method) (c : Code) (b L : Nat) (xs : Nat → Int32) (Γ : gG) : Prop := lw_At p s m meth c b L xs ∧ gN Γ s ∧ gTH (fun q : Nat => s.heap.size ≤ q) s s.heap ∧ va_Nc nISE nIAE s ∧ l.stackTraces = false
theorem nI_nn {n : Nat} (h : n < 2 ^ 31) : ¬ nI n < 0 := by
  rw [Int32.lt_iff_toInt_lt, nI_toInt h, show (0 : Int32).toInt = 0 from by decide]
  omega
theorem okId_i {i : Nat} (h : i < 100) : okId (nI i) = true := decide_eq_true ⟨nI_nn (by omega), show nI i < nI 100 from (nI_ltI (by omega) (by decide)).mpr h⟩

theorem L_put (l : Launch) (Γ : gG) (Kx : gK) (F : gF) (sz : Nat) (x o : Nat) (kx : Kx x = some (6, 0)) (ho : Kx o = none) (d9 : Int32) (xx : Int32) (yy : Int32) (zz : Int32) (ww : Int32) {post : Option Value → gK → gF → Prop} {px : String → Prop} (hM : gMX l yX6_put wsX6_put 75 2 13 Γ Kx F sz [.ref x, .int d9, .int xx, .int yy, .int zz, .int ww] post px) (hv : ∀ v K' F', post v K' F' → ∃ r, v = some (.int r)) (hpx : ∀ E, px E → E = nIAE ∨ E = nISE) : gML l yL_put wsL_put 76 2 13 Γ (va_up Kx o (some (9, 1))) F sz [.ref x, .int d9, .int xx, .int yy, .int zz, .int ww, .ref o] (wP Kx F o nIAE px (fun K' F' r => ∃ q, post (some (.int q)) K' F' ∧ r = q.toInt64)) := l_put l Γ Kx F sz x o kx ho d9 xx yy zz ww post px _ hM (fun v K' F' h => by obtain ⟨r, rfl⟩ := hv v K' F' h; exact ⟨r, rfl, r, h, rfl⟩) hpx

theorem L_drop (l : Launch) (Γ : gG) (Kx : gK) (F : gF) (sz : Nat) (x o : Nat) (kx : Kx x = some (6, 0)) (ho : Kx o = none) (d9 : Int32) {post : Option Value → gK → gF → Prop} {px : String → Prop} (hM : gMX l yX6_drop wsX6_drop 75 1 6 Γ Kx F sz [.ref x, .int d9] post px) (hv : ∀ v K' F', post v K' F' → ∃ r, v = some (.int r)) (hpx : ∀ E, px E → E = nIAE ∨ E = nISE) : gML l yL_drop wsL_drop 76 1 6 Γ (va_up Kx o (some (9, 1))) F sz [.ref x, .int d9, .ref o] (wP Kx F o nIAE px (fun K' F' r => ∃ q, post (some (.int q)) K' F' ∧ r = q.toInt64)) := l_drop l Γ Kx F sz x o kx ho d9 post px _ hM (fun v K' F' h => by obtain ⟨r, rfl⟩ := hv v K' F' h; exact ⟨r, rfl, r, h, rfl⟩) hpx

theorem L_at (l : Launch) (Γ : gG) (Kx : gK) (F : gF) (sz : Nat) (x o : Nat) (kx : Kx x = some (6, 0)) (ho : Kx o = none) (d9 : Int32) (ax : Int32) {post : Option Value → gK → gF → Prop} {px : String → Prop} (hM : gMX l yX6_at wsX6_at 8 1 6 Γ Kx F sz [.ref x, .int d9, .int ax] post px) (hv : ∀ v K' F', post v K' F' → ∃ r, v = some (.int r)) (hpx : ∀ E, px E → E = nIAE ∨ E = nISE) : gML l yL_at wsL_at 9 1 6 Γ (va_up Kx o (some (9, 1))) F sz [.ref x, .int d9, .int ax, .ref o] (wP Kx F o nIAE px (fun K' F' r => ∃ q, post (some (.int q)) K' F' ∧ r = q.toInt64)) := l_at l Γ Kx F sz x o kx ho d9 ax post px _ hM (fun v K' F' h => by obtain ⟨r, rfl⟩ := hv v K' F' h; exact ⟨r, rfl, r, h, rfl⟩) hpx

theorem L_nearest (l : Launch) (Γ : gG) (Kx : gK) (F : gF) (sz : Nat) (x o : Nat) (kx : Kx x = some (6, 0)) (ho : Kx o = none) (k9 : Int32) (xx : Int32) (yy : Int32) (zz : Int32) (ww : Int32) {post : Option Value → gK → gF → Prop} {px : String → Prop} (hM : gMX l yX6_nearest wsX6_nearest 130 2 7 Γ Kx F sz [.ref x, .int k9, .int xx, .int yy, .int zz, .int ww] post px) (hv : ∀ v K' F', post v K' F' → ∃ r, v = some (.int r)) (hpx : ∀ E, px E → E = nIAE) : gML l yL_nearest wsL_nearest 131 2 7 Γ (va_up Kx o (some (9, 1))) F sz [.ref x, .int k9, .int xx, .int yy, .int zz, .int ww, .ref o] (wP Kx F o nIAE px (fun K' F' r => ∃ q, post (some (.int q)) K' F' ∧ r = q.toInt64)) := l_nearest l Γ Kx F sz x o kx ho k9 xx yy zz ww post px _ hM (fun v K' F' h => by obtain ⟨r, rfl⟩ := hv v K' F' h; exact ⟨r, rfl, r, h, rfl⟩) hpx

theorem L_within (l : Launch) (Γ : gG) (Kx : gK) (F : gF) (sz : Nat) (x o : Nat) (kx : Kx x = some (6, 0)) (ho : Kx o = none) (most : Int64) (xx : Int32) (yy : Int32) (zz : Int32) (ww : Int32) {post : Option Value → gK → gF → Prop} {px : String → Prop} (hM : gMX l yX6_within wsX6_within 8 1 6 Γ Kx F sz [.ref x, .long most, .int xx, .int yy, .int zz, .int ww] post px) (hv : ∀ v K' F', post v K' F' → ∃ r, v = some (.int r)) (hpx : ∀ E, px E → E = nIAE) : gML l yL_within wsL_within 9 1 6 Γ (va_up Kx o (some (9, 1))) F sz [.ref x, .long most, .int xx, .int yy, .int zz, .int ww, .ref o] (wP Kx F o nIAE px (fun K' F' r => ∃ q, post (some (.int q)) K' F' ∧ r = q.toInt64)) := l_within l Γ Kx F sz x o kx ho most xx yy zz ww post px _ hM (fun v K' F' h => by obtain ⟨r, rfl⟩ := hv v K' F' h; exact ⟨r, rfl, r, h, rfl⟩) hpx

theorem L_listed (l : Launch) (Γ : gG) (Kx : gK) (F : gF) (sz : Nat) (x o : Nat) (kx : Kx x = some (6, 0)) (ho : Kx o = none) (i9 : Int32) {post : Option Value → gK → gF → Prop} {px : String → Prop} (hM : gMX l yX6_listed wsX6_listed 8 1 6 Γ Kx F sz [.ref x, .int i9] post px) (hv : ∀ v K' F', post v K' F' → ∃ r, v = some (.int r)) (hpx : ∀ E, px E → E = nIOB) : gML l yL_listed wsL_listed 9 1 6 Γ (va_up Kx o (some (9, 1))) F sz [.ref x, .int i9, .ref o] (wP Kx F o nIOB px (fun K' F' r => ∃ q, post (some (.int q)) K' F' ∧ r = q.toInt64)) := l_listed l Γ Kx F sz x o kx ho i9 post px _ hM (fun v K' F' h => by obtain ⟨r, rfl⟩ := hv v K' F' h; exact ⟨r, rfl, r, h, rfl⟩) hpx

theorem L_distance (l : Launch) (Γ : gG) (Kx : gK) (F : gF) (sz : Nat) (x o : Nat) (kx : Kx x = some (6, 0)) (ho : Kx o = none) (i9 : Int32) {post : Option Value → gK → gF → Prop} {px : String → Prop} (hM : gMX l yX6_distance wsX6_distance 8 1 6 Γ Kx F sz [.ref x, .int i9] post px) (hv : ∀ v K' F', post v K' F' → ∃ r, v = some (.long r)) (hpx : ∀ E, px E → E = nIOB) : gML l yL_distance wsL_distance 9 1 6 Γ (va_up Kx o (some (9, 1))) F sz [.ref x, .int i9, .ref o] (wP Kx F o nIOB px (fun K' F' r => ∃ q, post (some (.long q)) K' F' ∧ r = q)) := l_distance l Γ Kx F sz x o kx ho i9 post px _ hM (fun v K' F' h => by obtain ⟨r, rfl⟩ := hv v K' F' h; exact ⟨r, rfl, r, h, rfl⟩) hpx

theorem L_inBox (l : Launch) (Γ : gG) (Kx : gK) (F : gF) (sz : Nat) (x o : Nat) (kx : Kx x = some (6, 0)) (ho : Kx o = none) (a9 : Int32) (lo : Int32) (hi9 : Int32) (b9 : Int32) (lo2 : Int32) (ze2 : Int32) {post : Option Value → gK → gF → Prop} {px : String → Prop} (hM : gMX l yX6_inBox wsX6_inBox 8 1 6 Γ Kx F sz [.ref x, .int a9, .int lo, .int hi9, .int b9, .int lo2, .int ze2] post px) (hv : ∀ v K' F', post v K' F' → ∃ r, v = some (.int r)) (hpx : ∀ E, px E → E = nIAE) : gML l yL_inBox wsL_inBox 9 1 6 Γ (va_up Kx o (some (9, 1))) F sz [.ref x, .int a9, .int lo, .int hi9, .int b9, .int lo2, .int ze2, .ref o] (wP Kx F o nIAE px (fun K' F' r => ∃ q, post (some (.int q)) K' F' ∧ r = q.toInt64)) := l_inBox l Γ Kx F sz x o kx ho a9 lo hi9 b9 lo2 ze2 post px _ hM (fun v K' F' h => by obtain ⟨r, rfl⟩ := hv v K' F' h; exact ⟨r, rfl, r, h, rfl⟩) hpx

theorem L_pair (l : Launch) (Γ : gG) (Kx : gK) (F : gF) (sz : Nat) (x o : Nat) (kx : Kx x = some (6, 0)) (ho : Kx o = none) (w9 : Int32) {post : Option Value → gK → gF → Prop} {px : String → Prop} (hM : gMX l yX6_pair wsX6_pair 8 1 6 Γ Kx F sz [.ref x, .int w9] post px) (hv : ∀ v K' F', post v K' F' → ∃ r, v = some (.long r)) (hpx : ∀ E, px E → E = nIAE ∨ E = nISE) : gML l yL_pair wsL_pair 9 1 6 Γ (va_up Kx o (some (9, 1))) F sz [.ref x, .int w9, .ref o] (wP Kx F o nIAE px (fun K' F' r => ∃ q, post (some (.long q)) K' F' ∧ r = q)) := l_pair l Γ Kx F sz x o kx ho w9 post px _ hM (fun v K' F' h => by obtain ⟨r, rfl⟩ := hv v K' F' h; exact ⟨r, rfl, r, h, rfl⟩) hpx

theorem L_parts (l : Launch) (Γ : gG) (Kx : gK) (F : gF) (sz : Nat) (x o : Nat) (kx : Kx x = some (6, 0)) (ho : Kx o = none) (most : Int64) {post : Option Value → gK → gF → Prop} {px : String → Prop} (hM : gMX l yX6_parts wsX6_parts 8 1 6 Γ Kx F sz [.ref x, .long most] post px) (hv : ∀ v K' F', post v K' F' → ∃ r, v = some (.int r)) (hpx : ∀ E, px E → E = nIAE) : gML l yL_parts wsL_parts 9 1 6 Γ (va_up Kx o (some (9, 1))) F sz [.ref x, .long most, .ref o] (wP Kx F o nIAE px (fun K' F' r => ∃ q, post (some (.int q)) K' F' ∧ r = q.toInt64)) := l_parts l Γ Kx F sz x o kx ho most post px _ hM (fun v K' F' h => by obtain ⟨r, rfl⟩ := hv v K' F' h; exact ⟨r, rfl, r, h, rfl⟩) hpx

theorem L_node (l : Launch) (Γ : gG) (Kx : gK) (F : gF) (sz : Nat) (x o : Nat) (kx : Kx x = some (6, 0)) (ho : Kx o = none) (d9 : Int32) (w9 : Int32) {post : Option Value → gK → gF → Prop} {px : String → Prop} (hM : gMX l yX6_node wsX6_node 8 1 6 Γ Kx F sz [.ref x, .int d9, .int w9] post px) (hv : ∀ v K' F', post v K' F' → ∃ r, v = some (.int r)) (hpx : ∀ E, px E → E = nIAE ∨ E = nISE) : gML l yL_node wsL_node 9 1 6 Γ (va_up Kx o (some (9, 1))) F sz [.ref x, .int d9, .int w9, .ref o] (wP Kx F o nIAE px (fun K' F' r => ∃ q, post (some (.int q)) K' F' ∧ r = q.toInt64)) := l_node l Γ Kx F sz x o kx ho d9 w9 post px _ hM (fun v K' F' h => by obtain ⟨r, rfl⟩ := hv v K' F' h; exact ⟨r, rfl, r, h, rfl⟩) hpx

theorem L_walk (l : Launch) (Γ : gG) (Kx : gK) (F : gF) (sz : Nat) (x o : Nat) (kx : Kx x = some (6, 0)) (ho : Kx o = none) (k9 : Int32) {post : Option Value → gK → gF → Prop} {px : String → Prop} (hM : gMX l yX6_walk wsX6_walk 8 1 6 Γ Kx F sz [.ref x, .int k9] post px) (hv : ∀ v K' F', post v K' F' → ∃ r, v = some (.int r)) (hpx : ∀ E, px E → E = nIOB) : gML l yL_walk wsL_walk 9 1 6 Γ (va_up Kx o (some (9, 1))) F sz [.ref x, .int k9, .ref o] (wP Kx F o nIOB px (fun K' F' r => ∃ q, post (some (.int q)) K' F' ∧ r = q.toInt64)) := l_walk l Γ Kx F sz x o kx ho k9 post px _ hM (fun v K' F' h => by obtain ⟨r, rfl⟩ := hv v K' F' h; exact ⟨r, rfl, r, h, rfl⟩) hpx

theorem L_count (l : Launch) (Γ : gG) (Kx : gK) (F : gF) (sz : Nat) (x o : Nat) (kx : Kx x = some (6, 0)) (ho : Kx o = none) (w9 : Int32) {post : Option Value → gK → gF → Prop} {px : String → Prop} (hM : gMX l yX6_count wsX6_count 8 1 6 Γ Kx F sz [.ref x, .int w9] post px) (hv : ∀ v K' F', post v K' F' → ∃ r, v = some (.int r)) (hpx : ∀ E, px E → E = nIAE) : gML l yL_count wsL_count 9 1 6 Γ (va_up Kx o (some (9, 1))) F sz [.ref x, .int w9, .ref o] (wP Kx F o nIAE px (fun K' F' r => ∃ q, post (some (.int q)) K' F' ∧ r = q.toInt64)) := l_count l Γ Kx F sz x o kx ho w9 post px _ hM (fun v K' F' h => by obtain ⟨r, rfl⟩ := hv v K' F' h; exact ⟨r, rfl, r, h, rfl⟩) hpx

set_option maxHeartbeats 4000000 in
set_option maxRecDepth 100000 in
theorem s_put {p : Program} {l : Launch} {e : Env} {s : State} {m : MethodId} {below : List Frame} {meth : Method} {c : Code} {b L : Nat} {xs : Nat → Int32} {Γ : gG} (hC : LCt p l s m meth c b L xs Γ) (hL : L ≤ 3585) (i : Nat) (hi : i + 7 ≤ L) (o x m9 cl sl : Nat) (hcl : cl + 2 ≤ 601024) (hsl : sl + 13 ≤ 7293000)
    (kk : ∀ (K : gK) (F : gF) (H : Heap) (locs : List Loc) (ls : Array Slot), LVx K F o x m9 → gW Γ (fun q : Nat => s.heap.size ≤ q) s.heap K F H locs → lv_has ls 8 [(4, .int (nI i)), (0, .ref b), (1, .ref x), (2, .ref m9), (3, .ref o)] → W p l e room_1 s m #[Value.ref b] below meth c H locs (cl + 2) (sl + 13) (lw_Z below #[Value.ref b] s) (F0 m 1173 ls [])) :
    ∀ (K : gK) (F : gF) (H : Heap) (locs : List Loc) (ls : Array Slot), LVx K F o x m9 → gW Γ (fun q : Nat => s.heap.size ≤ q) s.heap K F H locs → lv_has ls 8 [(4, .int (nI i)), (0, .ref b), (1, .ref x), (2, .ref m9), (3, .ref o)] → W p l e room_1 s m #[Value.ref b] below meth c H locs (cl) (sl) (lw_Z below #[Value.ref b] s) (F0 m 124 ls []) := by
  intro K F H locs ls hLV hW hl
  obtain ⟨⟨hx, hb, hr, hml, hown, hts0, hX, hbl, hlocks, hgv⟩, hN, hT0, hNc, hfl⟩ := hC
  have hbA : ¬ (fun q : Nat => s.heap.size ≤ q) b := Nat.not_le.mpr hbl
  have hown : s.vm.findClass RL = some m.cls := hown
  have hts : ∀ w ∈ wsL_law, w.before #[Value.ref b] s = true := fun w h => hts0 w (wsL_law_in w h)
  obtain ⟨Kx, Km, lb, T, row, h9, ai, ad, J, pts, lens, B, d, tc, nd, dt, pl, dd, S, lim, lk, bc, bg, bp, hKx, hKm, hdis, hKo, hxo, hmo, hNT, hk, hRS⟩ := hLV
  have hp9 := hNT.2.2.2.2.2.2.2.2
  have hAS := AS_NT hNT.2.2.2.2.2.2.2.1 hp9
  have hoP := okP_NT hp9
  have hlc := lcP_nd nd dt
  have h60 : lcP (ndP nd dt) ≤ 60 := by rw [hlc]; exact hp9.2.2.2.2.2.1
  have hd0 := hNT.2.1.1
  have hd4 := hNT.2.1.2
  have hS100 : S.length ≤ 100 := Nat.le_trans hNT.2.2.2.2.2.2.1.2.2.2.2.2.2.2.2.2.1 hNT.2.2.2.2.2.2.1.2.2.2.2.2.2.2.2.2.2.1
  have hid : ∀ i a, i < 100 → nd i = some a → (dt a).1 = i := fun i a hi ha => (hp9.2.1 i a hi ha).2.1
  have hlt : ∀ a q, K a = some q → a < H.size := fun a q ha => (hW.1 a q ha).lt
  have kx : Kx x = some (6, 0) := hNT.1.1
  have hTHk : ∀ K1 : gK, (∀ a q, K1 a = some q → K a = some q) → gTH (gA K1 H.size) s H := fun K1 h1 => gTH.narrow (A := fun q : Nat => s.heap.size ≤ q) (fun q hq => by
    rcases hq with ⟨k, hk⟩ | hq
    · exact hW.2.2.1 q k (h1 q k hk)
    · exact Nat.le_trans hW.2.1.1 hq) (gTH.kept (fun a ha hA => hW.2.1.2.1 a ha hA) hT0)
  obtain ⟨a1, ha1⟩ : ∃ a, a = xs (nI (i + 1)).toNatClampNeg := ⟨_, rfl⟩
  obtain ⟨a2, ha2⟩ : ∃ a, a = xs (nI (i + 2)).toNatClampNeg := ⟨_, rfl⟩
  obtain ⟨a3, ha3⟩ : ∃ a, a = xs (nI (i + 3)).toNatClampNeg := ⟨_, rfl⟩
  obtain ⟨a4, ha4⟩ : ∃ a, a = xs (nI (i + 4)).toNatClampNeg := ⟨_, rfl⟩
  obtain ⟨a5, ha5⟩ : ∃ a, a = xs (nI (i + 5)).toNatClampNeg := ⟨_, rfl⟩
  refine lv_aload_n hx hb dL_law_124 rfl (lv_at hl 2 rfl) ?_
  refine lv_aload_n hx hb dL_law_125 rfl (lv_at hl 1 rfl) ?_
  refine lv_iload hx hb dL_law_126 (lv_at hl 0 rfl) ?_
  refine lv_iconst (v := nI 1) hx hb dL_law_128 (by decide) ?_
  refine lv_iadd hx hb dL_law_129 ?_
  refine g_asi (show _ = nI (i + 1) from (nI_add _ _).trans (by rfl)) ?_
  refine va_sld hx hb hX hbl hbA hW.2.1 (vp_in_nI (show i + 1 < L by omega) (by omega)) dL_law_130 ?_
  refine g_asi (show _ = a1 from ha1.symm) ?_
  refine lv_aload_n hx hb dL_law_131 rfl (lv_at hl 1 rfl) ?_
  refine lv_iload hx hb dL_law_132 (lv_at hl 0 rfl) ?_
  refine lv_iconst (v := nI 2) hx hb dL_law_134 (by decide) ?_
  refine lv_iadd hx hb dL_law_135 ?_
  refine g_asi (show _ = nI (i + 2) from (nI_add _ _).trans (by rfl)) ?_
  refine va_sld hx hb hX hbl hbA hW.2.1 (vp_in_nI (show i + 2 < L by omega) (by omega)) dL_law_136 ?_
  refine g_asi (show _ = a2 from ha2.symm) ?_
  refine lv_aload_n hx hb dL_law_137 rfl (lv_at hl 1 rfl) ?_
  refine lv_iload hx hb dL_law_138 (lv_at hl 0 rfl) ?_
  refine lv_iconst (v := nI 3) hx hb dL_law_140 (by decide) ?_
  refine lv_iadd hx hb dL_law_141 ?_
  refine g_asi (show _ = nI (i + 3) from (nI_add _ _).trans (by rfl)) ?_
  refine va_sld hx hb hX hbl hbA hW.2.1 (vp_in_nI (show i + 3 < L by omega) (by omega)) dL_law_142 ?_
  refine g_asi (show _ = a3 from ha3.symm) ?_
  refine lv_aload_n hx hb dL_law_143 rfl (lv_at hl 1 rfl) ?_
  refine lv_iload hx hb dL_law_144 (lv_at hl 0 rfl) ?_
  refine lv_iconst (v := nI 4) hx hb dL_law_146 (by decide) ?_
  refine lv_iadd hx hb dL_law_147 ?_
  refine g_asi (show _ = nI (i + 4) from (nI_add _ _).trans (by rfl)) ?_
  refine va_sld hx hb hX hbl hbA hW.2.1 (vp_in_nI (show i + 4 < L by omega) (by omega)) dL_law_148 ?_
  refine g_asi (show _ = a4 from ha4.symm) ?_
  refine lv_aload_n hx hb dL_law_149 rfl (lv_at hl 1 rfl) ?_
  refine lv_iload hx hb dL_law_150 (lv_at hl 0 rfl) ?_
  refine lv_iconst (v := nI 5) hx hb dL_law_152 (by decide) ?_
  refine lv_iadd hx hb dL_law_153 ?_
  refine g_asi (show _ = nI (i + 5) from (nI_add _ _).trans (by rfl)) ?_
  refine va_sld hx hb hX hbl hbA hW.2.1 (vp_in_nI (show i + 5 < L by omega) (by omega)) dL_law_154 ?_
  refine g_asi (show _ = a5 from ha5.symm) ?_
  refine lv_aload_n hx hb dL_law_155 rfl (lv_at hl 4 rfl) ?_
  refine g_lS (K1 := va_up Kx o (some (9, 1))) (As := [.ref x, .int a1, .int a2, .int a3, .int a4, .int a5, .ref o]) (rest := []) hx hb hml hown hts hN hW (fun a q ha => by
    by_cases e : a = o
    · rw [e] at ha ⊢; rw [va_up_self] at ha; rw [← ha]; exact hKo
    · rw [va_up_ne _ _ e] at ha; exact hKx a q ha) (hTHk _ (fun a q ha => by
    by_cases e : a = o
    · rw [e] at ha ⊢; rw [va_up_self] at ha; rw [← ha]; exact hKo
    · rw [va_up_ne _ _ e] at ha; exact hKx a q ha)) hNc (L_put l Γ Kx F H.size x o kx hxo a1 a2 a3 a4 a5 (c_put l hfl Γ Kx F H.size x lb T row h9 ai ad J pts lens d tc nd dt pl dd S lim lk bc bg bp hNT a1 a2 a3 a4 a5) (fun v K' F' h => by obtain ⟨_, _, _, _, _, _, _, _, _, _, hv⟩ := h; exact ⟨_, hv⟩) (fun E hE => hE.imp (fun z => z.1) (fun z => z.1))) gL_law_L_put rfl (na := 7) rfl (by decide +kernel) ⟨by show _ ≤ 2048; decide, by show _ ≤ 84000; decide⟩ ⟨by show _ ≤ 601024; omega, by show _ ≤ 7293000; omega⟩ rfl hl.1 (Nat.le_of_ble_eq_true rfl) dL_law_156 (fun v K1 F1 H locs hp hA1 hW hsz1 => ?_)
  obtain ⟨k, Kx', hv, hK1, hKxo, hcase⟩ := hp
  subst hv
  subst hK1
  obtain ⟨m1, m2, m3, m4⟩ := mid_x hKx hKm hdis hKo hxo hmo hlt hA1 hKxo
  have hF2m : ∀ a q i, Km a = some q → fMg F F1 (va_up Kx' o (some (9, 1))) a i = F a i := fun a q i ha => fMg_old (m2 a q ha).2
  have hF2x : ∀ a q i, Kx' a = some q → fMg F F1 (va_up Kx' o (some (9, 1))) a i = F1 a i := fun a q i ha => fMg_new (show va_up Kx' o (some (9, 1)) a = some q by rw [va_up_ne _ _ (fun e => by rw [e, hKxo] at ha; cases ha)]; exact ha)
  have hF2o : fMg F F1 (va_up Kx' o (some (9, 1))) o 0 = F1 o 0 := fMg_new (va_up_self _ _ _)
  have m2' : ∀ a q, Km a = some q → kMg K (va_up Kx o (some (9, 1))) (va_up Kx' o (some (9, 1))) a = some q := fun a q ha => (m2 a q ha).1
  generalize kMg K (va_up Kx o (some (9, 1))) (va_up Kx' o (some (9, 1))) = K2 at hW m1 m2' m4
  generalize fMg F F1 (va_up Kx' o (some (9, 1))) = F2 at hW hF2m hF2x hF2o
  have hRS2 := RS_off hk hRS hF2m
  show W _ _ _ _ _ _ _ _ _ _ _ _ _ _ _ (F0 m 159 ls [.int (nI k)])
  refine lv_istore (lv' := [(5, .int (nI k)), (4, .int (nI i)), (0, .ref b), (1, .ref x), (2, .ref m9), (3, .ref o)]) hx hb dL_law_159 hl (by decide) rfl (fun ls hl => ?_)
  refine lv_aload_n hx hb dL_law_161 rfl (lv_at hl 4 rfl) ?_
  refine lv_aload_n hx hb dL_law_162 rfl (lv_at hl 2 rfl) ?_
  refine lv_iload hx hb dL_law_163 (lv_at hl 1 rfl) ?_
  refine lv_iconst (v := nI 1) hx hb dL_law_165 (by decide) ?_
  refine lv_iadd hx hb dL_law_166 ?_
  refine g_asi (show _ = nI (i + 1) from (nI_add _ _).trans (by rfl)) ?_
  refine va_sld hx hb hX hbl hbA hW.2.1 (vp_in_nI (show i + 1 < L by omega) (by omega)) dL_law_167 ?_
  refine g_asi (show _ = a1 from ha1.symm) ?_
  refine lv_aload_n hx hb dL_law_168 rfl (lv_at hl 2 rfl) ?_
  refine lv_iload hx hb dL_law_169 (lv_at hl 1 rfl) ?_
  refine lv_iconst (v := nI 2) hx hb dL_law_171 (by decide) ?_
  refine lv_iadd hx hb dL_law_172 ?_
  refine g_asi (show _ = nI (i + 2) from (nI_add _ _).trans (by rfl)) ?_
  refine va_sld hx hb hX hbl hbA hW.2.1 (vp_in_nI (show i + 2 < L by omega) (by omega)) dL_law_173 ?_
  refine g_asi (show _ = a2 from ha2.symm) ?_
  refine lv_aload_n hx hb dL_law_174 rfl (lv_at hl 2 rfl) ?_
  refine lv_iload hx hb dL_law_175 (lv_at hl 1 rfl) ?_
  refine lv_iconst (v := nI 3) hx hb dL_law_177 (by decide) ?_
  refine lv_iadd hx hb dL_law_178 ?_
  refine g_asi (show _ = nI (i + 3) from (nI_add _ _).trans (by rfl)) ?_
  refine va_sld hx hb hX hbl hbA hW.2.1 (vp_in_nI (show i + 3 < L by omega) (by omega)) dL_law_179 ?_
  refine g_asi (show _ = a3 from ha3.symm) ?_
  refine lv_aload_n hx hb dL_law_180 rfl (lv_at hl 2 rfl) ?_
  refine lv_iload hx hb dL_law_181 (lv_at hl 1 rfl) ?_
  refine lv_iconst (v := nI 4) hx hb dL_law_183 (by decide) ?_
  refine lv_iadd hx hb dL_law_184 ?_
  refine g_asi (show _ = nI (i + 4) from (nI_add _ _).trans (by rfl)) ?_
  refine va_sld hx hb hX hbl hbA hW.2.1 (vp_in_nI (show i + 4 < L by omega) (by omega)) dL_law_185 ?_
  refine g_asi (show _ = a4 from ha4.symm) ?_
  refine lv_aload_n hx hb dL_law_186 rfl (lv_at hl 2 rfl) ?_
  refine lv_iload hx hb dL_law_187 (lv_at hl 1 rfl) ?_
  refine lv_iconst (v := nI 5) hx hb dL_law_189 (by decide) ?_
  refine lv_iadd hx hb dL_law_190 ?_
  refine g_asi (show _ = nI (i + 5) from (nI_add _ _).trans (by rfl)) ?_
  refine va_sld hx hb hX hbl hbA hW.2.1 (vp_in_nI (show i + 5 < L by omega) (by omega)) dL_law_191 ?_
  refine g_asi (show _ = a5 from ha5.symm) ?_
  refine g_mVF (K1 := Km) (As := [.int a1, .int a2, .int a3, .int a4, .int a5]) (b := m9) (rest := []) hx hb hml hown hts hN hW m2' (m_put l Γ Km F2 H.size m9 B hk d (ndP nd dt) (tMap (fL dt dd) tc) S lk bc bg bp hRS2 hd0 hd4 hAS a1 a2 a3 a4 a5) gL_law_X7_put rfl hk.1 (by decide) rfl (na := 5) rfl (by decide +kernel) ⟨by show _ ≤ 2048; decide, by show _ ≤ 84000; decide⟩ ⟨by show _ ≤ 601024; omega, by show _ ≤ 7293000; omega⟩ rfl hl.1 (Nat.le_of_ble_eq_true rfl) dL_law_192 (fun v K3 F3 H locs hp hA3 hW hsz2 => ?_)
  obtain ⟨th, r2, hv, hK3, hth, htR, hsame, hzero⟩ := hp
  subst hv
  subst hK3
  have n1 := mid_m m2'
  have hF3m : ∀ a q i, K3 a = some q → fMg F2 F3 K3 a i = F3 a i := fun a q i ha => fMg_new ha
  have hF3x : ∀ a i, K3 a = none → fMg F2 F3 K3 a i = F2 a i := fun a i ha => fMg_old ha
  generalize kMg K2 K3 K3 = K4 at hW n1
  generalize fMg F2 F3 K3 = F4 at hW hF3m hF3x
  have hth4 : F4 m9 0 = .int (nI th) := (hF3m m9 _ 0 hk.1).trans hth
  have km4 : K4 m9 = some (7, 0) := n1 _ _ (m2' _ _ hk.1)
  have ko4 : K4 o = some (9, 1) := n1 _ _ m4
  have hx4 : ∀ a q, Kx' a = some q → K4 a = some q := fun a q ha => n1 a q (m1 a q ha)
  have hm4 : ∀ a q, K3 a = some q → K4 a = some q := fun a q ha => n1 a q (m2' a q ha)
  have hfx : ∀ a q i, Kx' a = some q → F4 a i = F1 a i := fun a q i ha => (hF3x a i (m3 a q ha)).trans (hF2x a q i ha)
  have hfo : F4 o 0 = F1 o 0 := (hF3x o 0 hmo).trans hF2o
  rcases hcase with ⟨hk0, r, F5, ⟨q, hq, hrq⟩, hfr, hFo⟩ | ⟨hk0, hpx1, hKK, hfr⟩ | ⟨hk0, hpx2, hKK, hfr⟩
  all_goals show W _ _ _ _ _ _ _ _ _ _ _ _ _ _ _ (F0 m 195 ls [.int r2])
  · subst hk0
    obtain ⟨j, q1, q2, hj, e1, hpl, hn, hlen, hq1, hNT9, hv⟩ := hq
    cases hv
    have hkR : thR 0 (okId a1 = true ∧ okPl d a2 a3 a4 a5 = true) ((∃ i, i < 100 ∧ a1 = nI i ∧ ndP nd dt i = none) ∧ lcP (ndP nd dt) < 60) := Or.inr (Or.inr ⟨rfl, ⟨by rw [e1]; exact okId_i hj, hpl⟩, ⟨⟨j, hj, e1, ndP_none.mpr hn⟩, by rw [hlc]; exact hlen⟩⟩)
    have hzero := hzero (thR_uniq htR hkR)
    obtain ⟨hr2, hRS4⟩ := hzero j hj e1
    have hRS4 := RS_P (put_ndP hp9 hq1) hRS4
    rw [put_map hq1] at hRS4
    have hnew : LVx K4 F4 o x m9 := ⟨_, _, lb, T, row, h9, ai, ad, J, pts, lens, B, d, _, _, _, _, _, S, lim, lk, _, bg, _, hx4, hm4, m3, ko4, hKxo, hmo, NT_world hNT9 (fun a q i ha => (hfx a q i ha).trans (hfr a q i ha)), hk, RS_off hk hRS4 hF3m⟩
    have hth0 : th = 0 := thR_uniq htR hkR
    refine lv_istore (lv' := [(6, .int r2), (5, .int (nI 0)), (4, .int (nI i)), (0, .ref b), (1, .ref x), (2, .ref m9), (3, .ref o)]) hx hb dL_law_195 hl (by decide) rfl (fun ls hl => ?_)
    refine lv_aload_n hx hb dL_law_197 rfl (lv_at hl 5 rfl) ?_
    refine g_cV (v := (some (.int (nI th)))) (As := []) (b := m9) (rest := []) hx hb hml hown hts hN hW.1 (m_thrown l Γ K4 F4 m9 (nI th) km4 hth4) gL_law_X7_thrown rfl km4 (by decide) rfl (na := 0) rfl (by decide +kernel) ⟨by show _ ≤ 2048; decide, by show _ ≤ 84000; decide⟩ ⟨by show _ ≤ 601024; omega, by show _ ≤ 7293000; omega⟩ rfl hl.1 (Nat.le_of_ble_eq_true rfl) dL_law_198 ?_
    show W _ _ _ _ _ _ _ _ _ _ _ _ _ _ _ (F0 m 201 ls [.int (nI th)])
    refine lv_iload hx hb dL_law_201 (lv_at hl 1 rfl) ?_
    refine lv_icmp_eq (tgt := 208) hx hb dL_law_203 (by decide) (fun z1 => ?_) (fun z1 => ?_)
    · refine lv_iload hx hb dL_law_208 (lv_at hl 1 rfl) ?_
      refine lv_if_ne (tgt := 225) hx hb dL_law_210 (by decide) (fun z2 => ?_) (fun z2 => ?_)
      · have z2 : ¬ 0 = 0 := fun z => z2 ((nI_eq0 (by omega)).mpr z)
        exact absurd rfl z2
      · have z2 : 0 = 0 := (nI_eq0 (by omega)).mp z2
        refine lv_aload_n hx hb dL_law_213 rfl (lv_at hl 6 rfl) ?_
        refine lv_iconst (v := nI 0) hx hb dL_law_214 (by decide) ?_
        refine g_lald (j := 0) hx hb hN hW.1 ko4 (by decide) (show _ = nI 0 from rfl) (by decide) (v := .long r) (hfo.trans hFo) dL_law_215 ?_
        refine lv_iload hx hb dL_law_216 (lv_at hl 0 rfl) ?_
        refine lv_i2l (v := r2.toInt64) hx hb dL_law_218 rfl ?_
        refine W.lcmp hx hb dL_law_219 ?_
        refine lv_if_eq (tgt := 225) hx hb dL_law_220 (by decide) (fun z3 => ?_) (fun z3 => ?_)
        · have z3 : _ := (lg_cmp_eq _ _).mp z3
          refine lv_goto (tgt := 1173) hx hb dL_law_225 (by decide) ?_
          refine W.widen (k := cl + 2) (n := sl + 13) (by omega) (by omega) ?_
          exact kk K4 F4 H locs ls hnew hW (lv_sub hl [2, 3, 4, 5, 6] rfl)
        · have z3 : ¬ _ := fun z => z3 ((lg_cmp_eq _ _).mpr z)
          exact absurd (by rw [hrq, hr2, hlc]) z3
    · exact absurd (by rw [hth0]) z1
  · subst hk0
    subst hKK
    have hpx1 := hpx1.elim (fun z => z.2) (fun z => absurd z.1 (by decide))
    have hkR : thR 1 (okId a1 = true ∧ okPl d a2 a3 a4 a5 = true) ((∃ i, i < 100 ∧ a1 = nI i ∧ ndP nd dt i = none) ∧ lcP (ndP nd dt) < 60) := Or.inl ⟨rfl, hpx1⟩
    have hth0b : th = 1 := thR_uniq htR hkR
    have hnew : LVx K4 F4 o x m9 := ⟨_, _, lb, T, row, h9, ai, ad, J, pts, lens, B, d, tc, nd, dt, pl, dd, S, lim, lk, bc, bg, bp, hx4, hm4, m3, ko4, hKxo, hmo, NT_world hNT (fun a q i ha => (hfx a q i ha).trans (hfr a q i ha)), hk, RS_off hk (hsame (by rw [hth0b]; decide)) hF3m⟩
    have hth0 : th = 1 := thR_uniq htR hkR
    refine lv_istore (lv' := [(6, .int r2), (5, .int (nI 1)), (4, .int (nI i)), (0, .ref b), (1, .ref x), (2, .ref m9), (3, .ref o)]) hx hb dL_law_195 hl (by decide) rfl (fun ls hl => ?_)
    refine lv_aload_n hx hb dL_law_197 rfl (lv_at hl 5 rfl) ?_
    refine g_cV (v := (some (.int (nI th)))) (As := []) (b := m9) (rest := []) hx hb hml hown hts hN hW.1 (m_thrown l Γ K4 F4 m9 (nI th) km4 hth4) gL_law_X7_thrown rfl km4 (by decide) rfl (na := 0) rfl (by decide +kernel) ⟨by show _ ≤ 2048; decide, by show _ ≤ 84000; decide⟩ ⟨by show _ ≤ 601024; omega, by show _ ≤ 7293000; omega⟩ rfl hl.1 (Nat.le_of_ble_eq_true rfl) dL_law_198 ?_
    show W _ _ _ _ _ _ _ _ _ _ _ _ _ _ _ (F0 m 201 ls [.int (nI th)])
    refine lv_iload hx hb dL_law_201 (lv_at hl 1 rfl) ?_
    refine lv_icmp_eq (tgt := 208) hx hb dL_law_203 (by decide) (fun z1 => ?_) (fun z1 => ?_)
    · refine lv_iload hx hb dL_law_208 (lv_at hl 1 rfl) ?_
      refine lv_if_ne (tgt := 225) hx hb dL_law_210 (by decide) (fun z2 => ?_) (fun z2 => ?_)
      · have z2 : ¬ 1 = 0 := fun z => z2 ((nI_eq0 (by omega)).mpr z)
        refine lv_goto (tgt := 1173) hx hb dL_law_225 (by decide) ?_
        refine W.widen (k := cl + 2) (n := sl + 13) (by omega) (by omega) ?_
        exact kk K4 F4 H locs ls hnew hW (lv_sub hl [2, 3, 4, 5, 6] rfl)
      · have z2 : 1 = 0 := (nI_eq0 (by omega)).mp z2
        exact absurd z2 (by decide)
    · exact absurd (by rw [hth0]) z1
  · subst hk0
    subst hKK
    have hpx2 := hpx2.elim (fun z => absurd z.1 (by decide)) (fun z => z.2)
    have hkR : thR 2 (okId a1 = true ∧ okPl d a2 a3 a4 a5 = true) ((∃ i, i < 100 ∧ a1 = nI i ∧ ndP nd dt i = none) ∧ lcP (ndP nd dt) < 60) := Or.inr (Or.inl ⟨rfl, ⟨hpx2.1, fun ⟨⟨j, hj, e, hn⟩, hl2⟩ => hpx2.2.elim (fun ⟨i2, a, hi2, e2, hn2⟩ => by rw [← nI_inj (by omega) (by omega) (e.symm.trans e2), ndP_none.mp hn] at hn2; cases hn2) (fun z => by rw [hlc] at hl2; omega)⟩⟩)
    have hth0b : th = 2 := thR_uniq htR hkR
    have hnew : LVx K4 F4 o x m9 := ⟨_, _, lb, T, row, h9, ai, ad, J, pts, lens, B, d, tc, nd, dt, pl, dd, S, lim, lk, bc, bg, bp, hx4, hm4, m3, ko4, hKxo, hmo, NT_world hNT (fun a q i ha => (hfx a q i ha).trans (hfr a q i ha)), hk, RS_off hk (hsame (by rw [hth0b]; decide)) hF3m⟩
    have hth0 : th = 2 := thR_uniq htR hkR
    refine lv_istore (lv' := [(6, .int r2), (5, .int (nI 2)), (4, .int (nI i)), (0, .ref b), (1, .ref x), (2, .ref m9), (3, .ref o)]) hx hb dL_law_195 hl (by decide) rfl (fun ls hl => ?_)
    refine lv_aload_n hx hb dL_law_197 rfl (lv_at hl 5 rfl) ?_
    refine g_cV (v := (some (.int (nI th)))) (As := []) (b := m9) (rest := []) hx hb hml hown hts hN hW.1 (m_thrown l Γ K4 F4 m9 (nI th) km4 hth4) gL_law_X7_thrown rfl km4 (by decide) rfl (na := 0) rfl (by decide +kernel) ⟨by show _ ≤ 2048; decide, by show _ ≤ 84000; decide⟩ ⟨by show _ ≤ 601024; omega, by show _ ≤ 7293000; omega⟩ rfl hl.1 (Nat.le_of_ble_eq_true rfl) dL_law_198 ?_
    show W _ _ _ _ _ _ _ _ _ _ _ _ _ _ _ (F0 m 201 ls [.int (nI th)])
    refine lv_iload hx hb dL_law_201 (lv_at hl 1 rfl) ?_
    refine lv_icmp_eq (tgt := 208) hx hb dL_law_203 (by decide) (fun z1 => ?_) (fun z1 => ?_)
    · refine lv_iload hx hb dL_law_208 (lv_at hl 1 rfl) ?_
      refine lv_if_ne (tgt := 225) hx hb dL_law_210 (by decide) (fun z2 => ?_) (fun z2 => ?_)
      · have z2 : ¬ 2 = 0 := fun z => z2 ((nI_eq0 (by omega)).mpr z)
        refine lv_goto (tgt := 1173) hx hb dL_law_225 (by decide) ?_
        refine W.widen (k := cl + 2) (n := sl + 13) (by omega) (by omega) ?_
        exact kk K4 F4 H locs ls hnew hW (lv_sub hl [2, 3, 4, 5, 6] rfl)
      · have z2 : 2 = 0 := (nI_eq0 (by omega)).mp z2
        exact absurd z2 (by decide)
    · exact absurd (by rw [hth0]) z1

set_option maxHeartbeats 4000000 in
set_option maxRecDepth 100000 in
theorem s_drop {p : Program} {l : Launch} {e : Env} {s : State} {m : MethodId} {below : List Frame} {meth : Method} {c : Code} {b L : Nat} {xs : Nat → Int32} {Γ : gG} (hC : LCt p l s m meth c b L xs Γ) (hL : L ≤ 3585) (i : Nat) (hi : i + 7 ≤ L) (o x m9 cl sl : Nat) (hcl : cl + 2 ≤ 601024) (hsl : sl + 13 ≤ 7293000)
    (kk : ∀ (K : gK) (F : gF) (H : Heap) (locs : List Loc) (ls : Array Slot), LVx K F o x m9 → gW Γ (fun q : Nat => s.heap.size ≤ q) s.heap K F H locs → lv_has ls 8 [(4, .int (nI i)), (0, .ref b), (1, .ref x), (2, .ref m9), (3, .ref o)] → W p l e room_1 s m #[Value.ref b] below meth c H locs (cl + 2) (sl + 13) (lw_Z below #[Value.ref b] s) (F0 m 1173 ls [])) :
    ∀ (K : gK) (F : gF) (H : Heap) (locs : List Loc) (ls : Array Slot), LVx K F o x m9 → gW Γ (fun q : Nat => s.heap.size ≤ q) s.heap K F H locs → lv_has ls 8 [(4, .int (nI i)), (0, .ref b), (1, .ref x), (2, .ref m9), (3, .ref o)] → W p l e room_1 s m #[Value.ref b] below meth c H locs (cl) (sl) (lw_Z below #[Value.ref b] s) (F0 m 228 ls []) := by
  intro K F H locs ls hLV hW hl
  obtain ⟨⟨hx, hb, hr, hml, hown, hts0, hX, hbl, hlocks, hgv⟩, hN, hT0, hNc, hfl⟩ := hC
  have hbA : ¬ (fun q : Nat => s.heap.size ≤ q) b := Nat.not_le.mpr hbl
  have hown : s.vm.findClass RL = some m.cls := hown
  have hts : ∀ w ∈ wsL_law, w.before #[Value.ref b] s = true := fun w h => hts0 w (wsL_law_in w h)
  obtain ⟨Kx, Km, lb, T, row, h9, ai, ad, J, pts, lens, B, d, tc, nd, dt, pl, dd, S, lim, lk, bc, bg, bp, hKx, hKm, hdis, hKo, hxo, hmo, hNT, hk, hRS⟩ := hLV
  have hp9 := hNT.2.2.2.2.2.2.2.2
  have hAS := AS_NT hNT.2.2.2.2.2.2.2.1 hp9
  have hoP := okP_NT hp9
  have hlc := lcP_nd nd dt
  have h60 : lcP (ndP nd dt) ≤ 60 := by rw [hlc]; exact hp9.2.2.2.2.2.1
  have hd0 := hNT.2.1.1
  have hd4 := hNT.2.1.2
  have hS100 : S.length ≤ 100 := Nat.le_trans hNT.2.2.2.2.2.2.1.2.2.2.2.2.2.2.2.2.1 hNT.2.2.2.2.2.2.1.2.2.2.2.2.2.2.2.2.2.1
  have hid : ∀ i a, i < 100 → nd i = some a → (dt a).1 = i := fun i a hi ha => (hp9.2.1 i a hi ha).2.1
  have hlt : ∀ a q, K a = some q → a < H.size := fun a q ha => (hW.1 a q ha).lt
  have kx : Kx x = some (6, 0) := hNT.1.1
  have hTHk : ∀ K1 : gK, (∀ a q, K1 a = some q → K a = some q) → gTH (gA K1 H.size) s H := fun K1 h1 => gTH.narrow (A := fun q : Nat => s.heap.size ≤ q) (fun q hq => by
    rcases hq with ⟨k, hk⟩ | hq
    · exact hW.2.2.1 q k (h1 q k hk)
    · exact Nat.le_trans hW.2.1.1 hq) (gTH.kept (fun a ha hA => hW.2.1.2.1 a ha hA) hT0)
  obtain ⟨a1, ha1⟩ : ∃ a, a = xs (nI (i + 1)).toNatClampNeg := ⟨_, rfl⟩
  refine lv_aload_n hx hb dL_law_228 rfl (lv_at hl 2 rfl) ?_
  refine lv_aload_n hx hb dL_law_229 rfl (lv_at hl 1 rfl) ?_
  refine lv_iload hx hb dL_law_230 (lv_at hl 0 rfl) ?_
  refine lv_iconst (v := nI 1) hx hb dL_law_232 (by decide) ?_
  refine lv_iadd hx hb dL_law_233 ?_
  refine g_asi (show _ = nI (i + 1) from (nI_add _ _).trans (by rfl)) ?_
  refine va_sld hx hb hX hbl hbA hW.2.1 (vp_in_nI (show i + 1 < L by omega) (by omega)) dL_law_234 ?_
  refine g_asi (show _ = a1 from ha1.symm) ?_
  refine lv_aload_n hx hb dL_law_235 rfl (lv_at hl 4 rfl) ?_
  refine g_lS (K1 := va_up Kx o (some (9, 1))) (As := [.ref x, .int a1, .ref o]) (rest := []) hx hb hml hown hts hN hW (fun a q ha => by
    by_cases e : a = o
    · rw [e] at ha ⊢; rw [va_up_self] at ha; rw [← ha]; exact hKo
    · rw [va_up_ne _ _ e] at ha; exact hKx a q ha) (hTHk _ (fun a q ha => by
    by_cases e : a = o
    · rw [e] at ha ⊢; rw [va_up_self] at ha; rw [← ha]; exact hKo
    · rw [va_up_ne _ _ e] at ha; exact hKx a q ha)) hNc (L_drop l Γ Kx F H.size x o kx hxo a1 (c_drop l hfl Γ Kx F H.size x lb T row h9 ai ad J pts lens d tc nd dt pl dd S lim lk bc bg bp hNT a1) (fun v K' F' h => by obtain ⟨_, _, _, _, _, _, hv⟩ := h; exact ⟨_, hv⟩) (fun E hE => hE.imp (fun z => z.1) (fun z => z.1))) gL_law_L_drop rfl (na := 3) rfl (by decide +kernel) ⟨by show _ ≤ 2048; decide, by show _ ≤ 84000; decide⟩ ⟨by show _ ≤ 601024; omega, by show _ ≤ 7293000; omega⟩ rfl hl.1 (Nat.le_of_ble_eq_true rfl) dL_law_236 (fun v K1 F1 H locs hp hA1 hW hsz1 => ?_)
  obtain ⟨k, Kx', hv, hK1, hKxo, hcase⟩ := hp
  subst hv
  subst hK1
  obtain ⟨m1, m2, m3, m4⟩ := mid_x hKx hKm hdis hKo hxo hmo hlt hA1 hKxo
  have hF2m : ∀ a q i, Km a = some q → fMg F F1 (va_up Kx' o (some (9, 1))) a i = F a i := fun a q i ha => fMg_old (m2 a q ha).2
  have hF2x : ∀ a q i, Kx' a = some q → fMg F F1 (va_up Kx' o (some (9, 1))) a i = F1 a i := fun a q i ha => fMg_new (show va_up Kx' o (some (9, 1)) a = some q by rw [va_up_ne _ _ (fun e => by rw [e, hKxo] at ha; cases ha)]; exact ha)
  have hF2o : fMg F F1 (va_up Kx' o (some (9, 1))) o 0 = F1 o 0 := fMg_new (va_up_self _ _ _)
  have m2' : ∀ a q, Km a = some q → kMg K (va_up Kx o (some (9, 1))) (va_up Kx' o (some (9, 1))) a = some q := fun a q ha => (m2 a q ha).1
  generalize kMg K (va_up Kx o (some (9, 1))) (va_up Kx' o (some (9, 1))) = K2 at hW m1 m2' m4
  generalize fMg F F1 (va_up Kx' o (some (9, 1))) = F2 at hW hF2m hF2x hF2o
  have hRS2 := RS_off hk hRS hF2m
  show W _ _ _ _ _ _ _ _ _ _ _ _ _ _ _ (F0 m 239 ls [.int (nI k)])
  refine lv_istore (lv' := [(5, .int (nI k)), (4, .int (nI i)), (0, .ref b), (1, .ref x), (2, .ref m9), (3, .ref o)]) hx hb dL_law_239 hl (by decide) rfl (fun ls hl => ?_)
  refine lv_aload_n hx hb dL_law_241 rfl (lv_at hl 4 rfl) ?_
  refine lv_aload_n hx hb dL_law_242 rfl (lv_at hl 2 rfl) ?_
  refine lv_iload hx hb dL_law_243 (lv_at hl 1 rfl) ?_
  refine lv_iconst (v := nI 1) hx hb dL_law_245 (by decide) ?_
  refine lv_iadd hx hb dL_law_246 ?_
  refine g_asi (show _ = nI (i + 1) from (nI_add _ _).trans (by rfl)) ?_
  refine va_sld hx hb hX hbl hbA hW.2.1 (vp_in_nI (show i + 1 < L by omega) (by omega)) dL_law_247 ?_
  refine g_asi (show _ = a1 from ha1.symm) ?_
  refine g_mVF (K1 := Km) (As := [.int a1]) (b := m9) (rest := []) hx hb hml hown hts hN hW m2' (m_drop l Γ Km F2 H.size m9 B hk d (ndP nd dt) (tMap (fL dt dd) tc) S lk bc bg bp hRS2 hd0 hd4 hAS a1) gL_law_X7_drop rfl hk.1 (by decide) rfl (na := 1) rfl (by decide +kernel) ⟨by show _ ≤ 2048; decide, by show _ ≤ 84000; decide⟩ ⟨by show _ ≤ 601024; omega, by show _ ≤ 7293000; omega⟩ rfl hl.1 (Nat.le_of_ble_eq_true rfl) dL_law_248 (fun v K3 F3 H locs hp hA3 hW hsz2 => ?_)
  obtain ⟨th, r2, hv, hK3, hth, htR, hsame, hzero⟩ := hp
  subst hv
  subst hK3
  have n1 := mid_m m2'
  have hF3m : ∀ a q i, K3 a = some q → fMg F2 F3 K3 a i = F3 a i := fun a q i ha => fMg_new ha
  have hF3x : ∀ a i, K3 a = none → fMg F2 F3 K3 a i = F2 a i := fun a i ha => fMg_old ha
  generalize kMg K2 K3 K3 = K4 at hW n1
  generalize fMg F2 F3 K3 = F4 at hW hF3m hF3x
  have hth4 : F4 m9 0 = .int (nI th) := (hF3m m9 _ 0 hk.1).trans hth
  have km4 : K4 m9 = some (7, 0) := n1 _ _ (m2' _ _ hk.1)
  have ko4 : K4 o = some (9, 1) := n1 _ _ m4
  have hx4 : ∀ a q, Kx' a = some q → K4 a = some q := fun a q ha => n1 a q (m1 a q ha)
  have hm4 : ∀ a q, K3 a = some q → K4 a = some q := fun a q ha => n1 a q (m2' a q ha)
  have hfx : ∀ a q i, Kx' a = some q → F4 a i = F1 a i := fun a q i ha => (hF3x a i (m3 a q ha)).trans (hF2x a q i ha)
  have hfo : F4 o 0 = F1 o 0 := (hF3x o 0 hmo).trans hF2o
  rcases hcase with ⟨hk0, r, F5, ⟨q, hq, hrq⟩, hfr, hFo⟩ | ⟨hk0, hpx1, hKK, hfr⟩ | ⟨hk0, hpx2, hKK, hfr⟩
  all_goals show W _ _ _ _ _ _ _ _ _ _ _ _ _ _ _ (F0 m 251 ls [.int r2])
  · subst hk0
    obtain ⟨j, n, hj, e1, hn, hNT9, hv⟩ := hq
    cases hv
    have hkR : thR 0 (okId a1 = true) (∃ i p, i < 100 ∧ a1 = nI i ∧ ndP nd dt i = some p) := Or.inr (Or.inr ⟨rfl, (by rw [e1]; exact okId_i hj), ⟨j, (dt n).2, hj, e1, ndP_some hn⟩⟩)
    have hzero := hzero (thR_uniq htR hkR)
    obtain ⟨hr2, hRS4⟩ := hzero j hj e1
    rw [drop_ndP, lcP_nd] at hr2 hRS4
    rw [drop_map hp9 hj hn] at hRS4
    have hnew : LVx K4 F4 o x m9 := ⟨_, _, lb, T, row, h9, ai, ad, J, pts, lens, B, d, _, _, _, _, _, S, lim, lk, bc, _, _, hx4, hm4, m3, ko4, hKxo, hmo, NT_world hNT9 (fun a q i ha => (hfx a q i ha).trans (hfr a q i ha)), hk, RS_off hk hRS4 hF3m⟩
    have hth0 : th = 0 := thR_uniq htR hkR
    refine lv_istore (lv' := [(6, .int r2), (5, .int (nI 0)), (4, .int (nI i)), (0, .ref b), (1, .ref x), (2, .ref m9), (3, .ref o)]) hx hb dL_law_251 hl (by decide) rfl (fun ls hl => ?_)
    refine lv_aload_n hx hb dL_law_253 rfl (lv_at hl 5 rfl) ?_
    refine g_cV (v := (some (.int (nI th)))) (As := []) (b := m9) (rest := []) hx hb hml hown hts hN hW.1 (m_thrown l Γ K4 F4 m9 (nI th) km4 hth4) gL_law_X7_thrown rfl km4 (by decide) rfl (na := 0) rfl (by decide +kernel) ⟨by show _ ≤ 2048; decide, by show _ ≤ 84000; decide⟩ ⟨by show _ ≤ 601024; omega, by show _ ≤ 7293000; omega⟩ rfl hl.1 (Nat.le_of_ble_eq_true rfl) dL_law_254 ?_
    show W _ _ _ _ _ _ _ _ _ _ _ _ _ _ _ (F0 m 257 ls [.int (nI th)])
    refine lv_iload hx hb dL_law_257 (lv_at hl 1 rfl) ?_
    refine lv_icmp_eq (tgt := 264) hx hb dL_law_259 (by decide) (fun z1 => ?_) (fun z1 => ?_)
    · refine lv_iload hx hb dL_law_264 (lv_at hl 1 rfl) ?_
      refine lv_if_ne (tgt := 281) hx hb dL_law_266 (by decide) (fun z2 => ?_) (fun z2 => ?_)
      · have z2 : ¬ 0 = 0 := fun z => z2 ((nI_eq0 (by omega)).mpr z)
        exact absurd rfl z2
      · have z2 : 0 = 0 := (nI_eq0 (by omega)).mp z2
        refine lv_aload_n hx hb dL_law_269 rfl (lv_at hl 6 rfl) ?_
        refine lv_iconst (v := nI 0) hx hb dL_law_270 (by decide) ?_
        refine g_lald (j := 0) hx hb hN hW.1 ko4 (by decide) (show _ = nI 0 from rfl) (by decide) (v := .long r) (hfo.trans hFo) dL_law_271 ?_
        refine lv_iload hx hb dL_law_272 (lv_at hl 0 rfl) ?_
        refine lv_i2l (v := r2.toInt64) hx hb dL_law_274 rfl ?_
        refine W.lcmp hx hb dL_law_275 ?_
        refine lv_if_eq (tgt := 281) hx hb dL_law_276 (by decide) (fun z3 => ?_) (fun z3 => ?_)
        · have z3 : _ := (lg_cmp_eq _ _).mp z3
          refine lv_goto (tgt := 1173) hx hb dL_law_281 (by decide) ?_
          refine W.widen (k := cl + 2) (n := sl + 13) (by omega) (by omega) ?_
          exact kk K4 F4 H locs ls hnew hW (lv_sub hl [2, 3, 4, 5, 6] rfl)
        · have z3 : ¬ _ := fun z => z3 ((lg_cmp_eq _ _).mpr z)
          exact absurd (by rw [hrq, hr2]) z3
    · exact absurd (by rw [hth0]) z1
  · subst hk0
    subst hKK
    have hpx1 := hpx1.elim (fun z => z.2) (fun z => absurd z.1 (by decide))
    have hkR : thR 1 (okId a1 = true) (∃ i p, i < 100 ∧ a1 = nI i ∧ ndP nd dt i = some p) := Or.inl ⟨rfl, hpx1⟩
    have hth0b : th = 1 := thR_uniq htR hkR
    have hnew : LVx K4 F4 o x m9 := ⟨_, _, lb, T, row, h9, ai, ad, J, pts, lens, B, d, tc, nd, dt, pl, dd, S, lim, lk, bc, bg, bp, hx4, hm4, m3, ko4, hKxo, hmo, NT_world hNT (fun a q i ha => (hfx a q i ha).trans (hfr a q i ha)), hk, RS_off hk (hsame (by rw [hth0b]; decide)) hF3m⟩
    have hth0 : th = 1 := thR_uniq htR hkR
    refine lv_istore (lv' := [(6, .int r2), (5, .int (nI 1)), (4, .int (nI i)), (0, .ref b), (1, .ref x), (2, .ref m9), (3, .ref o)]) hx hb dL_law_251 hl (by decide) rfl (fun ls hl => ?_)
    refine lv_aload_n hx hb dL_law_253 rfl (lv_at hl 5 rfl) ?_
    refine g_cV (v := (some (.int (nI th)))) (As := []) (b := m9) (rest := []) hx hb hml hown hts hN hW.1 (m_thrown l Γ K4 F4 m9 (nI th) km4 hth4) gL_law_X7_thrown rfl km4 (by decide) rfl (na := 0) rfl (by decide +kernel) ⟨by show _ ≤ 2048; decide, by show _ ≤ 84000; decide⟩ ⟨by show _ ≤ 601024; omega, by show _ ≤ 7293000; omega⟩ rfl hl.1 (Nat.le_of_ble_eq_true rfl) dL_law_254 ?_
    show W _ _ _ _ _ _ _ _ _ _ _ _ _ _ _ (F0 m 257 ls [.int (nI th)])
    refine lv_iload hx hb dL_law_257 (lv_at hl 1 rfl) ?_
    refine lv_icmp_eq (tgt := 264) hx hb dL_law_259 (by decide) (fun z1 => ?_) (fun z1 => ?_)
    · refine lv_iload hx hb dL_law_264 (lv_at hl 1 rfl) ?_
      refine lv_if_ne (tgt := 281) hx hb dL_law_266 (by decide) (fun z2 => ?_) (fun z2 => ?_)
      · have z2 : ¬ 1 = 0 := fun z => z2 ((nI_eq0 (by omega)).mpr z)
        refine lv_goto (tgt := 1173) hx hb dL_law_281 (by decide) ?_
        refine W.widen (k := cl + 2) (n := sl + 13) (by omega) (by omega) ?_
        exact kk K4 F4 H locs ls hnew hW (lv_sub hl [2, 3, 4, 5, 6] rfl)
      · have z2 : 1 = 0 := (nI_eq0 (by omega)).mp z2
        exact absurd z2 (by decide)
    · exact absurd (by rw [hth0]) z1
  · subst hk0
    subst hKK
    have hpx2 := hpx2.elim (fun z => absurd z.1 (by decide)) (fun z => z.2)
    have hkR : thR 2 (okId a1 = true) (∃ i p, i < 100 ∧ a1 = nI i ∧ ndP nd dt i = some p) := Or.inr (Or.inl ⟨rfl, ⟨hpx2.1, fun ⟨j, p2, hj, e, hp2⟩ => by rw [ndP_none.mpr (hpx2.2 j e hj)] at hp2; cases hp2⟩⟩)
    have hth0b : th = 2 := thR_uniq htR hkR
    have hnew : LVx K4 F4 o x m9 := ⟨_, _, lb, T, row, h9, ai, ad, J, pts, lens, B, d, tc, nd, dt, pl, dd, S, lim, lk, bc, bg, bp, hx4, hm4, m3, ko4, hKxo, hmo, NT_world hNT (fun a q i ha => (hfx a q i ha).trans (hfr a q i ha)), hk, RS_off hk (hsame (by rw [hth0b]; decide)) hF3m⟩
    have hth0 : th = 2 := thR_uniq htR hkR
    refine lv_istore (lv' := [(6, .int r2), (5, .int (nI 2)), (4, .int (nI i)), (0, .ref b), (1, .ref x), (2, .ref m9), (3, .ref o)]) hx hb dL_law_251 hl (by decide) rfl (fun ls hl => ?_)
    refine lv_aload_n hx hb dL_law_253 rfl (lv_at hl 5 rfl) ?_
    refine g_cV (v := (some (.int (nI th)))) (As := []) (b := m9) (rest := []) hx hb hml hown hts hN hW.1 (m_thrown l Γ K4 F4 m9 (nI th) km4 hth4) gL_law_X7_thrown rfl km4 (by decide) rfl (na := 0) rfl (by decide +kernel) ⟨by show _ ≤ 2048; decide, by show _ ≤ 84000; decide⟩ ⟨by show _ ≤ 601024; omega, by show _ ≤ 7293000; omega⟩ rfl hl.1 (Nat.le_of_ble_eq_true rfl) dL_law_254 ?_
    show W _ _ _ _ _ _ _ _ _ _ _ _ _ _ _ (F0 m 257 ls [.int (nI th)])
    refine lv_iload hx hb dL_law_257 (lv_at hl 1 rfl) ?_
    refine lv_icmp_eq (tgt := 264) hx hb dL_law_259 (by decide) (fun z1 => ?_) (fun z1 => ?_)
    · refine lv_iload hx hb dL_law_264 (lv_at hl 1 rfl) ?_
      refine lv_if_ne (tgt := 281) hx hb dL_law_266 (by decide) (fun z2 => ?_) (fun z2 => ?_)
      · have z2 : ¬ 2 = 0 := fun z => z2 ((nI_eq0 (by omega)).mpr z)
        refine lv_goto (tgt := 1173) hx hb dL_law_281 (by decide) ?_
        refine W.widen (k := cl + 2) (n := sl + 13) (by omega) (by omega) ?_
        exact kk K4 F4 H locs ls hnew hW (lv_sub hl [2, 3, 4, 5, 6] rfl)
      · have z2 : 2 = 0 := (nI_eq0 (by omega)).mp z2
        exact absurd z2 (by decide)
    · exact absurd (by rw [hth0]) z1

set_option maxHeartbeats 4000000 in
set_option maxRecDepth 100000 in
theorem s_at {p : Program} {l : Launch} {e : Env} {s : State} {m : MethodId} {below : List Frame} {meth : Method} {c : Code} {b L : Nat} {xs : Nat → Int32} {Γ : gG} (hC : LCt p l s m meth c b L xs Γ) (hL : L ≤ 3585) (i : Nat) (hi : i + 7 ≤ L) (o x m9 cl sl : Nat) (hcl : cl + 2 ≤ 601024) (hsl : sl + 13 ≤ 7293000)
    (kk : ∀ (K : gK) (F : gF) (H : Heap) (locs : List Loc) (ls : Array Slot), LVx K F o x m9 → gW Γ (fun q : Nat => s.heap.size ≤ q) s.heap K F H locs → lv_has ls 8 [(4, .int (nI i)), (0, .ref b), (1, .ref x), (2, .ref m9), (3, .ref o)] → W p l e room_1 s m #[Value.ref b] below meth c H locs (cl + 2) (sl + 13) (lw_Z below #[Value.ref b] s) (F0 m 1173 ls [])) :
    ∀ (K : gK) (F : gF) (H : Heap) (locs : List Loc) (ls : Array Slot), LVx K F o x m9 → gW Γ (fun q : Nat => s.heap.size ≤ q) s.heap K F H locs → lv_has ls 8 [(4, .int (nI i)), (0, .ref b), (1, .ref x), (2, .ref m9), (3, .ref o)] → W p l e room_1 s m #[Value.ref b] below meth c H locs (cl) (sl) (lw_Z below #[Value.ref b] s) (F0 m 284 ls []) := by
  intro K F H locs ls hLV hW hl
  obtain ⟨⟨hx, hb, hr, hml, hown, hts0, hX, hbl, hlocks, hgv⟩, hN, hT0, hNc, hfl⟩ := hC
  have hbA : ¬ (fun q : Nat => s.heap.size ≤ q) b := Nat.not_le.mpr hbl
  have hown : s.vm.findClass RL = some m.cls := hown
  have hts : ∀ w ∈ wsL_law, w.before #[Value.ref b] s = true := fun w h => hts0 w (wsL_law_in w h)
  obtain ⟨Kx, Km, lb, T, row, h9, ai, ad, J, pts, lens, B, d, tc, nd, dt, pl, dd, S, lim, lk, bc, bg, bp, hKx, hKm, hdis, hKo, hxo, hmo, hNT, hk, hRS⟩ := hLV
  have hp9 := hNT.2.2.2.2.2.2.2.2
  have hAS := AS_NT hNT.2.2.2.2.2.2.2.1 hp9
  have hoP := okP_NT hp9
  have hlc := lcP_nd nd dt
  have h60 : lcP (ndP nd dt) ≤ 60 := by rw [hlc]; exact hp9.2.2.2.2.2.1
  have hd0 := hNT.2.1.1
  have hd4 := hNT.2.1.2
  have hS100 : S.length ≤ 100 := Nat.le_trans hNT.2.2.2.2.2.2.1.2.2.2.2.2.2.2.2.2.1 hNT.2.2.2.2.2.2.1.2.2.2.2.2.2.2.2.2.2.1
  have hid : ∀ i a, i < 100 → nd i = some a → (dt a).1 = i := fun i a hi ha => (hp9.2.1 i a hi ha).2.1
  have hlt : ∀ a q, K a = some q → a < H.size := fun a q ha => (hW.1 a q ha).lt
  have kx : Kx x = some (6, 0) := hNT.1.1
  have hTHk : ∀ K1 : gK, (∀ a q, K1 a = some q → K a = some q) → gTH (gA K1 H.size) s H := fun K1 h1 => gTH.narrow (A := fun q : Nat => s.heap.size ≤ q) (fun q hq => by
    rcases hq with ⟨k, hk⟩ | hq
    · exact hW.2.2.1 q k (h1 q k hk)
    · exact Nat.le_trans hW.2.1.1 hq) (gTH.kept (fun a ha hA => hW.2.1.2.1 a ha hA) hT0)
  obtain ⟨a1, ha1⟩ : ∃ a, a = xs (nI (i + 1)).toNatClampNeg := ⟨_, rfl⟩
  obtain ⟨a2, ha2⟩ : ∃ a, a = xs (nI (i + 2)).toNatClampNeg := ⟨_, rfl⟩
  refine lv_aload_n hx hb dL_law_284 rfl (lv_at hl 2 rfl) ?_
  refine lv_aload_n hx hb dL_law_285 rfl (lv_at hl 1 rfl) ?_
  refine lv_iload hx hb dL_law_286 (lv_at hl 0 rfl) ?_
  refine lv_iconst (v := nI 1) hx hb dL_law_288 (by decide) ?_
  refine lv_iadd hx hb dL_law_289 ?_
  refine g_asi (show _ = nI (i + 1) from (nI_add _ _).trans (by rfl)) ?_
  refine va_sld hx hb hX hbl hbA hW.2.1 (vp_in_nI (show i + 1 < L by omega) (by omega)) dL_law_290 ?_
  refine g_asi (show _ = a1 from ha1.symm) ?_
  refine lv_aload_n hx hb dL_law_291 rfl (lv_at hl 1 rfl) ?_
  refine lv_iload hx hb dL_law_292 (lv_at hl 0 rfl) ?_
  refine lv_iconst (v := nI 2) hx hb dL_law_294 (by decide) ?_
  refine lv_iadd hx hb dL_law_295 ?_
  refine g_asi (show _ = nI (i + 2) from (nI_add _ _).trans (by rfl)) ?_
  refine va_sld hx hb hX hbl hbA hW.2.1 (vp_in_nI (show i + 2 < L by omega) (by omega)) dL_law_296 ?_
  refine g_asi (show _ = a2 from ha2.symm) ?_
  refine lv_aload_n hx hb dL_law_297 rfl (lv_at hl 4 rfl) ?_
  refine g_lS (K1 := va_up Kx o (some (9, 1))) (As := [.ref x, .int a1, .int a2, .ref o]) (rest := []) hx hb hml hown hts hN hW (fun a q ha => by
    by_cases e : a = o
    · rw [e] at ha ⊢; rw [va_up_self] at ha; rw [← ha]; exact hKo
    · rw [va_up_ne _ _ e] at ha; exact hKx a q ha) (hTHk _ (fun a q ha => by
    by_cases e : a = o
    · rw [e] at ha ⊢; rw [va_up_self] at ha; rw [← ha]; exact hKo
    · rw [va_up_ne _ _ e] at ha; exact hKx a q ha)) hNc (L_at l Γ Kx F H.size x o kx hxo a1 a2 (c_at l hfl Γ Kx F H.size x lb T row h9 ai ad J pts lens d tc nd dt pl dd S lim lk bc bg bp hNT a1 a2) (fun v K' F' h => by obtain ⟨_, _, _, _, _, _, _, _, _, _, hv⟩ := h; exact ⟨_, hv⟩) (fun E hE => hE.imp (fun z => z.1) (fun z => z.1))) gL_law_L_at rfl (na := 4) rfl (by decide +kernel) ⟨by show _ ≤ 2048; decide, by show _ ≤ 84000; decide⟩ ⟨by show _ ≤ 601024; omega, by show _ ≤ 7293000; omega⟩ rfl hl.1 (Nat.le_of_ble_eq_true rfl) dL_law_298 (fun v K1 F1 H locs hp hA1 hW hsz1 => ?_)
  obtain ⟨k, Kx', hv, hK1, hKxo, hcase⟩ := hp
  subst hv
  subst hK1
  obtain ⟨m1, m2, m3, m4⟩ := mid_x hKx hKm hdis hKo hxo hmo hlt hA1 hKxo
  have hF2m : ∀ a q i, Km a = some q → fMg F F1 (va_up Kx' o (some (9, 1))) a i = F a i := fun a q i ha => fMg_old (m2 a q ha).2
  have hF2x : ∀ a q i, Kx' a = some q → fMg F F1 (va_up Kx' o (some (9, 1))) a i = F1 a i := fun a q i ha => fMg_new (show va_up Kx' o (some (9, 1)) a = some q by rw [va_up_ne _ _ (fun e => by rw [e, hKxo] at ha; cases ha)]; exact ha)
  have hF2o : fMg F F1 (va_up Kx' o (some (9, 1))) o 0 = F1 o 0 := fMg_new (va_up_self _ _ _)
  have m2' : ∀ a q, Km a = some q → kMg K (va_up Kx o (some (9, 1))) (va_up Kx' o (some (9, 1))) a = some q := fun a q ha => (m2 a q ha).1
  generalize kMg K (va_up Kx o (some (9, 1))) (va_up Kx' o (some (9, 1))) = K2 at hW m1 m2' m4
  generalize fMg F F1 (va_up Kx' o (some (9, 1))) = F2 at hW hF2m hF2x hF2o
  have hRS2 := RS_off hk hRS hF2m
  show W _ _ _ _ _ _ _ _ _ _ _ _ _ _ _ (F0 m 301 ls [.int (nI k)])
  refine lv_istore (lv' := [(5, .int (nI k)), (4, .int (nI i)), (0, .ref b), (1, .ref x), (2, .ref m9), (3, .ref o)]) hx hb dL_law_301 hl (by decide) rfl (fun ls hl => ?_)
  refine lv_aload_n hx hb dL_law_303 rfl (lv_at hl 4 rfl) ?_
  refine lv_aload_n hx hb dL_law_304 rfl (lv_at hl 2 rfl) ?_
  refine lv_iload hx hb dL_law_305 (lv_at hl 1 rfl) ?_
  refine lv_iconst (v := nI 1) hx hb dL_law_307 (by decide) ?_
  refine lv_iadd hx hb dL_law_308 ?_
  refine g_asi (show _ = nI (i + 1) from (nI_add _ _).trans (by rfl)) ?_
  refine va_sld hx hb hX hbl hbA hW.2.1 (vp_in_nI (show i + 1 < L by omega) (by omega)) dL_law_309 ?_
  refine g_asi (show _ = a1 from ha1.symm) ?_
  refine lv_aload_n hx hb dL_law_310 rfl (lv_at hl 2 rfl) ?_
  refine lv_iload hx hb dL_law_311 (lv_at hl 1 rfl) ?_
  refine lv_iconst (v := nI 2) hx hb dL_law_313 (by decide) ?_
  refine lv_iadd hx hb dL_law_314 ?_
  refine g_asi (show _ = nI (i + 2) from (nI_add _ _).trans (by rfl)) ?_
  refine va_sld hx hb hX hbl hbA hW.2.1 (vp_in_nI (show i + 2 < L by omega) (by omega)) dL_law_315 ?_
  refine g_asi (show _ = a2 from ha2.symm) ?_
  refine g_mVF (K1 := Km) (As := [.int a1, .int a2]) (b := m9) (rest := []) hx hb hml hown hts hN hW m2' (m_at l Γ Km F2 H.size m9 B hk d (ndP nd dt) (tMap (fL dt dd) tc) S lk bc bg bp hRS2  a1 a2) gL_law_X7_at rfl hk.1 (by decide) rfl (na := 2) rfl (by decide +kernel) ⟨by show _ ≤ 2048; decide, by show _ ≤ 84000; decide⟩ ⟨by show _ ≤ 601024; omega, by show _ ≤ 7293000; omega⟩ rfl hl.1 (Nat.le_of_ble_eq_true rfl) dL_law_316 (fun v K3 F3 H locs hp hA3 hW hsz2 => ?_)
  obtain ⟨th, r2, hv, hK3, hth, htR, hsame, hzero⟩ := hp
  subst hv
  subst hK3
  have n1 := mid_m m2'
  have hF3m : ∀ a q i, K3 a = some q → fMg F2 F3 K3 a i = F3 a i := fun a q i ha => fMg_new ha
  have hF3x : ∀ a i, K3 a = none → fMg F2 F3 K3 a i = F2 a i := fun a i ha => fMg_old ha
  generalize kMg K2 K3 K3 = K4 at hW n1
  generalize fMg F2 F3 K3 = F4 at hW hF3m hF3x
  have hth4 : F4 m9 0 = .int (nI th) := (hF3m m9 _ 0 hk.1).trans hth
  have km4 : K4 m9 = some (7, 0) := n1 _ _ (m2' _ _ hk.1)
  have ko4 : K4 o = some (9, 1) := n1 _ _ m4
  have hx4 : ∀ a q, Kx' a = some q → K4 a = some q := fun a q ha => n1 a q (m1 a q ha)
  have hm4 : ∀ a q, K3 a = some q → K4 a = some q := fun a q ha => n1 a q (m2' a q ha)
  have hfx : ∀ a q i, Kx' a = some q → F4 a i = F1 a i := fun a q i ha => (hF3x a i (m3 a q ha)).trans (hF2x a q i ha)
  have hfo : F4 o 0 = F1 o 0 := (hF3x o 0 hmo).trans hF2o
  rcases hcase with ⟨hk0, r, F5, ⟨q, hq, hrq⟩, hfr, hFo⟩ | ⟨hk0, hpx1, hKK, hfr⟩ | ⟨hk0, hpx2, hKK, hfr⟩
  all_goals show W _ _ _ _ _ _ _ _ _ _ _ _ _ _ _ (F0 m 319 ls [.int r2])
  · subst hk0
    obtain ⟨hK8, hF8, j, a, n, hj, ha, e1, e2, hn, hv⟩ := hq
    cases hv
    subst hK8
    rw [hF8] at hfr
    have hkR : thR 0 (okId a1 = true ∧ ¬ a2 < 0 ∧ a2 < 4) (∃ i p, i < 100 ∧ a1 = nI i ∧ ndP nd dt i = some p) := Or.inr (Or.inr ⟨rfl, ⟨by rw [e1]; exact okId_i hj, by rw [e2]; exact nI_nn (by omega), by rw [e2]; exact (show nI a < nI 4 from (nI_ltI (by omega) (by decide)).mpr ha)⟩, ⟨j, (dt n).2, hj, e1, ndP_some hn⟩⟩)
    have hzero := hzero (thR_uniq htR hkR)
    have hr2 := hzero j a (dt n).2 hj ha e1 e2 (ndP_some hn)
    have hnew : LVx K4 F4 o x m9 := ⟨_, _, lb, T, row, h9, ai, ad, J, pts, lens, B, d, tc, nd, dt, pl, dd, S, lim, lk, bc, bg, bp, hx4, hm4, m3, ko4, hKxo, hmo, NT_world hNT (fun a q i ha => (hfx a q i ha).trans (hfr a q i ha)), hk, RS_off hk hsame hF3m⟩
    have hth0 : th = 0 := thR_uniq htR hkR
    refine lv_istore (lv' := [(6, .int r2), (5, .int (nI 0)), (4, .int (nI i)), (0, .ref b), (1, .ref x), (2, .ref m9), (3, .ref o)]) hx hb dL_law_319 hl (by decide) rfl (fun ls hl => ?_)
    refine lv_aload_n hx hb dL_law_321 rfl (lv_at hl 5 rfl) ?_
    refine g_cV (v := (some (.int (nI th)))) (As := []) (b := m9) (rest := []) hx hb hml hown hts hN hW.1 (m_thrown l Γ K4 F4 m9 (nI th) km4 hth4) gL_law_X7_thrown rfl km4 (by decide) rfl (na := 0) rfl (by decide +kernel) ⟨by show _ ≤ 2048; decide, by show _ ≤ 84000; decide⟩ ⟨by show _ ≤ 601024; omega, by show _ ≤ 7293000; omega⟩ rfl hl.1 (Nat.le_of_ble_eq_true rfl) dL_law_322 ?_
    show W _ _ _ _ _ _ _ _ _ _ _ _ _ _ _ (F0 m 325 ls [.int (nI th)])
    refine lv_iload hx hb dL_law_325 (lv_at hl 1 rfl) ?_
    refine lv_icmp_eq (tgt := 332) hx hb dL_law_327 (by decide) (fun z1 => ?_) (fun z1 => ?_)
    · refine lv_iload hx hb dL_law_332 (lv_at hl 1 rfl) ?_
      refine lv_if_ne (tgt := 349) hx hb dL_law_334 (by decide) (fun z2 => ?_) (fun z2 => ?_)
      · have z2 : ¬ 0 = 0 := fun z => z2 ((nI_eq0 (by omega)).mpr z)
        exact absurd rfl z2
      · have z2 : 0 = 0 := (nI_eq0 (by omega)).mp z2
        refine lv_aload_n hx hb dL_law_337 rfl (lv_at hl 6 rfl) ?_
        refine lv_iconst (v := nI 0) hx hb dL_law_338 (by decide) ?_
        refine g_lald (j := 0) hx hb hN hW.1 ko4 (by decide) (show _ = nI 0 from rfl) (by decide) (v := .long r) (hfo.trans hFo) dL_law_339 ?_
        refine lv_iload hx hb dL_law_340 (lv_at hl 0 rfl) ?_
        refine lv_i2l (v := r2.toInt64) hx hb dL_law_342 rfl ?_
        refine W.lcmp hx hb dL_law_343 ?_
        refine lv_if_eq (tgt := 349) hx hb dL_law_344 (by decide) (fun z3 => ?_) (fun z3 => ?_)
        · have z3 : _ := (lg_cmp_eq _ _).mp z3
          refine lv_goto (tgt := 1173) hx hb dL_law_349 (by decide) ?_
          refine W.widen (k := cl + 2) (n := sl + 13) (by omega) (by omega) ?_
          exact kk K4 F4 H locs ls hnew hW (lv_sub hl [2, 3, 4, 5, 6] rfl)
        · have z3 : ¬ _ := fun z => z3 ((lg_cmp_eq _ _).mpr z)
          exact absurd (by rw [hrq, hr2]) z3
    · exact absurd (by rw [hth0]) z1
  · subst hk0
    subst hKK
    have hpx1 := hpx1.elim (fun z => z.2) (fun z => absurd z.1 (by decide))
    have hkR : thR 1 (okId a1 = true ∧ ¬ a2 < 0 ∧ a2 < 4) (∃ i p, i < 100 ∧ a1 = nI i ∧ ndP nd dt i = some p) := Or.inl ⟨rfl, hpx1⟩
    have hth0b : th = 1 := thR_uniq htR hkR
    have hnew : LVx K4 F4 o x m9 := ⟨_, _, lb, T, row, h9, ai, ad, J, pts, lens, B, d, tc, nd, dt, pl, dd, S, lim, lk, bc, bg, bp, hx4, hm4, m3, ko4, hKxo, hmo, NT_world hNT (fun a q i ha => (hfx a q i ha).trans (hfr a q i ha)), hk, RS_off hk (hsame) hF3m⟩
    have hth0 : th = 1 := thR_uniq htR hkR
    refine lv_istore (lv' := [(6, .int r2), (5, .int (nI 1)), (4, .int (nI i)), (0, .ref b), (1, .ref x), (2, .ref m9), (3, .ref o)]) hx hb dL_law_319 hl (by decide) rfl (fun ls hl => ?_)
    refine lv_aload_n hx hb dL_law_321 rfl (lv_at hl 5 rfl) ?_
    refine g_cV (v := (some (.int (nI th)))) (As := []) (b := m9) (rest := []) hx hb hml hown hts hN hW.1 (m_thrown l Γ K4 F4 m9 (nI th) km4 hth4) gL_law_X7_thrown rfl km4 (by decide) rfl (na := 0) rfl (by decide +kernel) ⟨by show _ ≤ 2048; decide, by show _ ≤ 84000; decide⟩ ⟨by show _ ≤ 601024; omega, by show _ ≤ 7293000; omega⟩ rfl hl.1 (Nat.le_of_ble_eq_true rfl) dL_law_322 ?_
    show W _ _ _ _ _ _ _ _ _ _ _ _ _ _ _ (F0 m 325 ls [.int (nI th)])
    refine lv_iload hx hb dL_law_325 (lv_at hl 1 rfl) ?_
    refine lv_icmp_eq (tgt := 332) hx hb dL_law_327 (by decide) (fun z1 => ?_) (fun z1 => ?_)
    · refine lv_iload hx hb dL_law_332 (lv_at hl 1 rfl) ?_
      refine lv_if_ne (tgt := 349) hx hb dL_law_334 (by decide) (fun z2 => ?_) (fun z2 => ?_)
      · have z2 : ¬ 1 = 0 := fun z => z2 ((nI_eq0 (by omega)).mpr z)
        refine lv_goto (tgt := 1173) hx hb dL_law_349 (by decide) ?_
        refine W.widen (k := cl + 2) (n := sl + 13) (by omega) (by omega) ?_
        exact kk K4 F4 H locs ls hnew hW (lv_sub hl [2, 3, 4, 5, 6] rfl)
      · have z2 : 1 = 0 := (nI_eq0 (by omega)).mp z2
        exact absurd z2 (by decide)
    · exact absurd (by rw [hth0]) z1
  · subst hk0
    subst hKK
    have hpx2 := hpx2.elim (fun z => absurd z.1 (by decide)) (fun z => z.2)
    have hkR : thR 2 (okId a1 = true ∧ ¬ a2 < 0 ∧ a2 < 4) (∃ i p, i < 100 ∧ a1 = nI i ∧ ndP nd dt i = some p) := Or.inr (Or.inl ⟨rfl, ⟨hpx2.1, fun ⟨j, p2, hj, e, hp2⟩ => by rw [ndP_none.mpr (hpx2.2 j e hj)] at hp2; cases hp2⟩⟩)
    have hth0b : th = 2 := thR_uniq htR hkR
    have hnew : LVx K4 F4 o x m9 := ⟨_, _, lb, T, row, h9, ai, ad, J, pts, lens, B, d, tc, nd, dt, pl, dd, S, lim, lk, bc, bg, bp, hx4, hm4, m3, ko4, hKxo, hmo, NT_world hNT (fun a q i ha => (hfx a q i ha).trans (hfr a q i ha)), hk, RS_off hk (hsame) hF3m⟩
    have hth0 : th = 2 := thR_uniq htR hkR
    refine lv_istore (lv' := [(6, .int r2), (5, .int (nI 2)), (4, .int (nI i)), (0, .ref b), (1, .ref x), (2, .ref m9), (3, .ref o)]) hx hb dL_law_319 hl (by decide) rfl (fun ls hl => ?_)
    refine lv_aload_n hx hb dL_law_321 rfl (lv_at hl 5 rfl) ?_
    refine g_cV (v := (some (.int (nI th)))) (As := []) (b := m9) (rest := []) hx hb hml hown hts hN hW.1 (m_thrown l Γ K4 F4 m9 (nI th) km4 hth4) gL_law_X7_thrown rfl km4 (by decide) rfl (na := 0) rfl (by decide +kernel) ⟨by show _ ≤ 2048; decide, by show _ ≤ 84000; decide⟩ ⟨by show _ ≤ 601024; omega, by show _ ≤ 7293000; omega⟩ rfl hl.1 (Nat.le_of_ble_eq_true rfl) dL_law_322 ?_
    show W _ _ _ _ _ _ _ _ _ _ _ _ _ _ _ (F0 m 325 ls [.int (nI th)])
    refine lv_iload hx hb dL_law_325 (lv_at hl 1 rfl) ?_
    refine lv_icmp_eq (tgt := 332) hx hb dL_law_327 (by decide) (fun z1 => ?_) (fun z1 => ?_)
    · refine lv_iload hx hb dL_law_332 (lv_at hl 1 rfl) ?_
      refine lv_if_ne (tgt := 349) hx hb dL_law_334 (by decide) (fun z2 => ?_) (fun z2 => ?_)
      · have z2 : ¬ 2 = 0 := fun z => z2 ((nI_eq0 (by omega)).mpr z)
        refine lv_goto (tgt := 1173) hx hb dL_law_349 (by decide) ?_
        refine W.widen (k := cl + 2) (n := sl + 13) (by omega) (by omega) ?_
        exact kk K4 F4 H locs ls hnew hW (lv_sub hl [2, 3, 4, 5, 6] rfl)
      · have z2 : 2 = 0 := (nI_eq0 (by omega)).mp z2
        exact absurd z2 (by decide)
    · exact absurd (by rw [hth0]) z1

set_option maxHeartbeats 4000000 in
set_option maxRecDepth 100000 in
theorem s_nearest {p : Program} {l : Launch} {e : Env} {s : State} {m : MethodId} {below : List Frame} {meth : Method} {c : Code} {b L : Nat} {xs : Nat → Int32} {Γ : gG} (hC : LCt p l s m meth c b L xs Γ) (hL : L ≤ 3585) (i : Nat) (hi : i + 7 ≤ L) (o x m9 cl sl : Nat) (hcl : cl + 2 ≤ 601024) (hsl : sl + 13 ≤ 7293000)
    (kk : ∀ (K : gK) (F : gF) (H : Heap) (locs : List Loc) (ls : Array Slot), LVx K F o x m9 → gW Γ (fun q : Nat => s.heap.size ≤ q) s.heap K F H locs → lv_has ls 8 [(4, .int (nI i)), (0, .ref b), (1, .ref x), (2, .ref m9), (3, .ref o)] → W p l e room_1 s m #[Value.ref b] below meth c H locs (cl + 2) (sl + 13) (lw_Z below #[Value.ref b] s) (F0 m 1173 ls [])) :
    ∀ (K : gK) (F : gF) (H : Heap) (locs : List Loc) (ls : Array Slot), LVx K F o x m9 → gW Γ (fun q : Nat => s.heap.size ≤ q) s.heap K F H locs → lv_has ls 8 [(4, .int (nI i)), (0, .ref b), (1, .ref x), (2, .ref m9), (3, .ref o)] → W p l e room_1 s m #[Value.ref b] below meth c H locs (cl) (sl) (lw_Z below #[Value.ref b] s) (F0 m 352 ls []) := by
  intro K F H locs ls hLV hW hl
  obtain ⟨⟨hx, hb, hr, hml, hown, hts0, hX, hbl, hlocks, hgv⟩, hN, hT0, hNc, hfl⟩ := hC
  have hbA : ¬ (fun q : Nat => s.heap.size ≤ q) b := Nat.not_le.mpr hbl
  have hown : s.vm.findClass RL = some m.cls := hown
  have hts : ∀ w ∈ wsL_law, w.before #[Value.ref b] s = true := fun w h => hts0 w (wsL_law_in w h)
  obtain ⟨Kx, Km, lb, T, row, h9, ai, ad, J, pts, lens, B, d, tc, nd, dt, pl, dd, S, lim, lk, bc, bg, bp, hKx, hKm, hdis, hKo, hxo, hmo, hNT, hk, hRS⟩ := hLV
  have hp9 := hNT.2.2.2.2.2.2.2.2
  have hAS := AS_NT hNT.2.2.2.2.2.2.2.1 hp9
  have hoP := okP_NT hp9
  have hlc := lcP_nd nd dt
  have h60 : lcP (ndP nd dt) ≤ 60 := by rw [hlc]; exact hp9.2.2.2.2.2.1
  have hd0 := hNT.2.1.1
  have hd4 := hNT.2.1.2
  have hS100 : S.length ≤ 100 := Nat.le_trans hNT.2.2.2.2.2.2.1.2.2.2.2.2.2.2.2.2.1 hNT.2.2.2.2.2.2.1.2.2.2.2.2.2.2.2.2.2.1
  have hid : ∀ i a, i < 100 → nd i = some a → (dt a).1 = i := fun i a hi ha => (hp9.2.1 i a hi ha).2.1
  have hlt : ∀ a q, K a = some q → a < H.size := fun a q ha => (hW.1 a q ha).lt
  have kx : Kx x = some (6, 0) := hNT.1.1
  have hTHk : ∀ K1 : gK, (∀ a q, K1 a = some q → K a = some q) → gTH (gA K1 H.size) s H := fun K1 h1 => gTH.narrow (A := fun q : Nat => s.heap.size ≤ q) (fun q hq => by
    rcases hq with ⟨k, hk⟩ | hq
    · exact hW.2.2.1 q k (h1 q k hk)
    · exact Nat.le_trans hW.2.1.1 hq) (gTH.kept (fun a ha hA => hW.2.1.2.1 a ha hA) hT0)
  obtain ⟨a1, ha1⟩ : ∃ a, a = xs (nI (i + 1)).toNatClampNeg := ⟨_, rfl⟩
  obtain ⟨a2, ha2⟩ : ∃ a, a = xs (nI (i + 2)).toNatClampNeg := ⟨_, rfl⟩
  obtain ⟨a3, ha3⟩ : ∃ a, a = xs (nI (i + 3)).toNatClampNeg := ⟨_, rfl⟩
  obtain ⟨a4, ha4⟩ : ∃ a, a = xs (nI (i + 4)).toNatClampNeg := ⟨_, rfl⟩
  obtain ⟨a5, ha5⟩ : ∃ a, a = xs (nI (i + 5)).toNatClampNeg := ⟨_, rfl⟩
  refine lv_aload_n hx hb dL_law_352 rfl (lv_at hl 2 rfl) ?_
  refine lv_aload_n hx hb dL_law_353 rfl (lv_at hl 1 rfl) ?_
  refine lv_iload hx hb dL_law_354 (lv_at hl 0 rfl) ?_
  refine lv_iconst (v := nI 1) hx hb dL_law_356 (by decide) ?_
  refine lv_iadd hx hb dL_law_357 ?_
  refine g_asi (show _ = nI (i + 1) from (nI_add _ _).trans (by rfl)) ?_
  refine va_sld hx hb hX hbl hbA hW.2.1 (vp_in_nI (show i + 1 < L by omega) (by omega)) dL_law_358 ?_
  refine g_asi (show _ = a1 from ha1.symm) ?_
  refine lv_aload_n hx hb dL_law_359 rfl (lv_at hl 1 rfl) ?_
  refine lv_iload hx hb dL_law_360 (lv_at hl 0 rfl) ?_
  refine lv_iconst (v := nI 2) hx hb dL_law_362 (by decide) ?_
  refine lv_iadd hx hb dL_law_363 ?_
  refine g_asi (show _ = nI (i + 2) from (nI_add _ _).trans (by rfl)) ?_
  refine va_sld hx hb hX hbl hbA hW.2.1 (vp_in_nI (show i + 2 < L by omega) (by omega)) dL_law_364 ?_
  refine g_asi (show _ = a2 from ha2.symm) ?_
  refine lv_aload_n hx hb dL_law_365 rfl (lv_at hl 1 rfl) ?_
  refine lv_iload hx hb dL_law_366 (lv_at hl 0 rfl) ?_
  refine lv_iconst (v := nI 3) hx hb dL_law_368 (by decide) ?_
  refine lv_iadd hx hb dL_law_369 ?_
  refine g_asi (show _ = nI (i + 3) from (nI_add _ _).trans (by rfl)) ?_
  refine va_sld hx hb hX hbl hbA hW.2.1 (vp_in_nI (show i + 3 < L by omega) (by omega)) dL_law_370 ?_
  refine g_asi (show _ = a3 from ha3.symm) ?_
  refine lv_aload_n hx hb dL_law_371 rfl (lv_at hl 1 rfl) ?_
  refine lv_iload hx hb dL_law_372 (lv_at hl 0 rfl) ?_
  refine lv_iconst (v := nI 4) hx hb dL_law_374 (by decide) ?_
  refine lv_iadd hx hb dL_law_375 ?_
  refine g_asi (show _ = nI (i + 4) from (nI_add _ _).trans (by rfl)) ?_
  refine va_sld hx hb hX hbl hbA hW.2.1 (vp_in_nI (show i + 4 < L by omega) (by omega)) dL_law_376 ?_
  refine g_asi (show _ = a4 from ha4.symm) ?_
  refine lv_aload_n hx hb dL_law_377 rfl (lv_at hl 1 rfl) ?_
  refine lv_iload hx hb dL_law_378 (lv_at hl 0 rfl) ?_
  refine lv_iconst (v := nI 5) hx hb dL_law_380 (by decide) ?_
  refine lv_iadd hx hb dL_law_381 ?_
  refine g_asi (show _ = nI (i + 5) from (nI_add _ _).trans (by rfl)) ?_
  refine va_sld hx hb hX hbl hbA hW.2.1 (vp_in_nI (show i + 5 < L by omega) (by omega)) dL_law_382 ?_
  refine g_asi (show _ = a5 from ha5.symm) ?_
  refine lv_aload_n hx hb dL_law_383 rfl (lv_at hl 4 rfl) ?_
  refine g_lS (K1 := va_up Kx o (some (9, 1))) (As := [.ref x, .int a1, .int a2, .int a3, .int a4, .int a5, .ref o]) (rest := []) hx hb hml hown hts hN hW (fun a q ha => by
    by_cases e : a = o
    · rw [e] at ha ⊢; rw [va_up_self] at ha; rw [← ha]; exact hKo
    · rw [va_up_ne _ _ e] at ha; exact hKx a q ha) (hTHk _ (fun a q ha => by
    by_cases e : a = o
    · rw [e] at ha ⊢; rw [va_up_self] at ha; rw [← ha]; exact hKo
    · rw [va_up_ne _ _ e] at ha; exact hKx a q ha)) hNc (L_nearest l Γ Kx F H.size x o kx hxo a1 a2 a3 a4 a5 (c_nearest l hfl Γ Kx F H.size x lb T row h9 ai ad J pts lens d tc nd dt pl dd S lim lk bc bg bp hNT a1 a2 a3 a4 a5) (fun v K' F' h => by obtain ⟨_, _, _, _, _, hv⟩ := h; exact ⟨_, hv⟩) (fun E hE => hE.1)) gL_law_L_nearest rfl (na := 7) rfl (by decide +kernel) ⟨by show _ ≤ 2048; decide, by show _ ≤ 84000; decide⟩ ⟨by show _ ≤ 601024; omega, by show _ ≤ 7293000; omega⟩ rfl hl.1 (Nat.le_of_ble_eq_true rfl) dL_law_384 (fun v K1 F1 H locs hp hA1 hW hsz1 => ?_)
  obtain ⟨k, Kx', hv, hK1, hKxo, hcase⟩ := hp
  subst hv
  subst hK1
  obtain ⟨m1, m2, m3, m4⟩ := mid_x hKx hKm hdis hKo hxo hmo hlt hA1 hKxo
  have hF2m : ∀ a q i, Km a = some q → fMg F F1 (va_up Kx' o (some (9, 1))) a i = F a i := fun a q i ha => fMg_old (m2 a q ha).2
  have hF2x : ∀ a q i, Kx' a = some q → fMg F F1 (va_up Kx' o (some (9, 1))) a i = F1 a i := fun a q i ha => fMg_new (show va_up Kx' o (some (9, 1)) a = some q by rw [va_up_ne _ _ (fun e => by rw [e, hKxo] at ha; cases ha)]; exact ha)
  have hF2o : fMg F F1 (va_up Kx' o (some (9, 1))) o 0 = F1 o 0 := fMg_new (va_up_self _ _ _)
  have m2' : ∀ a q, Km a = some q → kMg K (va_up Kx o (some (9, 1))) (va_up Kx' o (some (9, 1))) a = some q := fun a q ha => (m2 a q ha).1
  generalize kMg K (va_up Kx o (some (9, 1))) (va_up Kx' o (some (9, 1))) = K2 at hW m1 m2' m4
  generalize fMg F F1 (va_up Kx' o (some (9, 1))) = F2 at hW hF2m hF2x hF2o
  have hRS2 := RS_off hk hRS hF2m
  show W _ _ _ _ _ _ _ _ _ _ _ _ _ _ _ (F0 m 387 ls [.int (nI k)])
  refine lv_istore (lv' := [(5, .int (nI k)), (4, .int (nI i)), (0, .ref b), (1, .ref x), (2, .ref m9), (3, .ref o)]) hx hb dL_law_387 hl (by decide) rfl (fun ls hl => ?_)
  refine lv_aload_n hx hb dL_law_389 rfl (lv_at hl 4 rfl) ?_
  refine lv_aload_n hx hb dL_law_390 rfl (lv_at hl 2 rfl) ?_
  refine lv_iload hx hb dL_law_391 (lv_at hl 1 rfl) ?_
  refine lv_iconst (v := nI 1) hx hb dL_law_393 (by decide) ?_
  refine lv_iadd hx hb dL_law_394 ?_
  refine g_asi (show _ = nI (i + 1) from (nI_add _ _).trans (by rfl)) ?_
  refine va_sld hx hb hX hbl hbA hW.2.1 (vp_in_nI (show i + 1 < L by omega) (by omega)) dL_law_395 ?_
  refine g_asi (show _ = a1 from ha1.symm) ?_
  refine lv_aload_n hx hb dL_law_396 rfl (lv_at hl 2 rfl) ?_
  refine lv_iload hx hb dL_law_397 (lv_at hl 1 rfl) ?_
  refine lv_iconst (v := nI 2) hx hb dL_law_399 (by decide) ?_
  refine lv_iadd hx hb dL_law_400 ?_
  refine g_asi (show _ = nI (i + 2) from (nI_add _ _).trans (by rfl)) ?_
  refine va_sld hx hb hX hbl hbA hW.2.1 (vp_in_nI (show i + 2 < L by omega) (by omega)) dL_law_401 ?_
  refine g_asi (show _ = a2 from ha2.symm) ?_
  refine lv_aload_n hx hb dL_law_402 rfl (lv_at hl 2 rfl) ?_
  refine lv_iload hx hb dL_law_403 (lv_at hl 1 rfl) ?_
  refine lv_iconst (v := nI 3) hx hb dL_law_405 (by decide) ?_
  refine lv_iadd hx hb dL_law_406 ?_
  refine g_asi (show _ = nI (i + 3) from (nI_add _ _).trans (by rfl)) ?_
  refine va_sld hx hb hX hbl hbA hW.2.1 (vp_in_nI (show i + 3 < L by omega) (by omega)) dL_law_407 ?_
  refine g_asi (show _ = a3 from ha3.symm) ?_
  refine lv_aload_n hx hb dL_law_408 rfl (lv_at hl 2 rfl) ?_
  refine lv_iload hx hb dL_law_409 (lv_at hl 1 rfl) ?_
  refine lv_iconst (v := nI 4) hx hb dL_law_411 (by decide) ?_
  refine lv_iadd hx hb dL_law_412 ?_
  refine g_asi (show _ = nI (i + 4) from (nI_add _ _).trans (by rfl)) ?_
  refine va_sld hx hb hX hbl hbA hW.2.1 (vp_in_nI (show i + 4 < L by omega) (by omega)) dL_law_413 ?_
  refine g_asi (show _ = a4 from ha4.symm) ?_
  refine lv_aload_n hx hb dL_law_414 rfl (lv_at hl 2 rfl) ?_
  refine lv_iload hx hb dL_law_415 (lv_at hl 1 rfl) ?_
  refine lv_iconst (v := nI 5) hx hb dL_law_417 (by decide) ?_
  refine lv_iadd hx hb dL_law_418 ?_
  refine g_asi (show _ = nI (i + 5) from (nI_add _ _).trans (by rfl)) ?_
  refine va_sld hx hb hX hbl hbA hW.2.1 (vp_in_nI (show i + 5 < L by omega) (by omega)) dL_law_419 ?_
  refine g_asi (show _ = a5 from ha5.symm) ?_
  refine g_mVF (K1 := Km) (As := [.int a1, .int a2, .int a3, .int a4, .int a5]) (b := m9) (rest := []) hx hb hml hown hts hN hW m2' (m_nearest l Γ Km F2 H.size m9 B hk d (ndP nd dt) (tMap (fL dt dd) tc) S lk bc bg bp hRS2 hd0 hd4 hAS a1 a2 a3 a4 a5) gL_law_X7_nearest rfl hk.1 (by decide) rfl (na := 5) rfl (by decide +kernel) ⟨by show _ ≤ 2048; decide, by show _ ≤ 84000; decide⟩ ⟨by show _ ≤ 601024; omega, by show _ ≤ 7293000; omega⟩ rfl hl.1 (Nat.le_of_ble_eq_true rfl) dL_law_420 (fun v K3 F3 H locs hp hA3 hW hsz2 => ?_)
  obtain ⟨th, r2, hv, hK3, hth, htR, hsame, hzero⟩ := hp
  subst hv
  subst hK3
  have n1 := mid_m m2'
  have hF3m : ∀ a q i, K3 a = some q → fMg F2 F3 K3 a i = F3 a i := fun a q i ha => fMg_new ha
  have hF3x : ∀ a i, K3 a = none → fMg F2 F3 K3 a i = F2 a i := fun a i ha => fMg_old ha
  generalize kMg K2 K3 K3 = K4 at hW n1
  generalize fMg F2 F3 K3 = F4 at hW hF3m hF3x
  have hth4 : F4 m9 0 = .int (nI th) := (hF3m m9 _ 0 hk.1).trans hth
  have km4 : K4 m9 = some (7, 0) := n1 _ _ (m2' _ _ hk.1)
  have ko4 : K4 o = some (9, 1) := n1 _ _ m4
  have hx4 : ∀ a q, Kx' a = some q → K4 a = some q := fun a q ha => n1 a q (m1 a q ha)
  have hm4 : ∀ a q, K3 a = some q → K4 a = some q := fun a q ha => n1 a q (m2' a q ha)
  have hfx : ∀ a q i, Kx' a = some q → F4 a i = F1 a i := fun a q i ha => (hF3x a i (m3 a q ha)).trans (hF2x a q i ha)
  have hfo : F4 o 0 = F1 o 0 := (hF3x o 0 hmo).trans hF2o
  rcases hcase with ⟨hk0, r, F5, ⟨q, hq, hrq⟩, hfr, hFo⟩ | ⟨hk0, hpx1, hKK, hfr⟩ | ⟨hk0, hpx2, hKK, hfr⟩
  all_goals show W _ _ _ _ _ _ _ _ _ _ _ _ _ _ _ (F0 m 423 ls [.int r2])
  · subst hk0
    obtain ⟨j, hj, e1, hpl, hNT9, hv⟩ := hq
    cases hv
    have hkR : thR 0 ((¬ a1 < 0 ∧ a1 < nI 101) ∧ okPl d a2 a3 a4 a5 = true) True := Or.inr (Or.inr ⟨rfl, ⟨⟨by rw [e1]; exact nI_nn (by omega), by rw [e1]; exact (nI_ltI (by omega) (by decide)).mpr (by omega)⟩, hpl⟩, trivial⟩)
    have hzero := hzero (thR_uniq htR hkR)
    obtain ⟨hr2, hRS4⟩ := hzero j hj e1
    rw [srchG_map] at hr2 hRS4
    have hnew : LVx K4 F4 o x m9 := ⟨_, _, lb, T, row, h9, ai, ad, J, pts, lens, B, d, _, _, _, _, _, _, _, _, bc, bg, bp, hx4, hm4, m3, ko4, hKxo, hmo, NT_world hNT9 (fun a q i ha => (hfx a q i ha).trans (hfr a q i ha)), hk, RS_off hk hRS4 hF3m⟩
    have hth0 : th = 0 := thR_uniq htR hkR
    refine lv_istore (lv' := [(6, .int r2), (5, .int (nI 0)), (4, .int (nI i)), (0, .ref b), (1, .ref x), (2, .ref m9), (3, .ref o)]) hx hb dL_law_423 hl (by decide) rfl (fun ls hl => ?_)
    refine lv_aload_n hx hb dL_law_425 rfl (lv_at hl 5 rfl) ?_
    refine g_cV (v := (some (.int (nI th)))) (As := []) (b := m9) (rest := []) hx hb hml hown hts hN hW.1 (m_thrown l Γ K4 F4 m9 (nI th) km4 hth4) gL_law_X7_thrown rfl km4 (by decide) rfl (na := 0) rfl (by decide +kernel) ⟨by show _ ≤ 2048; decide, by show _ ≤ 84000; decide⟩ ⟨by show _ ≤ 601024; omega, by show _ ≤ 7293000; omega⟩ rfl hl.1 (Nat.le_of_ble_eq_true rfl) dL_law_426 ?_
    show W _ _ _ _ _ _ _ _ _ _ _ _ _ _ _ (F0 m 429 ls [.int (nI th)])
    refine lv_iload hx hb dL_law_429 (lv_at hl 1 rfl) ?_
    refine lv_icmp_eq (tgt := 436) hx hb dL_law_431 (by decide) (fun z1 => ?_) (fun z1 => ?_)
    · refine lv_iload hx hb dL_law_436 (lv_at hl 1 rfl) ?_
      refine lv_if_ne (tgt := 453) hx hb dL_law_438 (by decide) (fun z2 => ?_) (fun z2 => ?_)
      · have z2 : ¬ 0 = 0 := fun z => z2 ((nI_eq0 (by omega)).mpr z)
        exact absurd rfl z2
      · have z2 : 0 = 0 := (nI_eq0 (by omega)).mp z2
        refine lv_aload_n hx hb dL_law_441 rfl (lv_at hl 6 rfl) ?_
        refine lv_iconst (v := nI 0) hx hb dL_law_442 (by decide) ?_
        refine g_lald (j := 0) hx hb hN hW.1 ko4 (by decide) (show _ = nI 0 from rfl) (by decide) (v := .long r) (hfo.trans hFo) dL_law_443 ?_
        refine lv_iload hx hb dL_law_444 (lv_at hl 0 rfl) ?_
        refine lv_i2l (v := r2.toInt64) hx hb dL_law_446 rfl ?_
        refine W.lcmp hx hb dL_law_447 ?_
        refine lv_if_eq (tgt := 453) hx hb dL_law_448 (by decide) (fun z3 => ?_) (fun z3 => ?_)
        · have z3 : _ := (lg_cmp_eq _ _).mp z3
          refine lv_goto (tgt := 1173) hx hb dL_law_453 (by decide) ?_
          refine W.widen (k := cl + 2) (n := sl + 13) (by omega) (by omega) ?_
          exact kk K4 F4 H locs ls hnew hW (lv_sub hl [2, 3, 4, 5, 6] rfl)
        · have z3 : ¬ _ := fun z => z3 ((lg_cmp_eq _ _).mpr z)
          exact absurd (by rw [hrq, hr2]) z3
    · exact absurd (by rw [hth0]) z1
  · subst hk0
    subst hKK
    have hpx1 := hpx1.2
    have hkR : thR 1 ((¬ a1 < 0 ∧ a1 < nI 101) ∧ okPl d a2 a3 a4 a5 = true) True := Or.inl ⟨rfl, fun z => hpx1 ⟨z.1.1, (leN (by decide)).mpr z.1.2, z.2⟩⟩
    have hth0b : th = 1 := thR_uniq htR hkR
    have hnew : LVx K4 F4 o x m9 := ⟨_, _, lb, T, row, h9, ai, ad, J, pts, lens, B, d, tc, nd, dt, pl, dd, S, lim, lk, bc, bg, bp, hx4, hm4, m3, ko4, hKxo, hmo, NT_world hNT (fun a q i ha => (hfx a q i ha).trans (hfr a q i ha)), hk, RS_off hk (hsame (by rw [hth0b]; decide)) hF3m⟩
    have hth0 : th = 1 := thR_uniq htR hkR
    refine lv_istore (lv' := [(6, .int r2), (5, .int (nI 1)), (4, .int (nI i)), (0, .ref b), (1, .ref x), (2, .ref m9), (3, .ref o)]) hx hb dL_law_423 hl (by decide) rfl (fun ls hl => ?_)
    refine lv_aload_n hx hb dL_law_425 rfl (lv_at hl 5 rfl) ?_
    refine g_cV (v := (some (.int (nI th)))) (As := []) (b := m9) (rest := []) hx hb hml hown hts hN hW.1 (m_thrown l Γ K4 F4 m9 (nI th) km4 hth4) gL_law_X7_thrown rfl km4 (by decide) rfl (na := 0) rfl (by decide +kernel) ⟨by show _ ≤ 2048; decide, by show _ ≤ 84000; decide⟩ ⟨by show _ ≤ 601024; omega, by show _ ≤ 7293000; omega⟩ rfl hl.1 (Nat.le_of_ble_eq_true rfl) dL_law_426 ?_
    show W _ _ _ _ _ _ _ _ _ _ _ _ _ _ _ (F0 m 429 ls [.int (nI th)])
    refine lv_iload hx hb dL_law_429 (lv_at hl 1 rfl) ?_
    refine lv_icmp_eq (tgt := 436) hx hb dL_law_431 (by decide) (fun z1 => ?_) (fun z1 => ?_)
    · refine lv_iload hx hb dL_law_436 (lv_at hl 1 rfl) ?_
      refine lv_if_ne (tgt := 453) hx hb dL_law_438 (by decide) (fun z2 => ?_) (fun z2 => ?_)
      · have z2 : ¬ 1 = 0 := fun z => z2 ((nI_eq0 (by omega)).mpr z)
        refine lv_goto (tgt := 1173) hx hb dL_law_453 (by decide) ?_
        refine W.widen (k := cl + 2) (n := sl + 13) (by omega) (by omega) ?_
        exact kk K4 F4 H locs ls hnew hW (lv_sub hl [2, 3, 4, 5, 6] rfl)
      · have z2 : 1 = 0 := (nI_eq0 (by omega)).mp z2
        exact absurd z2 (by decide)
    · exact absurd (by rw [hth0]) z1
  · subst hk0
    subst hKK
    exact absurd hpx2.1 (by decide)

set_option maxHeartbeats 4000000 in
set_option maxRecDepth 100000 in
theorem s_within {p : Program} {l : Launch} {e : Env} {s : State} {m : MethodId} {below : List Frame} {meth : Method} {c : Code} {b L : Nat} {xs : Nat → Int32} {Γ : gG} (hC : LCt p l s m meth c b L xs Γ) (hL : L ≤ 3585) (i : Nat) (hi : i + 7 ≤ L) (o x m9 cl sl : Nat) (hcl : cl + 2 ≤ 601024) (hsl : sl + 13 ≤ 7293000)
    (kk : ∀ (K : gK) (F : gF) (H : Heap) (locs : List Loc) (ls : Array Slot), LVx K F o x m9 → gW Γ (fun q : Nat => s.heap.size ≤ q) s.heap K F H locs → lv_has ls 8 [(4, .int (nI i)), (0, .ref b), (1, .ref x), (2, .ref m9), (3, .ref o)] → W p l e room_1 s m #[Value.ref b] below meth c H locs (cl + 2) (sl + 13) (lw_Z below #[Value.ref b] s) (F0 m 1173 ls [])) :
    ∀ (K : gK) (F : gF) (H : Heap) (locs : List Loc) (ls : Array Slot), LVx K F o x m9 → gW Γ (fun q : Nat => s.heap.size ≤ q) s.heap K F H locs → lv_has ls 8 [(4, .int (nI i)), (0, .ref b), (1, .ref x), (2, .ref m9), (3, .ref o)] → W p l e room_1 s m #[Value.ref b] below meth c H locs (cl) (sl) (lw_Z below #[Value.ref b] s) (F0 m 456 ls []) := by
  intro K F H locs ls hLV hW hl
  obtain ⟨⟨hx, hb, hr, hml, hown, hts0, hX, hbl, hlocks, hgv⟩, hN, hT0, hNc, hfl⟩ := hC
  have hbA : ¬ (fun q : Nat => s.heap.size ≤ q) b := Nat.not_le.mpr hbl
  have hown : s.vm.findClass RL = some m.cls := hown
  have hts : ∀ w ∈ wsL_law, w.before #[Value.ref b] s = true := fun w h => hts0 w (wsL_law_in w h)
  obtain ⟨Kx, Km, lb, T, row, h9, ai, ad, J, pts, lens, B, d, tc, nd, dt, pl, dd, S, lim, lk, bc, bg, bp, hKx, hKm, hdis, hKo, hxo, hmo, hNT, hk, hRS⟩ := hLV
  have hp9 := hNT.2.2.2.2.2.2.2.2
  have hAS := AS_NT hNT.2.2.2.2.2.2.2.1 hp9
  have hoP := okP_NT hp9
  have hlc := lcP_nd nd dt
  have h60 : lcP (ndP nd dt) ≤ 60 := by rw [hlc]; exact hp9.2.2.2.2.2.1
  have hd0 := hNT.2.1.1
  have hd4 := hNT.2.1.2
  have hS100 : S.length ≤ 100 := Nat.le_trans hNT.2.2.2.2.2.2.1.2.2.2.2.2.2.2.2.2.1 hNT.2.2.2.2.2.2.1.2.2.2.2.2.2.2.2.2.2.1
  have hid : ∀ i a, i < 100 → nd i = some a → (dt a).1 = i := fun i a hi ha => (hp9.2.1 i a hi ha).2.1
  have hlt : ∀ a q, K a = some q → a < H.size := fun a q ha => (hW.1 a q ha).lt
  have kx : Kx x = some (6, 0) := hNT.1.1
  have hTHk : ∀ K1 : gK, (∀ a q, K1 a = some q → K a = some q) → gTH (gA K1 H.size) s H := fun K1 h1 => gTH.narrow (A := fun q : Nat => s.heap.size ≤ q) (fun q hq => by
    rcases hq with ⟨k, hk⟩ | hq
    · exact hW.2.2.1 q k (h1 q k hk)
    · exact Nat.le_trans hW.2.1.1 hq) (gTH.kept (fun a ha hA => hW.2.1.2.1 a ha hA) hT0)
  obtain ⟨a1, ha1⟩ : ∃ a, a = xs (nI (i + 1)).toNatClampNeg := ⟨_, rfl⟩
  obtain ⟨a2, ha2⟩ : ∃ a, a = xs (nI (i + 2)).toNatClampNeg := ⟨_, rfl⟩
  obtain ⟨a3, ha3⟩ : ∃ a, a = xs (nI (i + 3)).toNatClampNeg := ⟨_, rfl⟩
  obtain ⟨a4, ha4⟩ : ∃ a, a = xs (nI (i + 4)).toNatClampNeg := ⟨_, rfl⟩
  obtain ⟨a5, ha5⟩ : ∃ a, a = xs (nI (i + 5)).toNatClampNeg := ⟨_, rfl⟩
  obtain ⟨a6, ha6⟩ : ∃ a, a = xs (nI (i + 6)).toNatClampNeg := ⟨_, rfl⟩
  refine lv_aload_n hx hb dL_law_456 rfl (lv_at hl 2 rfl) ?_
  refine lv_aload_n hx hb dL_law_457 rfl (lv_at hl 1 rfl) ?_
  refine lv_iload hx hb dL_law_458 (lv_at hl 0 rfl) ?_
  refine lv_iconst (v := nI 1) hx hb dL_law_460 (by decide) ?_
  refine lv_iadd hx hb dL_law_461 ?_
  refine g_asi (show _ = nI (i + 1) from (nI_add _ _).trans (by rfl)) ?_
  refine va_sld hx hb hX hbl hbA hW.2.1 (vp_in_nI (show i + 1 < L by omega) (by omega)) dL_law_462 ?_
  refine g_asi (show _ = a1 from ha1.symm) ?_
  refine lv_i2l (v := a1.toInt64) hx hb dL_law_463 rfl ?_
  refine lv_bipush (v := nI 32) hx hb dL_law_464 (by decide) ?_
  refine lv_lshl (v := a1.toInt64 <<< ((nI 32).toInt64 &&& 63)) hx hb dL_law_466 rfl ?_
  refine lv_aload_n hx hb dL_law_467 rfl (lv_at hl 1 rfl) ?_
  refine lv_iload hx hb dL_law_468 (lv_at hl 0 rfl) ?_
  refine lv_iconst (v := nI 2) hx hb dL_law_470 (by decide) ?_
  refine lv_iadd hx hb dL_law_471 ?_
  refine g_asi (show _ = nI (i + 2) from (nI_add _ _).trans (by rfl)) ?_
  refine va_sld hx hb hX hbl hbA hW.2.1 (vp_in_nI (show i + 2 < L by omega) (by omega)) dL_law_472 ?_
  refine g_asi (show _ = a2 from ha2.symm) ?_
  refine lv_i2l (v := a2.toInt64) hx hb dL_law_473 rfl ?_
  refine lv_ldc2 (v := 4294967295) hx hb hown (hts _ (show Cond.constantLong RL 92 (4294967295) ∈ _ by decide +kernel)) dL_law_474 ?_
  refine lv_land hx hb dL_law_477 ?_
  refine lv_lor hx hb dL_law_478 ?_
  refine lv_topl (fun mo emo => ?_)
  refine lv_aload_n hx hb dL_law_479 rfl (lv_at hl 1 rfl) ?_
  refine lv_iload hx hb dL_law_480 (lv_at hl 0 rfl) ?_
  refine lv_iconst (v := nI 3) hx hb dL_law_482 (by decide) ?_
  refine lv_iadd hx hb dL_law_483 ?_
  refine g_asi (show _ = nI (i + 3) from (nI_add _ _).trans (by rfl)) ?_
  refine va_sld hx hb hX hbl hbA hW.2.1 (vp_in_nI (show i + 3 < L by omega) (by omega)) dL_law_484 ?_
  refine g_asi (show _ = a3 from ha3.symm) ?_
  refine lv_aload_n hx hb dL_law_485 rfl (lv_at hl 1 rfl) ?_
  refine lv_iload hx hb dL_law_486 (lv_at hl 0 rfl) ?_
  refine lv_iconst (v := nI 4) hx hb dL_law_488 (by decide) ?_
  refine lv_iadd hx hb dL_law_489 ?_
  refine g_asi (show _ = nI (i + 4) from (nI_add _ _).trans (by rfl)) ?_
  refine va_sld hx hb hX hbl hbA hW.2.1 (vp_in_nI (show i + 4 < L by omega) (by omega)) dL_law_490 ?_
  refine g_asi (show _ = a4 from ha4.symm) ?_
  refine lv_aload_n hx hb dL_law_491 rfl (lv_at hl 1 rfl) ?_
  refine lv_iload hx hb dL_law_492 (lv_at hl 0 rfl) ?_
  refine lv_iconst (v := nI 5) hx hb dL_law_494 (by decide) ?_
  refine lv_iadd hx hb dL_law_495 ?_
  refine g_asi (show _ = nI (i + 5) from (nI_add _ _).trans (by rfl)) ?_
  refine va_sld hx hb hX hbl hbA hW.2.1 (vp_in_nI (show i + 5 < L by omega) (by omega)) dL_law_496 ?_
  refine g_asi (show _ = a5 from ha5.symm) ?_
  refine lv_aload_n hx hb dL_law_497 rfl (lv_at hl 1 rfl) ?_
  refine lv_iload hx hb dL_law_498 (lv_at hl 0 rfl) ?_
  refine lv_bipush (v := nI 6) hx hb dL_law_500 (by decide) ?_
  refine lv_iadd hx hb dL_law_502 ?_
  refine g_asi (show _ = nI (i + 6) from (nI_add _ _).trans (by rfl)) ?_
  refine va_sld hx hb hX hbl hbA hW.2.1 (vp_in_nI (show i + 6 < L by omega) (by omega)) dL_law_503 ?_
  refine g_asi (show _ = a6 from ha6.symm) ?_
  refine lv_aload_n hx hb dL_law_504 rfl (lv_at hl 4 rfl) ?_
  refine g_lS (K1 := va_up Kx o (some (9, 1))) (As := [.ref x, .long mo, .int a3, .int a4, .int a5, .int a6, .ref o]) (rest := []) hx hb hml hown hts hN hW (fun a q ha => by
    by_cases e : a = o
    · rw [e] at ha ⊢; rw [va_up_self] at ha; rw [← ha]; exact hKo
    · rw [va_up_ne _ _ e] at ha; exact hKx a q ha) (hTHk _ (fun a q ha => by
    by_cases e : a = o
    · rw [e] at ha ⊢; rw [va_up_self] at ha; rw [← ha]; exact hKo
    · rw [va_up_ne _ _ e] at ha; exact hKx a q ha)) hNc (L_within l Γ Kx F H.size x o kx hxo mo a3 a4 a5 a6 (c_within l hfl Γ Kx F H.size x lb T row h9 ai ad J pts lens d tc nd dt pl dd S lim lk bc bg bp hNT mo a3 a4 a5 a6) (fun v K' F' h => by obtain ⟨_, _, _, hv⟩ := h; exact ⟨_, hv⟩) (fun E hE => hE.1)) gL_law_L_within rfl (na := 7) rfl (by decide +kernel) ⟨by show _ ≤ 2048; decide, by show _ ≤ 84000; decide⟩ ⟨by show _ ≤ 601024; omega, by show _ ≤ 7293000; omega⟩ rfl hl.1 (Nat.le_of_ble_eq_true rfl) dL_law_505 (fun v K1 F1 H locs hp hA1 hW hsz1 => ?_)
  obtain ⟨k, Kx', hv, hK1, hKxo, hcase⟩ := hp
  subst hv
  subst hK1
  obtain ⟨m1, m2, m3, m4⟩ := mid_x hKx hKm hdis hKo hxo hmo hlt hA1 hKxo
  have hF2m : ∀ a q i, Km a = some q → fMg F F1 (va_up Kx' o (some (9, 1))) a i = F a i := fun a q i ha => fMg_old (m2 a q ha).2
  have hF2x : ∀ a q i, Kx' a = some q → fMg F F1 (va_up Kx' o (some (9, 1))) a i = F1 a i := fun a q i ha => fMg_new (show va_up Kx' o (some (9, 1)) a = some q by rw [va_up_ne _ _ (fun e => by rw [e, hKxo] at ha; cases ha)]; exact ha)
  have hF2o : fMg F F1 (va_up Kx' o (some (9, 1))) o 0 = F1 o 0 := fMg_new (va_up_self _ _ _)
  have m2' : ∀ a q, Km a = some q → kMg K (va_up Kx o (some (9, 1))) (va_up Kx' o (some (9, 1))) a = some q := fun a q ha => (m2 a q ha).1
  generalize kMg K (va_up Kx o (some (9, 1))) (va_up Kx' o (some (9, 1))) = K2 at hW m1 m2' m4
  generalize fMg F F1 (va_up Kx' o (some (9, 1))) = F2 at hW hF2m hF2x hF2o
  have hRS2 := RS_off hk hRS hF2m
  show W _ _ _ _ _ _ _ _ _ _ _ _ _ _ _ (F0 m 508 ls [.int (nI k)])
  refine lv_istore (lv' := [(5, .int (nI k)), (4, .int (nI i)), (0, .ref b), (1, .ref x), (2, .ref m9), (3, .ref o)]) hx hb dL_law_508 hl (by decide) rfl (fun ls hl => ?_)
  refine lv_aload_n hx hb dL_law_510 rfl (lv_at hl 4 rfl) ?_
  refine lv_aload_n hx hb dL_law_511 rfl (lv_at hl 2 rfl) ?_
  refine lv_iload hx hb dL_law_512 (lv_at hl 1 rfl) ?_
  refine lv_iconst (v := nI 1) hx hb dL_law_514 (by decide) ?_
  refine lv_iadd hx hb dL_law_515 ?_
  refine g_asi (show _ = nI (i + 1) from (nI_add _ _).trans (by rfl)) ?_
  refine va_sld hx hb hX hbl hbA hW.2.1 (vp_in_nI (show i + 1 < L by omega) (by omega)) dL_law_516 ?_
  refine g_asi (show _ = a1 from ha1.symm) ?_
  refine lv_i2l (v := a1.toInt64) hx hb dL_law_517 rfl ?_
  refine lv_bipush (v := nI 32) hx hb dL_law_518 (by decide) ?_
  refine lv_lshl (v := a1.toInt64 <<< ((nI 32).toInt64 &&& 63)) hx hb dL_law_520 rfl ?_
  refine lv_aload_n hx hb dL_law_521 rfl (lv_at hl 2 rfl) ?_
  refine lv_iload hx hb dL_law_522 (lv_at hl 1 rfl) ?_
  refine lv_iconst (v := nI 2) hx hb dL_law_524 (by decide) ?_
  refine lv_iadd hx hb dL_law_525 ?_
  refine g_asi (show _ = nI (i + 2) from (nI_add _ _).trans (by rfl)) ?_
  refine va_sld hx hb hX hbl hbA hW.2.1 (vp_in_nI (show i + 2 < L by omega) (by omega)) dL_law_526 ?_
  refine g_asi (show _ = a2 from ha2.symm) ?_
  refine lv_i2l (v := a2.toInt64) hx hb dL_law_527 rfl ?_
  refine lv_ldc2 (v := 4294967295) hx hb hown (hts _ (show Cond.constantLong RL 92 (4294967295) ∈ _ by decide +kernel)) dL_law_528 ?_
  refine lv_land hx hb dL_law_531 ?_
  refine lv_lor hx hb dL_law_532 ?_
  refine g_asl (show _ = mo from emo.symm) ?_
  refine lv_aload_n hx hb dL_law_533 rfl (lv_at hl 2 rfl) ?_
  refine lv_iload hx hb dL_law_534 (lv_at hl 1 rfl) ?_
  refine lv_iconst (v := nI 3) hx hb dL_law_536 (by decide) ?_
  refine lv_iadd hx hb dL_law_537 ?_
  refine g_asi (show _ = nI (i + 3) from (nI_add _ _).trans (by rfl)) ?_
  refine va_sld hx hb hX hbl hbA hW.2.1 (vp_in_nI (show i + 3 < L by omega) (by omega)) dL_law_538 ?_
  refine g_asi (show _ = a3 from ha3.symm) ?_
  refine lv_aload_n hx hb dL_law_539 rfl (lv_at hl 2 rfl) ?_
  refine lv_iload hx hb dL_law_540 (lv_at hl 1 rfl) ?_
  refine lv_iconst (v := nI 4) hx hb dL_law_542 (by decide) ?_
  refine lv_iadd hx hb dL_law_543 ?_
  refine g_asi (show _ = nI (i + 4) from (nI_add _ _).trans (by rfl)) ?_
  refine va_sld hx hb hX hbl hbA hW.2.1 (vp_in_nI (show i + 4 < L by omega) (by omega)) dL_law_544 ?_
  refine g_asi (show _ = a4 from ha4.symm) ?_
  refine lv_aload_n hx hb dL_law_545 rfl (lv_at hl 2 rfl) ?_
  refine lv_iload hx hb dL_law_546 (lv_at hl 1 rfl) ?_
  refine lv_iconst (v := nI 5) hx hb dL_law_548 (by decide) ?_
  refine lv_iadd hx hb dL_law_549 ?_
  refine g_asi (show _ = nI (i + 5) from (nI_add _ _).trans (by rfl)) ?_
  refine va_sld hx hb hX hbl hbA hW.2.1 (vp_in_nI (show i + 5 < L by omega) (by omega)) dL_law_550 ?_
  refine g_asi (show _ = a5 from ha5.symm) ?_
  refine lv_aload_n hx hb dL_law_551 rfl (lv_at hl 2 rfl) ?_
  refine lv_iload hx hb dL_law_552 (lv_at hl 1 rfl) ?_
  refine lv_bipush (v := nI 6) hx hb dL_law_554 (by decide) ?_
  refine lv_iadd hx hb dL_law_556 ?_
  refine g_asi (show _ = nI (i + 6) from (nI_add _ _).trans (by rfl)) ?_
  refine va_sld hx hb hX hbl hbA hW.2.1 (vp_in_nI (show i + 6 < L by omega) (by omega)) dL_law_557 ?_
  refine g_asi (show _ = a6 from ha6.symm) ?_
  refine g_mVF (K1 := Km) (As := [.long mo, .int a3, .int a4, .int a5, .int a6]) (b := m9) (rest := []) hx hb hml hown hts hN hW m2' (m_within l Γ Km F2 H.size m9 B hk d (ndP nd dt) (tMap (fL dt dd) tc) S lk bc bg bp hRS2 hd4 hoP h60 mo a3 a4 a5 a6) gL_law_X7_within rfl hk.1 (by decide) rfl (na := 5) rfl (by decide +kernel) ⟨by show _ ≤ 2048; decide, by show _ ≤ 84000; decide⟩ ⟨by show _ ≤ 601024; omega, by show _ ≤ 7293000; omega⟩ rfl hl.1 (Nat.le_of_ble_eq_true rfl) dL_law_558 (fun v K3 F3 H locs hp hA3 hW hsz2 => ?_)
  obtain ⟨th, r2, hv, hK3, hth, htR, hsame, hzero⟩ := hp
  subst hv
  subst hK3
  have n1 := mid_m m2'
  have hF3m : ∀ a q i, K3 a = some q → fMg F2 F3 K3 a i = F3 a i := fun a q i ha => fMg_new ha
  have hF3x : ∀ a i, K3 a = none → fMg F2 F3 K3 a i = F2 a i := fun a i ha => fMg_old ha
  generalize kMg K2 K3 K3 = K4 at hW n1
  generalize fMg F2 F3 K3 = F4 at hW hF3m hF3x
  have hth4 : F4 m9 0 = .int (nI th) := (hF3m m9 _ 0 hk.1).trans hth
  have km4 : K4 m9 = some (7, 0) := n1 _ _ (m2' _ _ hk.1)
  have ko4 : K4 o = some (9, 1) := n1 _ _ m4
  have hx4 : ∀ a q, Kx' a = some q → K4 a = some q := fun a q ha => n1 a q (m1 a q ha)
  have hm4 : ∀ a q, K3 a = some q → K4 a = some q := fun a q ha => n1 a q (m2' a q ha)
  have hfx : ∀ a q i, Kx' a = some q → F4 a i = F1 a i := fun a q i ha => (hF3x a i (m3 a q ha)).trans (hF2x a q i ha)
  have hfo : F4 o 0 = F1 o 0 := (hF3x o 0 hmo).trans hF2o
  rcases hcase with ⟨hk0, r, F5, ⟨q, hq, hrq⟩, hfr, hFo⟩ | ⟨hk0, hpx1, hKK, hfr⟩ | ⟨hk0, hpx2, hKK, hfr⟩
  all_goals show W _ _ _ _ _ _ _ _ _ _ _ _ _ _ _ (F0 m 561 ls [.int r2])
  · subst hk0
    obtain ⟨hm9, hpl, hNT9, hv⟩ := hq
    cases hv
    have hkR : thR 0 (¬ mo < 0 ∧ okPl d a3 a4 a5 a6 = true) True := Or.inr (Or.inr ⟨rfl, ⟨hm9, hpl⟩, trivial⟩)
    have hzero := hzero (thR_uniq htR hkR)
    obtain ⟨hr2, hRS4⟩ := hzero
    have hnew : LVx K4 F4 o x m9 := ⟨_, _, lb, T, row, h9, ai, ad, J, pts, lens, B, d, _, _, _, _, _, _, _, lk, bc, bg, bp, hx4, hm4, m3, ko4, hKxo, hmo, NT_world hNT9 (fun a q i ha => (hfx a q i ha).trans (hfr a q i ha)), hk, RS_off hk hRS4 hF3m⟩
    have hth0 : th = 0 := thR_uniq htR hkR
    refine lv_istore (lv' := [(6, .int r2), (5, .int (nI 0)), (4, .int (nI i)), (0, .ref b), (1, .ref x), (2, .ref m9), (3, .ref o)]) hx hb dL_law_561 hl (by decide) rfl (fun ls hl => ?_)
    refine lv_aload_n hx hb dL_law_563 rfl (lv_at hl 5 rfl) ?_
    refine g_cV (v := (some (.int (nI th)))) (As := []) (b := m9) (rest := []) hx hb hml hown hts hN hW.1 (m_thrown l Γ K4 F4 m9 (nI th) km4 hth4) gL_law_X7_thrown rfl km4 (by decide) rfl (na := 0) rfl (by decide +kernel) ⟨by show _ ≤ 2048; decide, by show _ ≤ 84000; decide⟩ ⟨by show _ ≤ 601024; omega, by show _ ≤ 7293000; omega⟩ rfl hl.1 (Nat.le_of_ble_eq_true rfl) dL_law_564 ?_
    show W _ _ _ _ _ _ _ _ _ _ _ _ _ _ _ (F0 m 567 ls [.int (nI th)])
    refine lv_iload hx hb dL_law_567 (lv_at hl 1 rfl) ?_
    refine lv_icmp_eq (tgt := 574) hx hb dL_law_569 (by decide) (fun z1 => ?_) (fun z1 => ?_)
    · refine lv_iload hx hb dL_law_574 (lv_at hl 1 rfl) ?_
      refine lv_if_ne (tgt := 591) hx hb dL_law_576 (by decide) (fun z2 => ?_) (fun z2 => ?_)
      · have z2 : ¬ 0 = 0 := fun z => z2 ((nI_eq0 (by omega)).mpr z)
        exact absurd rfl z2
      · have z2 : 0 = 0 := (nI_eq0 (by omega)).mp z2
        refine lv_aload_n hx hb dL_law_579 rfl (lv_at hl 6 rfl) ?_
        refine lv_iconst (v := nI 0) hx hb dL_law_580 (by decide) ?_
        refine g_lald (j := 0) hx hb hN hW.1 ko4 (by decide) (show _ = nI 0 from rfl) (by decide) (v := .long r) (hfo.trans hFo) dL_law_581 ?_
        refine lv_iload hx hb dL_law_582 (lv_at hl 0 rfl) ?_
        refine lv_i2l (v := r2.toInt64) hx hb dL_law_584 rfl ?_
        refine W.lcmp hx hb dL_law_585 ?_
        refine lv_if_eq (tgt := 591) hx hb dL_law_586 (by decide) (fun z3 => ?_) (fun z3 => ?_)
        · have z3 : _ := (lg_cmp_eq _ _).mp z3
          refine lv_goto (tgt := 1173) hx hb dL_law_591 (by decide) ?_
          refine W.widen (k := cl + 2) (n := sl + 13) (by omega) (by omega) ?_
          exact kk K4 F4 H locs ls hnew hW (lv_sub hl [2, 3, 4, 5, 6] rfl)
        · have z3 : ¬ _ := fun z => z3 ((lg_cmp_eq _ _).mpr z)
          exact absurd (by rw [hrq, hr2]) z3
    · exact absurd (by rw [hth0]) z1
  · subst hk0
    subst hKK
    have hpx1 := hpx1.2
    have hkR : thR 1 (¬ mo < 0 ∧ okPl d a3 a4 a5 a6 = true) True := Or.inl ⟨rfl, hpx1⟩
    have hth0b : th = 1 := thR_uniq htR hkR
    have hnew : LVx K4 F4 o x m9 := ⟨_, _, lb, T, row, h9, ai, ad, J, pts, lens, B, d, tc, nd, dt, pl, dd, S, lim, lk, bc, bg, bp, hx4, hm4, m3, ko4, hKxo, hmo, NT_world hNT (fun a q i ha => (hfx a q i ha).trans (hfr a q i ha)), hk, RS_off hk (hsame (by rw [hth0b]; decide)) hF3m⟩
    have hth0 : th = 1 := thR_uniq htR hkR
    refine lv_istore (lv' := [(6, .int r2), (5, .int (nI 1)), (4, .int (nI i)), (0, .ref b), (1, .ref x), (2, .ref m9), (3, .ref o)]) hx hb dL_law_561 hl (by decide) rfl (fun ls hl => ?_)
    refine lv_aload_n hx hb dL_law_563 rfl (lv_at hl 5 rfl) ?_
    refine g_cV (v := (some (.int (nI th)))) (As := []) (b := m9) (rest := []) hx hb hml hown hts hN hW.1 (m_thrown l Γ K4 F4 m9 (nI th) km4 hth4) gL_law_X7_thrown rfl km4 (by decide) rfl (na := 0) rfl (by decide +kernel) ⟨by show _ ≤ 2048; decide, by show _ ≤ 84000; decide⟩ ⟨by show _ ≤ 601024; omega, by show _ ≤ 7293000; omega⟩ rfl hl.1 (Nat.le_of_ble_eq_true rfl) dL_law_564 ?_
    show W _ _ _ _ _ _ _ _ _ _ _ _ _ _ _ (F0 m 567 ls [.int (nI th)])
    refine lv_iload hx hb dL_law_567 (lv_at hl 1 rfl) ?_
    refine lv_icmp_eq (tgt := 574) hx hb dL_law_569 (by decide) (fun z1 => ?_) (fun z1 => ?_)
    · refine lv_iload hx hb dL_law_574 (lv_at hl 1 rfl) ?_
      refine lv_if_ne (tgt := 591) hx hb dL_law_576 (by decide) (fun z2 => ?_) (fun z2 => ?_)
      · have z2 : ¬ 1 = 0 := fun z => z2 ((nI_eq0 (by omega)).mpr z)
        refine lv_goto (tgt := 1173) hx hb dL_law_591 (by decide) ?_
        refine W.widen (k := cl + 2) (n := sl + 13) (by omega) (by omega) ?_
        exact kk K4 F4 H locs ls hnew hW (lv_sub hl [2, 3, 4, 5, 6] rfl)
      · have z2 : 1 = 0 := (nI_eq0 (by omega)).mp z2
        exact absurd z2 (by decide)
    · exact absurd (by rw [hth0]) z1
  · subst hk0
    subst hKK
    exact absurd hpx2.1 (by decide)

set_option maxHeartbeats 4000000 in
set_option maxRecDepth 100000 in
theorem s_listed {p : Program} {l : Launch} {e : Env} {s : State} {m : MethodId} {below : List Frame} {meth : Method} {c : Code} {b L : Nat} {xs : Nat → Int32} {Γ : gG} (hC : LCt p l s m meth c b L xs Γ) (hL : L ≤ 3585) (i : Nat) (hi : i + 7 ≤ L) (o x m9 cl sl : Nat) (hcl : cl + 2 ≤ 601024) (hsl : sl + 13 ≤ 7293000)
    (kk : ∀ (K : gK) (F : gF) (H : Heap) (locs : List Loc) (ls : Array Slot), LVx K F o x m9 → gW Γ (fun q : Nat => s.heap.size ≤ q) s.heap K F H locs → lv_has ls 8 [(4, .int (nI i)), (0, .ref b), (1, .ref x), (2, .ref m9), (3, .ref o)] → W p l e room_1 s m #[Value.ref b] below meth c H locs (cl + 2) (sl + 13) (lw_Z below #[Value.ref b] s) (F0 m 1173 ls [])) :
    ∀ (K : gK) (F : gF) (H : Heap) (locs : List Loc) (ls : Array Slot), LVx K F o x m9 → gW Γ (fun q : Nat => s.heap.size ≤ q) s.heap K F H locs → lv_has ls 8 [(4, .int (nI i)), (0, .ref b), (1, .ref x), (2, .ref m9), (3, .ref o)] → W p l e room_1 s m #[Value.ref b] below meth c H locs (cl) (sl) (lw_Z below #[Value.ref b] s) (F0 m 594 ls []) := by
  intro K F H locs ls hLV hW hl
  obtain ⟨⟨hx, hb, hr, hml, hown, hts0, hX, hbl, hlocks, hgv⟩, hN, hT0, hNc, hfl⟩ := hC
  have hbA : ¬ (fun q : Nat => s.heap.size ≤ q) b := Nat.not_le.mpr hbl
  have hown : s.vm.findClass RL = some m.cls := hown
  have hts : ∀ w ∈ wsL_law, w.before #[Value.ref b] s = true := fun w h => hts0 w (wsL_law_in w h)
  obtain ⟨Kx, Km, lb, T, row, h9, ai, ad, J, pts, lens, B, d, tc, nd, dt, pl, dd, S, lim, lk, bc, bg, bp, hKx, hKm, hdis, hKo, hxo, hmo, hNT, hk, hRS⟩ := hLV
  have hp9 := hNT.2.2.2.2.2.2.2.2
  have hAS := AS_NT hNT.2.2.2.2.2.2.2.1 hp9
  have hoP := okP_NT hp9
  have hlc := lcP_nd nd dt
  have h60 : lcP (ndP nd dt) ≤ 60 := by rw [hlc]; exact hp9.2.2.2.2.2.1
  have hd0 := hNT.2.1.1
  have hd4 := hNT.2.1.2
  have hS100 : S.length ≤ 100 := Nat.le_trans hNT.2.2.2.2.2.2.1.2.2.2.2.2.2.2.2.2.1 hNT.2.2.2.2.2.2.1.2.2.2.2.2.2.2.2.2.2.1
  have hid : ∀ i a, i < 100 → nd i = some a → (dt a).1 = i := fun i a hi ha => (hp9.2.1 i a hi ha).2.1
  have hlt : ∀ a q, K a = some q → a < H.size := fun a q ha => (hW.1 a q ha).lt
  have kx : Kx x = some (6, 0) := hNT.1.1
  have hTHk : ∀ K1 : gK, (∀ a q, K1 a = some q → K a = some q) → gTH (gA K1 H.size) s H := fun K1 h1 => gTH.narrow (A := fun q : Nat => s.heap.size ≤ q) (fun q hq => by
    rcases hq with ⟨k, hk⟩ | hq
    · exact hW.2.2.1 q k (h1 q k hk)
    · exact Nat.le_trans hW.2.1.1 hq) (gTH.kept (fun a ha hA => hW.2.1.2.1 a ha hA) hT0)
  obtain ⟨a1, ha1⟩ : ∃ a, a = xs (nI (i + 1)).toNatClampNeg := ⟨_, rfl⟩
  refine lv_aload_n hx hb dL_law_594 rfl (lv_at hl 2 rfl) ?_
  refine lv_aload_n hx hb dL_law_595 rfl (lv_at hl 1 rfl) ?_
  refine lv_iload hx hb dL_law_596 (lv_at hl 0 rfl) ?_
  refine lv_iconst (v := nI 1) hx hb dL_law_598 (by decide) ?_
  refine lv_iadd hx hb dL_law_599 ?_
  refine g_asi (show _ = nI (i + 1) from (nI_add _ _).trans (by rfl)) ?_
  refine va_sld hx hb hX hbl hbA hW.2.1 (vp_in_nI (show i + 1 < L by omega) (by omega)) dL_law_600 ?_
  refine g_asi (show _ = a1 from ha1.symm) ?_
  refine lv_aload_n hx hb dL_law_601 rfl (lv_at hl 4 rfl) ?_
  refine g_lS (K1 := va_up Kx o (some (9, 1))) (As := [.ref x, .int a1, .ref o]) (rest := []) hx hb hml hown hts hN hW (fun a q ha => by
    by_cases e : a = o
    · rw [e] at ha ⊢; rw [va_up_self] at ha; rw [← ha]; exact hKo
    · rw [va_up_ne _ _ e] at ha; exact hKx a q ha) (hTHk _ (fun a q ha => by
    by_cases e : a = o
    · rw [e] at ha ⊢; rw [va_up_self] at ha; rw [← ha]; exact hKo
    · rw [va_up_ne _ _ e] at ha; exact hKx a q ha)) hNc (L_listed l Γ Kx F H.size x o kx hxo a1 (c_listed l hfl Γ Kx F H.size x lb T row h9 ai ad J pts lens d tc nd dt pl dd S lim lk bc bg bp hNT a1) (fun v K' F' h => by obtain ⟨_, _, _, _, _, _, hv⟩ := h; exact ⟨_, hv⟩) (fun E hE => hE.1)) gL_law_L_listed rfl (na := 3) rfl (by decide +kernel) ⟨by show _ ≤ 2048; decide, by show _ ≤ 84000; decide⟩ ⟨by show _ ≤ 601024; omega, by show _ ≤ 7293000; omega⟩ rfl hl.1 (Nat.le_of_ble_eq_true rfl) dL_law_602 (fun v K1 F1 H locs hp hA1 hW hsz1 => ?_)
  obtain ⟨k, Kx', hv, hK1, hKxo, hcase⟩ := hp
  subst hv
  subst hK1
  obtain ⟨m1, m2, m3, m4⟩ := mid_x hKx hKm hdis hKo hxo hmo hlt hA1 hKxo
  have hF2m : ∀ a q i, Km a = some q → fMg F F1 (va_up Kx' o (some (9, 1))) a i = F a i := fun a q i ha => fMg_old (m2 a q ha).2
  have hF2x : ∀ a q i, Kx' a = some q → fMg F F1 (va_up Kx' o (some (9, 1))) a i = F1 a i := fun a q i ha => fMg_new (show va_up Kx' o (some (9, 1)) a = some q by rw [va_up_ne _ _ (fun e => by rw [e, hKxo] at ha; cases ha)]; exact ha)
  have hF2o : fMg F F1 (va_up Kx' o (some (9, 1))) o 0 = F1 o 0 := fMg_new (va_up_self _ _ _)
  have m2' : ∀ a q, Km a = some q → kMg K (va_up Kx o (some (9, 1))) (va_up Kx' o (some (9, 1))) a = some q := fun a q ha => (m2 a q ha).1
  generalize kMg K (va_up Kx o (some (9, 1))) (va_up Kx' o (some (9, 1))) = K2 at hW m1 m2' m4
  generalize fMg F F1 (va_up Kx' o (some (9, 1))) = F2 at hW hF2m hF2x hF2o
  have hRS2 := RS_off hk hRS hF2m
  show W _ _ _ _ _ _ _ _ _ _ _ _ _ _ _ (F0 m 605 ls [.int (nI k)])
  refine lv_istore (lv' := [(5, .int (nI k)), (4, .int (nI i)), (0, .ref b), (1, .ref x), (2, .ref m9), (3, .ref o)]) hx hb dL_law_605 hl (by decide) rfl (fun ls hl => ?_)
  refine lv_aload_n hx hb dL_law_607 rfl (lv_at hl 4 rfl) ?_
  refine lv_aload_n hx hb dL_law_608 rfl (lv_at hl 2 rfl) ?_
  refine lv_iload hx hb dL_law_609 (lv_at hl 1 rfl) ?_
  refine lv_iconst (v := nI 1) hx hb dL_law_611 (by decide) ?_
  refine lv_iadd hx hb dL_law_612 ?_
  refine g_asi (show _ = nI (i + 1) from (nI_add _ _).trans (by rfl)) ?_
  refine va_sld hx hb hX hbl hbA hW.2.1 (vp_in_nI (show i + 1 < L by omega) (by omega)) dL_law_613 ?_
  refine g_asi (show _ = a1 from ha1.symm) ?_
  refine g_mVF (K1 := Km) (As := [.int a1]) (b := m9) (rest := []) hx hb hml hown hts hN hW m2' (m_listed l Γ Km F2 H.size m9 B hk d (ndP nd dt) (tMap (fL dt dd) tc) S lk bc bg bp hRS2 hS100 a1) gL_law_X7_listed rfl hk.1 (by decide) rfl (na := 1) rfl (by decide +kernel) ⟨by show _ ≤ 2048; decide, by show _ ≤ 84000; decide⟩ ⟨by show _ ≤ 601024; omega, by show _ ≤ 7293000; omega⟩ rfl hl.1 (Nat.le_of_ble_eq_true rfl) dL_law_614 (fun v K3 F3 H locs hp hA3 hW hsz2 => ?_)
  obtain ⟨th, r2, hv, hK3, hth, htR, hsame, hzero⟩ := hp
  subst hv
  subst hK3
  have n1 := mid_m m2'
  have hF3m : ∀ a q i, K3 a = some q → fMg F2 F3 K3 a i = F3 a i := fun a q i ha => fMg_new ha
  have hF3x : ∀ a i, K3 a = none → fMg F2 F3 K3 a i = F2 a i := fun a i ha => fMg_old ha
  generalize kMg K2 K3 K3 = K4 at hW n1
  generalize fMg F2 F3 K3 = F4 at hW hF3m hF3x
  have hth4 : F4 m9 0 = .int (nI th) := (hF3m m9 _ 0 hk.1).trans hth
  have km4 : K4 m9 = some (7, 0) := n1 _ _ (m2' _ _ hk.1)
  have ko4 : K4 o = some (9, 1) := n1 _ _ m4
  have hx4 : ∀ a q, Kx' a = some q → K4 a = some q := fun a q ha => n1 a q (m1 a q ha)
  have hm4 : ∀ a q, K3 a = some q → K4 a = some q := fun a q ha => n1 a q (m2' a q ha)
  have hfx : ∀ a q i, Kx' a = some q → F4 a i = F1 a i := fun a q i ha => (hF3x a i (m3 a q ha)).trans (hF2x a q i ha)
  have hfo : F4 o 0 = F1 o 0 := (hF3x o 0 hmo).trans hF2o
  rcases hcase with ⟨hk0, r, F5, ⟨q, hq, hrq⟩, hfr, hFo⟩ | ⟨hk0, hpx1, hKK, hfr⟩ | ⟨hk0, hpx2, hKK, hfr⟩
  all_goals show W _ _ _ _ _ _ _ _ _ _ _ _ _ _ _ (F0 m 617 ls [.int r2])
  · subst hk0
    obtain ⟨hK8, hF8, j, y, e1, hy, hv⟩ := hq
    cases hv
    subst hK8
    rw [hF8] at hfr
    have hkR : thR 0 (¬ a1 < 0 ∧ a1 < nI S.length) True := Or.inr (Or.inr ⟨rfl, (by have hj : j < S.length := (List.getElem?_eq_some_iff.mp hy).1; rw [e1]; exact ⟨nI_nn (by omega), (nI_ltI (by omega) (by omega)).mpr hj⟩), trivial⟩)
    have hzero := hzero (thR_uniq htR hkR)
    have hr2 := hzero j y hy e1
    have hnew : LVx K4 F4 o x m9 := ⟨_, _, lb, T, row, h9, ai, ad, J, pts, lens, B, d, tc, nd, dt, pl, dd, S, lim, lk, bc, bg, bp, hx4, hm4, m3, ko4, hKxo, hmo, NT_world hNT (fun a q i ha => (hfx a q i ha).trans (hfr a q i ha)), hk, RS_off hk hsame hF3m⟩
    have hth0 : th = 0 := thR_uniq htR hkR
    refine lv_istore (lv' := [(6, .int r2), (5, .int (nI 0)), (4, .int (nI i)), (0, .ref b), (1, .ref x), (2, .ref m9), (3, .ref o)]) hx hb dL_law_617 hl (by decide) rfl (fun ls hl => ?_)
    refine lv_aload_n hx hb dL_law_619 rfl (lv_at hl 5 rfl) ?_
    refine g_cV (v := (some (.int (nI th)))) (As := []) (b := m9) (rest := []) hx hb hml hown hts hN hW.1 (m_thrown l Γ K4 F4 m9 (nI th) km4 hth4) gL_law_X7_thrown rfl km4 (by decide) rfl (na := 0) rfl (by decide +kernel) ⟨by show _ ≤ 2048; decide, by show _ ≤ 84000; decide⟩ ⟨by show _ ≤ 601024; omega, by show _ ≤ 7293000; omega⟩ rfl hl.1 (Nat.le_of_ble_eq_true rfl) dL_law_620 ?_
    show W _ _ _ _ _ _ _ _ _ _ _ _ _ _ _ (F0 m 623 ls [.int (nI th)])
    refine lv_iload hx hb dL_law_623 (lv_at hl 1 rfl) ?_
    refine lv_icmp_eq (tgt := 630) hx hb dL_law_625 (by decide) (fun z1 => ?_) (fun z1 => ?_)
    · refine lv_iload hx hb dL_law_630 (lv_at hl 1 rfl) ?_
      refine lv_if_ne (tgt := 647) hx hb dL_law_632 (by decide) (fun z2 => ?_) (fun z2 => ?_)
      · have z2 : ¬ 0 = 0 := fun z => z2 ((nI_eq0 (by omega)).mpr z)
        exact absurd rfl z2
      · have z2 : 0 = 0 := (nI_eq0 (by omega)).mp z2
        refine lv_aload_n hx hb dL_law_635 rfl (lv_at hl 6 rfl) ?_
        refine lv_iconst (v := nI 0) hx hb dL_law_636 (by decide) ?_
        refine g_lald (j := 0) hx hb hN hW.1 ko4 (by decide) (show _ = nI 0 from rfl) (by decide) (v := .long r) (hfo.trans hFo) dL_law_637 ?_
        refine lv_iload hx hb dL_law_638 (lv_at hl 0 rfl) ?_
        refine lv_i2l (v := r2.toInt64) hx hb dL_law_640 rfl ?_
        refine W.lcmp hx hb dL_law_641 ?_
        refine lv_if_eq (tgt := 647) hx hb dL_law_642 (by decide) (fun z3 => ?_) (fun z3 => ?_)
        · have z3 : _ := (lg_cmp_eq _ _).mp z3
          refine lv_goto (tgt := 1173) hx hb dL_law_647 (by decide) ?_
          refine W.widen (k := cl + 2) (n := sl + 13) (by omega) (by omega) ?_
          exact kk K4 F4 H locs ls hnew hW (lv_sub hl [2, 3, 4, 5, 6] rfl)
        · have z3 : ¬ _ := fun z => z3 ((lg_cmp_eq _ _).mpr z)
          exact absurd (by rw [hrq, hr2]) z3
    · exact absurd (by rw [hth0]) z1
  · subst hk0
    subst hKK
    have hpx1 := hpx1.2
    have hkR : thR 1 (¬ a1 < 0 ∧ a1 < nI S.length) True := Or.inl ⟨rfl, hpx1⟩
    have hth0b : th = 1 := thR_uniq htR hkR
    have hnew : LVx K4 F4 o x m9 := ⟨_, _, lb, T, row, h9, ai, ad, J, pts, lens, B, d, tc, nd, dt, pl, dd, S, lim, lk, bc, bg, bp, hx4, hm4, m3, ko4, hKxo, hmo, NT_world hNT (fun a q i ha => (hfx a q i ha).trans (hfr a q i ha)), hk, RS_off hk (hsame) hF3m⟩
    have hth0 : th = 1 := thR_uniq htR hkR
    refine lv_istore (lv' := [(6, .int r2), (5, .int (nI 1)), (4, .int (nI i)), (0, .ref b), (1, .ref x), (2, .ref m9), (3, .ref o)]) hx hb dL_law_617 hl (by decide) rfl (fun ls hl => ?_)
    refine lv_aload_n hx hb dL_law_619 rfl (lv_at hl 5 rfl) ?_
    refine g_cV (v := (some (.int (nI th)))) (As := []) (b := m9) (rest := []) hx hb hml hown hts hN hW.1 (m_thrown l Γ K4 F4 m9 (nI th) km4 hth4) gL_law_X7_thrown rfl km4 (by decide) rfl (na := 0) rfl (by decide +kernel) ⟨by show _ ≤ 2048; decide, by show _ ≤ 84000; decide⟩ ⟨by show _ ≤ 601024; omega, by show _ ≤ 7293000; omega⟩ rfl hl.1 (Nat.le_of_ble_eq_true rfl) dL_law_620 ?_
    show W _ _ _ _ _ _ _ _ _ _ _ _ _ _ _ (F0 m 623 ls [.int (nI th)])
    refine lv_iload hx hb dL_law_623 (lv_at hl 1 rfl) ?_
    refine lv_icmp_eq (tgt := 630) hx hb dL_law_625 (by decide) (fun z1 => ?_) (fun z1 => ?_)
    · refine lv_iload hx hb dL_law_630 (lv_at hl 1 rfl) ?_
      refine lv_if_ne (tgt := 647) hx hb dL_law_632 (by decide) (fun z2 => ?_) (fun z2 => ?_)
      · have z2 : ¬ 1 = 0 := fun z => z2 ((nI_eq0 (by omega)).mpr z)
        refine lv_goto (tgt := 1173) hx hb dL_law_647 (by decide) ?_
        refine W.widen (k := cl + 2) (n := sl + 13) (by omega) (by omega) ?_
        exact kk K4 F4 H locs ls hnew hW (lv_sub hl [2, 3, 4, 5, 6] rfl)
      · have z2 : 1 = 0 := (nI_eq0 (by omega)).mp z2
        exact absurd z2 (by decide)
    · exact absurd (by rw [hth0]) z1
  · subst hk0
    subst hKK
    exact absurd hpx2.1 (by decide)

set_option maxHeartbeats 4000000 in
set_option maxRecDepth 100000 in
theorem s_distance {p : Program} {l : Launch} {e : Env} {s : State} {m : MethodId} {below : List Frame} {meth : Method} {c : Code} {b L : Nat} {xs : Nat → Int32} {Γ : gG} (hC : LCt p l s m meth c b L xs Γ) (hL : L ≤ 3585) (i : Nat) (hi : i + 7 ≤ L) (o x m9 cl sl : Nat) (hcl : cl + 2 ≤ 601024) (hsl : sl + 13 ≤ 7293000)
    (kk : ∀ (K : gK) (F : gF) (H : Heap) (locs : List Loc) (ls : Array Slot), LVx K F o x m9 → gW Γ (fun q : Nat => s.heap.size ≤ q) s.heap K F H locs → lv_has ls 8 [(4, .int (nI i)), (0, .ref b), (1, .ref x), (2, .ref m9), (3, .ref o)] → W p l e room_1 s m #[Value.ref b] below meth c H locs (cl + 2) (sl + 13) (lw_Z below #[Value.ref b] s) (F0 m 1173 ls [])) :
    ∀ (K : gK) (F : gF) (H : Heap) (locs : List Loc) (ls : Array Slot), LVx K F o x m9 → gW Γ (fun q : Nat => s.heap.size ≤ q) s.heap K F H locs → lv_has ls 8 [(4, .int (nI i)), (0, .ref b), (1, .ref x), (2, .ref m9), (3, .ref o)] → W p l e room_1 s m #[Value.ref b] below meth c H locs (cl) (sl) (lw_Z below #[Value.ref b] s) (F0 m 650 ls []) := by
  intro K F H locs ls hLV hW hl
  obtain ⟨⟨hx, hb, hr, hml, hown, hts0, hX, hbl, hlocks, hgv⟩, hN, hT0, hNc, hfl⟩ := hC
  have hbA : ¬ (fun q : Nat => s.heap.size ≤ q) b := Nat.not_le.mpr hbl
  have hown : s.vm.findClass RL = some m.cls := hown
  have hts : ∀ w ∈ wsL_law, w.before #[Value.ref b] s = true := fun w h => hts0 w (wsL_law_in w h)
  obtain ⟨Kx, Km, lb, T, row, h9, ai, ad, J, pts, lens, B, d, tc, nd, dt, pl, dd, S, lim, lk, bc, bg, bp, hKx, hKm, hdis, hKo, hxo, hmo, hNT, hk, hRS⟩ := hLV
  have hp9 := hNT.2.2.2.2.2.2.2.2
  have hAS := AS_NT hNT.2.2.2.2.2.2.2.1 hp9
  have hoP := okP_NT hp9
  have hlc := lcP_nd nd dt
  have h60 : lcP (ndP nd dt) ≤ 60 := by rw [hlc]; exact hp9.2.2.2.2.2.1
  have hd0 := hNT.2.1.1
  have hd4 := hNT.2.1.2
  have hS100 : S.length ≤ 100 := Nat.le_trans hNT.2.2.2.2.2.2.1.2.2.2.2.2.2.2.2.2.1 hNT.2.2.2.2.2.2.1.2.2.2.2.2.2.2.2.2.2.1
  have hid : ∀ i a, i < 100 → nd i = some a → (dt a).1 = i := fun i a hi ha => (hp9.2.1 i a hi ha).2.1
  have hlt : ∀ a q, K a = some q → a < H.size := fun a q ha => (hW.1 a q ha).lt
  have kx : Kx x = some (6, 0) := hNT.1.1
  have hTHk : ∀ K1 : gK, (∀ a q, K1 a = some q → K a = some q) → gTH (gA K1 H.size) s H := fun K1 h1 => gTH.narrow (A := fun q : Nat => s.heap.size ≤ q) (fun q hq => by
    rcases hq with ⟨k, hk⟩ | hq
    · exact hW.2.2.1 q k (h1 q k hk)
    · exact Nat.le_trans hW.2.1.1 hq) (gTH.kept (fun a ha hA => hW.2.1.2.1 a ha hA) hT0)
  obtain ⟨a1, ha1⟩ : ∃ a, a = xs (nI (i + 1)).toNatClampNeg := ⟨_, rfl⟩
  refine lv_aload_n hx hb dL_law_650 rfl (lv_at hl 2 rfl) ?_
  refine lv_aload_n hx hb dL_law_651 rfl (lv_at hl 1 rfl) ?_
  refine lv_iload hx hb dL_law_652 (lv_at hl 0 rfl) ?_
  refine lv_iconst (v := nI 1) hx hb dL_law_654 (by decide) ?_
  refine lv_iadd hx hb dL_law_655 ?_
  refine g_asi (show _ = nI (i + 1) from (nI_add _ _).trans (by rfl)) ?_
  refine va_sld hx hb hX hbl hbA hW.2.1 (vp_in_nI (show i + 1 < L by omega) (by omega)) dL_law_656 ?_
  refine g_asi (show _ = a1 from ha1.symm) ?_
  refine lv_aload_n hx hb dL_law_657 rfl (lv_at hl 4 rfl) ?_
  refine g_lS (K1 := va_up Kx o (some (9, 1))) (As := [.ref x, .int a1, .ref o]) (rest := []) hx hb hml hown hts hN hW (fun a q ha => by
    by_cases e : a = o
    · rw [e] at ha ⊢; rw [va_up_self] at ha; rw [← ha]; exact hKo
    · rw [va_up_ne _ _ e] at ha; exact hKx a q ha) (hTHk _ (fun a q ha => by
    by_cases e : a = o
    · rw [e] at ha ⊢; rw [va_up_self] at ha; rw [← ha]; exact hKo
    · rw [va_up_ne _ _ e] at ha; exact hKx a q ha)) hNc (L_distance l Γ Kx F H.size x o kx hxo a1 (c_distance l hfl Γ Kx F H.size x lb T row h9 ai ad J pts lens d tc nd dt pl dd S lim lk bc bg bp hNT a1) (fun v K' F' h => by obtain ⟨_, _, _, _, _, _, hv⟩ := h; exact ⟨_, hv⟩) (fun E hE => hE.1)) gL_law_L_distance rfl (na := 3) rfl (by decide +kernel) ⟨by show _ ≤ 2048; decide, by show _ ≤ 84000; decide⟩ ⟨by show _ ≤ 601024; omega, by show _ ≤ 7293000; omega⟩ rfl hl.1 (Nat.le_of_ble_eq_true rfl) dL_law_658 (fun v K1 F1 H locs hp hA1 hW hsz1 => ?_)
  obtain ⟨k, Kx', hv, hK1, hKxo, hcase⟩ := hp
  subst hv
  subst hK1
  obtain ⟨m1, m2, m3, m4⟩ := mid_x hKx hKm hdis hKo hxo hmo hlt hA1 hKxo
  have hF2m : ∀ a q i, Km a = some q → fMg F F1 (va_up Kx' o (some (9, 1))) a i = F a i := fun a q i ha => fMg_old (m2 a q ha).2
  have hF2x : ∀ a q i, Kx' a = some q → fMg F F1 (va_up Kx' o (some (9, 1))) a i = F1 a i := fun a q i ha => fMg_new (show va_up Kx' o (some (9, 1)) a = some q by rw [va_up_ne _ _ (fun e => by rw [e, hKxo] at ha; cases ha)]; exact ha)
  have hF2o : fMg F F1 (va_up Kx' o (some (9, 1))) o 0 = F1 o 0 := fMg_new (va_up_self _ _ _)
  have m2' : ∀ a q, Km a = some q → kMg K (va_up Kx o (some (9, 1))) (va_up Kx' o (some (9, 1))) a = some q := fun a q ha => (m2 a q ha).1
  generalize kMg K (va_up Kx o (some (9, 1))) (va_up Kx' o (some (9, 1))) = K2 at hW m1 m2' m4
  generalize fMg F F1 (va_up Kx' o (some (9, 1))) = F2 at hW hF2m hF2x hF2o
  have hRS2 := RS_off hk hRS hF2m
  show W _ _ _ _ _ _ _ _ _ _ _ _ _ _ _ (F0 m 661 ls [.int (nI k)])
  refine lv_istore (lv' := [(5, .int (nI k)), (4, .int (nI i)), (0, .ref b), (1, .ref x), (2, .ref m9), (3, .ref o)]) hx hb dL_law_661 hl (by decide) rfl (fun ls hl => ?_)
  refine lv_aload_n hx hb dL_law_663 rfl (lv_at hl 4 rfl) ?_
  refine lv_aload_n hx hb dL_law_664 rfl (lv_at hl 2 rfl) ?_
  refine lv_iload hx hb dL_law_665 (lv_at hl 1 rfl) ?_
  refine lv_iconst (v := nI 1) hx hb dL_law_667 (by decide) ?_
  refine lv_iadd hx hb dL_law_668 ?_
  refine g_asi (show _ = nI (i + 1) from (nI_add _ _).trans (by rfl)) ?_
  refine va_sld hx hb hX hbl hbA hW.2.1 (vp_in_nI (show i + 1 < L by omega) (by omega)) dL_law_669 ?_
  refine g_asi (show _ = a1 from ha1.symm) ?_
  refine g_mVF (K1 := Km) (As := [.int a1]) (b := m9) (rest := []) hx hb hml hown hts hN hW m2' (m_distance l Γ Km F2 H.size m9 B hk d (ndP nd dt) (tMap (fL dt dd) tc) S lk bc bg bp hRS2 hS100 a1) gL_law_X7_distance rfl hk.1 (by decide) rfl (na := 1) rfl (by decide +kernel) ⟨by show _ ≤ 2048; decide, by show _ ≤ 84000; decide⟩ ⟨by show _ ≤ 601024; omega, by show _ ≤ 7293000; omega⟩ rfl hl.1 (Nat.le_of_ble_eq_true rfl) dL_law_670 (fun v K3 F3 H locs hp hA3 hW hsz2 => ?_)
  obtain ⟨th, r2, hv, hK3, hth, htR, hsame, hzero⟩ := hp
  subst hv
  subst hK3
  have n1 := mid_m m2'
  have hF3m : ∀ a q i, K3 a = some q → fMg F2 F3 K3 a i = F3 a i := fun a q i ha => fMg_new ha
  have hF3x : ∀ a i, K3 a = none → fMg F2 F3 K3 a i = F2 a i := fun a i ha => fMg_old ha
  generalize kMg K2 K3 K3 = K4 at hW n1
  generalize fMg F2 F3 K3 = F4 at hW hF3m hF3x
  have hth4 : F4 m9 0 = .int (nI th) := (hF3m m9 _ 0 hk.1).trans hth
  have km4 : K4 m9 = some (7, 0) := n1 _ _ (m2' _ _ hk.1)
  have ko4 : K4 o = some (9, 1) := n1 _ _ m4
  have hx4 : ∀ a q, Kx' a = some q → K4 a = some q := fun a q ha => n1 a q (m1 a q ha)
  have hm4 : ∀ a q, K3 a = some q → K4 a = some q := fun a q ha => n1 a q (m2' a q ha)
  have hfx : ∀ a q i, Kx' a = some q → F4 a i = F1 a i := fun a q i ha => (hF3x a i (m3 a q ha)).trans (hF2x a q i ha)
  have hfo : F4 o 0 = F1 o 0 := (hF3x o 0 hmo).trans hF2o
  rcases hcase with ⟨hk0, r, F5, ⟨q, hq, hrq⟩, hfr, hFo⟩ | ⟨hk0, hpx1, hKK, hfr⟩ | ⟨hk0, hpx2, hKK, hfr⟩
  all_goals show W _ _ _ _ _ _ _ _ _ _ _ _ _ _ _ (F0 m 673 ls [.long r2])
  · subst hk0
    obtain ⟨hK8, hF8, j, y, e1, hy, hv⟩ := hq
    cases hv
    subst hK8
    rw [hF8] at hfr
    have hkR : thR 0 (¬ a1 < 0 ∧ a1 < nI S.length) True := Or.inr (Or.inr ⟨rfl, (by have hj : j < S.length := (List.getElem?_eq_some_iff.mp hy).1; rw [e1]; exact ⟨nI_nn (by omega), (nI_ltI (by omega) (by omega)).mpr hj⟩), trivial⟩)
    have hzero := hzero (thR_uniq htR hkR)
    have hr2 := hzero j y hy e1
    have hnew : LVx K4 F4 o x m9 := ⟨_, _, lb, T, row, h9, ai, ad, J, pts, lens, B, d, tc, nd, dt, pl, dd, S, lim, lk, bc, bg, bp, hx4, hm4, m3, ko4, hKxo, hmo, NT_world hNT (fun a q i ha => (hfx a q i ha).trans (hfr a q i ha)), hk, RS_off hk hsame hF3m⟩
    have hth0 : th = 0 := thR_uniq htR hkR
    refine lv_lstore (lv' := [(6, .long r2), (5, .int (nI 0)), (4, .int (nI i)), (0, .ref b), (1, .ref x), (2, .ref m9), (3, .ref o)]) hx hb dL_law_673 hl (by decide) rfl (fun ls hl => ?_)
    refine lv_aload_n hx hb dL_law_675 rfl (lv_at hl 5 rfl) ?_
    refine g_cV (v := (some (.int (nI th)))) (As := []) (b := m9) (rest := []) hx hb hml hown hts hN hW.1 (m_thrown l Γ K4 F4 m9 (nI th) km4 hth4) gL_law_X7_thrown rfl km4 (by decide) rfl (na := 0) rfl (by decide +kernel) ⟨by show _ ≤ 2048; decide, by show _ ≤ 84000; decide⟩ ⟨by show _ ≤ 601024; omega, by show _ ≤ 7293000; omega⟩ rfl hl.1 (Nat.le_of_ble_eq_true rfl) dL_law_676 ?_
    show W _ _ _ _ _ _ _ _ _ _ _ _ _ _ _ (F0 m 679 ls [.int (nI th)])
    refine lv_iload hx hb dL_law_679 (lv_at hl 1 rfl) ?_
    refine lv_icmp_eq (tgt := 686) hx hb dL_law_681 (by decide) (fun z1 => ?_) (fun z1 => ?_)
    · refine lv_iload hx hb dL_law_686 (lv_at hl 1 rfl) ?_
      refine lv_if_ne (tgt := 702) hx hb dL_law_688 (by decide) (fun z2 => ?_) (fun z2 => ?_)
      · have z2 : ¬ 0 = 0 := fun z => z2 ((nI_eq0 (by omega)).mpr z)
        exact absurd rfl z2
      · have z2 : 0 = 0 := (nI_eq0 (by omega)).mp z2
        refine lv_aload_n hx hb dL_law_691 rfl (lv_at hl 6 rfl) ?_
        refine lv_iconst (v := nI 0) hx hb dL_law_692 (by decide) ?_
        refine g_lald (j := 0) hx hb hN hW.1 ko4 (by decide) (show _ = nI 0 from rfl) (by decide) (v := .long r) (hfo.trans hFo) dL_law_693 ?_
        refine lv_lload hx hb dL_law_694 (lv_at hl 0 rfl) ?_
        refine W.lcmp hx hb dL_law_696 ?_
        refine lv_if_eq (tgt := 702) hx hb dL_law_697 (by decide) (fun z3 => ?_) (fun z3 => ?_)
        · have z3 : _ := (lg_cmp_eq _ _).mp z3
          refine lv_goto (tgt := 1173) hx hb dL_law_702 (by decide) ?_
          refine W.widen (k := cl + 2) (n := sl + 13) (by omega) (by omega) ?_
          exact kk K4 F4 H locs ls hnew hW (lv_sub hl [2, 3, 4, 5, 6] rfl)
        · have z3 : ¬ _ := fun z => z3 ((lg_cmp_eq _ _).mpr z)
          exact absurd (by rw [hrq, hr2]) z3
    · exact absurd (by rw [hth0]) z1
  · subst hk0
    subst hKK
    have hpx1 := hpx1.2
    have hkR : thR 1 (¬ a1 < 0 ∧ a1 < nI S.length) True := Or.inl ⟨rfl, hpx1⟩
    have hth0b : th = 1 := thR_uniq htR hkR
    have hnew : LVx K4 F4 o x m9 := ⟨_, _, lb, T, row, h9, ai, ad, J, pts, lens, B, d, tc, nd, dt, pl, dd, S, lim, lk, bc, bg, bp, hx4, hm4, m3, ko4, hKxo, hmo, NT_world hNT (fun a q i ha => (hfx a q i ha).trans (hfr a q i ha)), hk, RS_off hk (hsame) hF3m⟩
    have hth0 : th = 1 := thR_uniq htR hkR
    refine lv_lstore (lv' := [(6, .long r2), (5, .int (nI 1)), (4, .int (nI i)), (0, .ref b), (1, .ref x), (2, .ref m9), (3, .ref o)]) hx hb dL_law_673 hl (by decide) rfl (fun ls hl => ?_)
    refine lv_aload_n hx hb dL_law_675 rfl (lv_at hl 5 rfl) ?_
    refine g_cV (v := (some (.int (nI th)))) (As := []) (b := m9) (rest := []) hx hb hml hown hts hN hW.1 (m_thrown l Γ K4 F4 m9 (nI th) km4 hth4) gL_law_X7_thrown rfl km4 (by decide) rfl (na := 0) rfl (by decide +kernel) ⟨by show _ ≤ 2048; decide, by show _ ≤ 84000; decide⟩ ⟨by show _ ≤ 601024; omega, by show _ ≤ 7293000; omega⟩ rfl hl.1 (Nat.le_of_ble_eq_true rfl) dL_law_676 ?_
    show W _ _ _ _ _ _ _ _ _ _ _ _ _ _ _ (F0 m 679 ls [.int (nI th)])
    refine lv_iload hx hb dL_law_679 (lv_at hl 1 rfl) ?_
    refine lv_icmp_eq (tgt := 686) hx hb dL_law_681 (by decide) (fun z1 => ?_) (fun z1 => ?_)
    · refine lv_iload hx hb dL_law_686 (lv_at hl 1 rfl) ?_
      refine lv_if_ne (tgt := 702) hx hb dL_law_688 (by decide) (fun z2 => ?_) (fun z2 => ?_)
      · have z2 : ¬ 1 = 0 := fun z => z2 ((nI_eq0 (by omega)).mpr z)
        refine lv_goto (tgt := 1173) hx hb dL_law_702 (by decide) ?_
        refine W.widen (k := cl + 2) (n := sl + 13) (by omega) (by omega) ?_
        exact kk K4 F4 H locs ls hnew hW (lv_sub hl [2, 3, 4, 5, 6] rfl)
      · have z2 : 1 = 0 := (nI_eq0 (by omega)).mp z2
        exact absurd z2 (by decide)
    · exact absurd (by rw [hth0]) z1
  · subst hk0
    subst hKK
    exact absurd hpx2.1 (by decide)

set_option maxHeartbeats 4000000 in
set_option maxRecDepth 100000 in
theorem s_inBox {p : Program} {l : Launch} {e : Env} {s : State} {m : MethodId} {below : List Frame} {meth : Method} {c : Code} {b L : Nat} {xs : Nat → Int32} {Γ : gG} (hC : LCt p l s m meth c b L xs Γ) (hL : L ≤ 3585) (i : Nat) (hi : i + 7 ≤ L) (o x m9 cl sl : Nat) (hcl : cl + 2 ≤ 601024) (hsl : sl + 13 ≤ 7293000)
    (kk : ∀ (K : gK) (F : gF) (H : Heap) (locs : List Loc) (ls : Array Slot), LVx K F o x m9 → gW Γ (fun q : Nat => s.heap.size ≤ q) s.heap K F H locs → lv_has ls 8 [(4, .int (nI i)), (0, .ref b), (1, .ref x), (2, .ref m9), (3, .ref o)] → W p l e room_1 s m #[Value.ref b] below meth c H locs (cl + 2) (sl + 13) (lw_Z below #[Value.ref b] s) (F0 m 1173 ls [])) :
    ∀ (K : gK) (F : gF) (H : Heap) (locs : List Loc) (ls : Array Slot), LVx K F o x m9 → gW Γ (fun q : Nat => s.heap.size ≤ q) s.heap K F H locs → lv_has ls 8 [(4, .int (nI i)), (0, .ref b), (1, .ref x), (2, .ref m9), (3, .ref o)] → W p l e room_1 s m #[Value.ref b] below meth c H locs (cl) (sl) (lw_Z below #[Value.ref b] s) (F0 m 718 ls []) := by
  intro K F H locs ls hLV hW hl
  obtain ⟨⟨hx, hb, hr, hml, hown, hts0, hX, hbl, hlocks, hgv⟩, hN, hT0, hNc, hfl⟩ := hC
  have hbA : ¬ (fun q : Nat => s.heap.size ≤ q) b := Nat.not_le.mpr hbl
  have hown : s.vm.findClass RL = some m.cls := hown
  have hts : ∀ w ∈ wsL_law, w.before #[Value.ref b] s = true := fun w h => hts0 w (wsL_law_in w h)
  obtain ⟨Kx, Km, lb, T, row, h9, ai, ad, J, pts, lens, B, d, tc, nd, dt, pl, dd, S, lim, lk, bc, bg, bp, hKx, hKm, hdis, hKo, hxo, hmo, hNT, hk, hRS⟩ := hLV
  have hp9 := hNT.2.2.2.2.2.2.2.2
  have hAS := AS_NT hNT.2.2.2.2.2.2.2.1 hp9
  have hoP := okP_NT hp9
  have hlc := lcP_nd nd dt
  have h60 : lcP (ndP nd dt) ≤ 60 := by rw [hlc]; exact hp9.2.2.2.2.2.1
  have hd0 := hNT.2.1.1
  have hd4 := hNT.2.1.2
  have hS100 : S.length ≤ 100 := Nat.le_trans hNT.2.2.2.2.2.2.1.2.2.2.2.2.2.2.2.2.1 hNT.2.2.2.2.2.2.1.2.2.2.2.2.2.2.2.2.2.1
  have hid : ∀ i a, i < 100 → nd i = some a → (dt a).1 = i := fun i a hi ha => (hp9.2.1 i a hi ha).2.1
  have hlt : ∀ a q, K a = some q → a < H.size := fun a q ha => (hW.1 a q ha).lt
  have kx : Kx x = some (6, 0) := hNT.1.1
  have hTHk : ∀ K1 : gK, (∀ a q, K1 a = some q → K a = some q) → gTH (gA K1 H.size) s H := fun K1 h1 => gTH.narrow (A := fun q : Nat => s.heap.size ≤ q) (fun q hq => by
    rcases hq with ⟨k, hk⟩ | hq
    · exact hW.2.2.1 q k (h1 q k hk)
    · exact Nat.le_trans hW.2.1.1 hq) (gTH.kept (fun a ha hA => hW.2.1.2.1 a ha hA) hT0)
  obtain ⟨a1, ha1⟩ : ∃ a, a = xs (nI (i + 1)).toNatClampNeg := ⟨_, rfl⟩
  obtain ⟨a2, ha2⟩ : ∃ a, a = xs (nI (i + 2)).toNatClampNeg := ⟨_, rfl⟩
  obtain ⟨a3, ha3⟩ : ∃ a, a = xs (nI (i + 3)).toNatClampNeg := ⟨_, rfl⟩
  obtain ⟨a4, ha4⟩ : ∃ a, a = xs (nI (i + 4)).toNatClampNeg := ⟨_, rfl⟩
  obtain ⟨a5, ha5⟩ : ∃ a, a = xs (nI (i + 5)).toNatClampNeg := ⟨_, rfl⟩
  obtain ⟨a6, ha6⟩ : ∃ a, a = xs (nI (i + 6)).toNatClampNeg := ⟨_, rfl⟩
  refine lv_aload_n hx hb dL_law_718 rfl (lv_at hl 2 rfl) ?_
  refine lv_aload_n hx hb dL_law_719 rfl (lv_at hl 1 rfl) ?_
  refine lv_iload hx hb dL_law_720 (lv_at hl 0 rfl) ?_
  refine lv_iconst (v := nI 1) hx hb dL_law_722 (by decide) ?_
  refine lv_iadd hx hb dL_law_723 ?_
  refine g_asi (show _ = nI (i + 1) from (nI_add _ _).trans (by rfl)) ?_
  refine va_sld hx hb hX hbl hbA hW.2.1 (vp_in_nI (show i + 1 < L by omega) (by omega)) dL_law_724 ?_
  refine g_asi (show _ = a1 from ha1.symm) ?_
  refine lv_aload_n hx hb dL_law_725 rfl (lv_at hl 1 rfl) ?_
  refine lv_iload hx hb dL_law_726 (lv_at hl 0 rfl) ?_
  refine lv_iconst (v := nI 2) hx hb dL_law_728 (by decide) ?_
  refine lv_iadd hx hb dL_law_729 ?_
  refine g_asi (show _ = nI (i + 2) from (nI_add _ _).trans (by rfl)) ?_
  refine va_sld hx hb hX hbl hbA hW.2.1 (vp_in_nI (show i + 2 < L by omega) (by omega)) dL_law_730 ?_
  refine g_asi (show _ = a2 from ha2.symm) ?_
  refine lv_aload_n hx hb dL_law_731 rfl (lv_at hl 1 rfl) ?_
  refine lv_iload hx hb dL_law_732 (lv_at hl 0 rfl) ?_
  refine lv_iconst (v := nI 3) hx hb dL_law_734 (by decide) ?_
  refine lv_iadd hx hb dL_law_735 ?_
  refine g_asi (show _ = nI (i + 3) from (nI_add _ _).trans (by rfl)) ?_
  refine va_sld hx hb hX hbl hbA hW.2.1 (vp_in_nI (show i + 3 < L by omega) (by omega)) dL_law_736 ?_
  refine g_asi (show _ = a3 from ha3.symm) ?_
  refine lv_aload_n hx hb dL_law_737 rfl (lv_at hl 1 rfl) ?_
  refine lv_iload hx hb dL_law_738 (lv_at hl 0 rfl) ?_
  refine lv_iconst (v := nI 4) hx hb dL_law_740 (by decide) ?_
  refine lv_iadd hx hb dL_law_741 ?_
  refine g_asi (show _ = nI (i + 4) from (nI_add _ _).trans (by rfl)) ?_
  refine va_sld hx hb hX hbl hbA hW.2.1 (vp_in_nI (show i + 4 < L by omega) (by omega)) dL_law_742 ?_
  refine g_asi (show _ = a4 from ha4.symm) ?_
  refine lv_aload_n hx hb dL_law_743 rfl (lv_at hl 1 rfl) ?_
  refine lv_iload hx hb dL_law_744 (lv_at hl 0 rfl) ?_
  refine lv_iconst (v := nI 5) hx hb dL_law_746 (by decide) ?_
  refine lv_iadd hx hb dL_law_747 ?_
  refine g_asi (show _ = nI (i + 5) from (nI_add _ _).trans (by rfl)) ?_
  refine va_sld hx hb hX hbl hbA hW.2.1 (vp_in_nI (show i + 5 < L by omega) (by omega)) dL_law_748 ?_
  refine g_asi (show _ = a5 from ha5.symm) ?_
  refine lv_aload_n hx hb dL_law_749 rfl (lv_at hl 1 rfl) ?_
  refine lv_iload hx hb dL_law_750 (lv_at hl 0 rfl) ?_
  refine lv_bipush (v := nI 6) hx hb dL_law_752 (by decide) ?_
  refine lv_iadd hx hb dL_law_754 ?_
  refine g_asi (show _ = nI (i + 6) from (nI_add _ _).trans (by rfl)) ?_
  refine va_sld hx hb hX hbl hbA hW.2.1 (vp_in_nI (show i + 6 < L by omega) (by omega)) dL_law_755 ?_
  refine g_asi (show _ = a6 from ha6.symm) ?_
  refine lv_aload_n hx hb dL_law_756 rfl (lv_at hl 4 rfl) ?_
  refine g_lS (K1 := va_up Kx o (some (9, 1))) (As := [.ref x, .int a1, .int a2, .int a3, .int a4, .int a5, .int a6, .ref o]) (rest := []) hx hb hml hown hts hN hW (fun a q ha => by
    by_cases e : a = o
    · rw [e] at ha ⊢; rw [va_up_self] at ha; rw [← ha]; exact hKo
    · rw [va_up_ne _ _ e] at ha; exact hKx a q ha) (hTHk _ (fun a q ha => by
    by_cases e : a = o
    · rw [e] at ha ⊢; rw [va_up_self] at ha; rw [← ha]; exact hKo
    · rw [va_up_ne _ _ e] at ha; exact hKx a q ha)) hNc (L_inBox l Γ Kx F H.size x o kx hxo a1 a2 a3 a4 a5 a6 (c_inBox l hfl Γ Kx F H.size x lb T row h9 ai ad J pts lens d tc nd dt pl dd S lim lk bc bg bp hNT a1 a2 a3 a4 a5 a6) (fun v K' F' h => by obtain ⟨_, _, _, _, _, _, _, _, hv⟩ := h; exact ⟨_, hv⟩) (fun E hE => hE.1)) gL_law_L_inBox rfl (na := 8) rfl (by decide +kernel) ⟨by show _ ≤ 2048; decide, by show _ ≤ 84000; decide⟩ ⟨by show _ ≤ 601024; omega, by show _ ≤ 7293000; omega⟩ rfl hl.1 (Nat.le_of_ble_eq_true rfl) dL_law_757 (fun v K1 F1 H locs hp hA1 hW hsz1 => ?_)
  obtain ⟨k, Kx', hv, hK1, hKxo, hcase⟩ := hp
  subst hv
  subst hK1
  obtain ⟨m1, m2, m3, m4⟩ := mid_x hKx hKm hdis hKo hxo hmo hlt hA1 hKxo
  have hF2m : ∀ a q i, Km a = some q → fMg F F1 (va_up Kx' o (some (9, 1))) a i = F a i := fun a q i ha => fMg_old (m2 a q ha).2
  have hF2x : ∀ a q i, Kx' a = some q → fMg F F1 (va_up Kx' o (some (9, 1))) a i = F1 a i := fun a q i ha => fMg_new (show va_up Kx' o (some (9, 1)) a = some q by rw [va_up_ne _ _ (fun e => by rw [e, hKxo] at ha; cases ha)]; exact ha)
  have hF2o : fMg F F1 (va_up Kx' o (some (9, 1))) o 0 = F1 o 0 := fMg_new (va_up_self _ _ _)
  have m2' : ∀ a q, Km a = some q → kMg K (va_up Kx o (some (9, 1))) (va_up Kx' o (some (9, 1))) a = some q := fun a q ha => (m2 a q ha).1
  generalize kMg K (va_up Kx o (some (9, 1))) (va_up Kx' o (some (9, 1))) = K2 at hW m1 m2' m4
  generalize fMg F F1 (va_up Kx' o (some (9, 1))) = F2 at hW hF2m hF2x hF2o
  have hRS2 := RS_off hk hRS hF2m
  show W _ _ _ _ _ _ _ _ _ _ _ _ _ _ _ (F0 m 760 ls [.int (nI k)])
  refine lv_istore (lv' := [(5, .int (nI k)), (4, .int (nI i)), (0, .ref b), (1, .ref x), (2, .ref m9), (3, .ref o)]) hx hb dL_law_760 hl (by decide) rfl (fun ls hl => ?_)
  refine lv_aload_n hx hb dL_law_762 rfl (lv_at hl 4 rfl) ?_
  refine lv_aload_n hx hb dL_law_763 rfl (lv_at hl 2 rfl) ?_
  refine lv_iload hx hb dL_law_764 (lv_at hl 1 rfl) ?_
  refine lv_iconst (v := nI 1) hx hb dL_law_766 (by decide) ?_
  refine lv_iadd hx hb dL_law_767 ?_
  refine g_asi (show _ = nI (i + 1) from (nI_add _ _).trans (by rfl)) ?_
  refine va_sld hx hb hX hbl hbA hW.2.1 (vp_in_nI (show i + 1 < L by omega) (by omega)) dL_law_768 ?_
  refine g_asi (show _ = a1 from ha1.symm) ?_
  refine lv_aload_n hx hb dL_law_769 rfl (lv_at hl 2 rfl) ?_
  refine lv_iload hx hb dL_law_770 (lv_at hl 1 rfl) ?_
  refine lv_iconst (v := nI 2) hx hb dL_law_772 (by decide) ?_
  refine lv_iadd hx hb dL_law_773 ?_
  refine g_asi (show _ = nI (i + 2) from (nI_add _ _).trans (by rfl)) ?_
  refine va_sld hx hb hX hbl hbA hW.2.1 (vp_in_nI (show i + 2 < L by omega) (by omega)) dL_law_774 ?_
  refine g_asi (show _ = a2 from ha2.symm) ?_
  refine lv_aload_n hx hb dL_law_775 rfl (lv_at hl 2 rfl) ?_
  refine lv_iload hx hb dL_law_776 (lv_at hl 1 rfl) ?_
  refine lv_iconst (v := nI 3) hx hb dL_law_778 (by decide) ?_
  refine lv_iadd hx hb dL_law_779 ?_
  refine g_asi (show _ = nI (i + 3) from (nI_add _ _).trans (by rfl)) ?_
  refine va_sld hx hb hX hbl hbA hW.2.1 (vp_in_nI (show i + 3 < L by omega) (by omega)) dL_law_780 ?_
  refine g_asi (show _ = a3 from ha3.symm) ?_
  refine lv_aload_n hx hb dL_law_781 rfl (lv_at hl 2 rfl) ?_
  refine lv_iload hx hb dL_law_782 (lv_at hl 1 rfl) ?_
  refine lv_iconst (v := nI 4) hx hb dL_law_784 (by decide) ?_
  refine lv_iadd hx hb dL_law_785 ?_
  refine g_asi (show _ = nI (i + 4) from (nI_add _ _).trans (by rfl)) ?_
  refine va_sld hx hb hX hbl hbA hW.2.1 (vp_in_nI (show i + 4 < L by omega) (by omega)) dL_law_786 ?_
  refine g_asi (show _ = a4 from ha4.symm) ?_
  refine lv_aload_n hx hb dL_law_787 rfl (lv_at hl 2 rfl) ?_
  refine lv_iload hx hb dL_law_788 (lv_at hl 1 rfl) ?_
  refine lv_iconst (v := nI 5) hx hb dL_law_790 (by decide) ?_
  refine lv_iadd hx hb dL_law_791 ?_
  refine g_asi (show _ = nI (i + 5) from (nI_add _ _).trans (by rfl)) ?_
  refine va_sld hx hb hX hbl hbA hW.2.1 (vp_in_nI (show i + 5 < L by omega) (by omega)) dL_law_792 ?_
  refine g_asi (show _ = a5 from ha5.symm) ?_
  refine lv_aload_n hx hb dL_law_793 rfl (lv_at hl 2 rfl) ?_
  refine lv_iload hx hb dL_law_794 (lv_at hl 1 rfl) ?_
  refine lv_bipush (v := nI 6) hx hb dL_law_796 (by decide) ?_
  refine lv_iadd hx hb dL_law_798 ?_
  refine g_asi (show _ = nI (i + 6) from (nI_add _ _).trans (by rfl)) ?_
  refine va_sld hx hb hX hbl hbA hW.2.1 (vp_in_nI (show i + 6 < L by omega) (by omega)) dL_law_799 ?_
  refine g_asi (show _ = a6 from ha6.symm) ?_
  refine g_mVF (K1 := Km) (As := [.int a1, .int a2, .int a3, .int a4, .int a5, .int a6]) (b := m9) (rest := []) hx hb hml hown hts hN hW m2' (m_inBox l Γ Km F2 H.size m9 B hk d (ndP nd dt) (tMap (fL dt dd) tc) S lk bc bg bp hRS2 hd4 a1 a2 a3 a4 a5 a6) gL_law_X7_inBox rfl hk.1 (by decide) rfl (na := 6) rfl (by decide +kernel) ⟨by show _ ≤ 2048; decide, by show _ ≤ 84000; decide⟩ ⟨by show _ ≤ 601024; omega, by show _ ≤ 7293000; omega⟩ rfl hl.1 (Nat.le_of_ble_eq_true rfl) dL_law_800 (fun v K3 F3 H locs hp hA3 hW hsz2 => ?_)
  obtain ⟨th, r2, hv, hK3, hth, htR, hsame, hzero⟩ := hp
  subst hv
  subst hK3
  have n1 := mid_m m2'
  have hF3m : ∀ a q i, K3 a = some q → fMg F2 F3 K3 a i = F3 a i := fun a q i ha => fMg_new ha
  have hF3x : ∀ a i, K3 a = none → fMg F2 F3 K3 a i = F2 a i := fun a i ha => fMg_old ha
  generalize kMg K2 K3 K3 = K4 at hW n1
  generalize fMg F2 F3 K3 = F4 at hW hF3m hF3x
  have hth4 : F4 m9 0 = .int (nI th) := (hF3m m9 _ 0 hk.1).trans hth
  have km4 : K4 m9 = some (7, 0) := n1 _ _ (m2' _ _ hk.1)
  have ko4 : K4 o = some (9, 1) := n1 _ _ m4
  have hx4 : ∀ a q, Kx' a = some q → K4 a = some q := fun a q ha => n1 a q (m1 a q ha)
  have hm4 : ∀ a q, K3 a = some q → K4 a = some q := fun a q ha => n1 a q (m2' a q ha)
  have hfx : ∀ a q i, Kx' a = some q → F4 a i = F1 a i := fun a q i ha => (hF3x a i (m3 a q ha)).trans (hF2x a q i ha)
  have hfo : F4 o 0 = F1 o 0 := (hF3x o 0 hmo).trans hF2o
  rcases hcase with ⟨hk0, r, F5, ⟨q, hq, hrq⟩, hfr, hFo⟩ | ⟨hk0, hpx1, hKK, hfr⟩ | ⟨hk0, hpx2, hKK, hfr⟩
  all_goals show W _ _ _ _ _ _ _ _ _ _ _ _ _ _ _ (F0 m 803 ls [.int r2])
  · subst hk0
    obtain ⟨hK8, hF8, j, j2, hj, hj2, e1, e2, hv⟩ := hq
    cases hv
    subst hK8
    rw [hF8] at hfr
    have hkR : thR 0 ((¬ a1 < 0 ∧ a1 < nI d) ∧ (¬ a4 < 0 ∧ a4 < nI d)) True := Or.inr (Or.inr ⟨rfl, (by rw [e1, e2]; exact ⟨⟨nI_nn (by omega), (nI_ltI (by omega) (by omega)).mpr hj⟩, nI_nn (by omega), (nI_ltI (by omega) (by omega)).mpr hj2⟩), trivial⟩)
    have hzero := hzero (thR_uniq htR hkR)
    have hr2 := hzero j j2 hj hj2 e1 e2
    have hnew : LVx K4 F4 o x m9 := ⟨_, _, lb, T, row, h9, ai, ad, J, pts, lens, B, d, tc, nd, dt, pl, dd, S, lim, lk, bc, bg, bp, hx4, hm4, m3, ko4, hKxo, hmo, NT_world hNT (fun a q i ha => (hfx a q i ha).trans (hfr a q i ha)), hk, RS_off hk hsame hF3m⟩
    have hth0 : th = 0 := thR_uniq htR hkR
    refine lv_istore (lv' := [(6, .int r2), (5, .int (nI 0)), (4, .int (nI i)), (0, .ref b), (1, .ref x), (2, .ref m9), (3, .ref o)]) hx hb dL_law_803 hl (by decide) rfl (fun ls hl => ?_)
    refine lv_aload_n hx hb dL_law_805 rfl (lv_at hl 5 rfl) ?_
    refine g_cV (v := (some (.int (nI th)))) (As := []) (b := m9) (rest := []) hx hb hml hown hts hN hW.1 (m_thrown l Γ K4 F4 m9 (nI th) km4 hth4) gL_law_X7_thrown rfl km4 (by decide) rfl (na := 0) rfl (by decide +kernel) ⟨by show _ ≤ 2048; decide, by show _ ≤ 84000; decide⟩ ⟨by show _ ≤ 601024; omega, by show _ ≤ 7293000; omega⟩ rfl hl.1 (Nat.le_of_ble_eq_true rfl) dL_law_806 ?_
    show W _ _ _ _ _ _ _ _ _ _ _ _ _ _ _ (F0 m 809 ls [.int (nI th)])
    refine lv_iload hx hb dL_law_809 (lv_at hl 1 rfl) ?_
    refine lv_icmp_eq (tgt := 816) hx hb dL_law_811 (by decide) (fun z1 => ?_) (fun z1 => ?_)
    · refine lv_iload hx hb dL_law_816 (lv_at hl 1 rfl) ?_
      refine lv_if_ne (tgt := 833) hx hb dL_law_818 (by decide) (fun z2 => ?_) (fun z2 => ?_)
      · have z2 : ¬ 0 = 0 := fun z => z2 ((nI_eq0 (by omega)).mpr z)
        exact absurd rfl z2
      · have z2 : 0 = 0 := (nI_eq0 (by omega)).mp z2
        refine lv_aload_n hx hb dL_law_821 rfl (lv_at hl 6 rfl) ?_
        refine lv_iconst (v := nI 0) hx hb dL_law_822 (by decide) ?_
        refine g_lald (j := 0) hx hb hN hW.1 ko4 (by decide) (show _ = nI 0 from rfl) (by decide) (v := .long r) (hfo.trans hFo) dL_law_823 ?_
        refine lv_iload hx hb dL_law_824 (lv_at hl 0 rfl) ?_
        refine lv_i2l (v := r2.toInt64) hx hb dL_law_826 rfl ?_
        refine W.lcmp hx hb dL_law_827 ?_
        refine lv_if_eq (tgt := 833) hx hb dL_law_828 (by decide) (fun z3 => ?_) (fun z3 => ?_)
        · have z3 : _ := (lg_cmp_eq _ _).mp z3
          refine lv_goto (tgt := 1173) hx hb dL_law_833 (by decide) ?_
          refine W.widen (k := cl + 2) (n := sl + 13) (by omega) (by omega) ?_
          exact kk K4 F4 H locs ls hnew hW (lv_sub hl [2, 3, 4, 5, 6] rfl)
        · have z3 : ¬ _ := fun z => z3 ((lg_cmp_eq _ _).mpr z)
          exact absurd (by rw [hrq, hr2]) z3
    · exact absurd (by rw [hth0]) z1
  · subst hk0
    subst hKK
    have hpx1 := hpx1.2
    have hkR : thR 1 ((¬ a1 < 0 ∧ a1 < nI d) ∧ (¬ a4 < 0 ∧ a4 < nI d)) True := Or.inl ⟨rfl, hpx1⟩
    have hth0b : th = 1 := thR_uniq htR hkR
    have hnew : LVx K4 F4 o x m9 := ⟨_, _, lb, T, row, h9, ai, ad, J, pts, lens, B, d, tc, nd, dt, pl, dd, S, lim, lk, bc, bg, bp, hx4, hm4, m3, ko4, hKxo, hmo, NT_world hNT (fun a q i ha => (hfx a q i ha).trans (hfr a q i ha)), hk, RS_off hk (hsame) hF3m⟩
    have hth0 : th = 1 := thR_uniq htR hkR
    refine lv_istore (lv' := [(6, .int r2), (5, .int (nI 1)), (4, .int (nI i)), (0, .ref b), (1, .ref x), (2, .ref m9), (3, .ref o)]) hx hb dL_law_803 hl (by decide) rfl (fun ls hl => ?_)
    refine lv_aload_n hx hb dL_law_805 rfl (lv_at hl 5 rfl) ?_
    refine g_cV (v := (some (.int (nI th)))) (As := []) (b := m9) (rest := []) hx hb hml hown hts hN hW.1 (m_thrown l Γ K4 F4 m9 (nI th) km4 hth4) gL_law_X7_thrown rfl km4 (by decide) rfl (na := 0) rfl (by decide +kernel) ⟨by show _ ≤ 2048; decide, by show _ ≤ 84000; decide⟩ ⟨by show _ ≤ 601024; omega, by show _ ≤ 7293000; omega⟩ rfl hl.1 (Nat.le_of_ble_eq_true rfl) dL_law_806 ?_
    show W _ _ _ _ _ _ _ _ _ _ _ _ _ _ _ (F0 m 809 ls [.int (nI th)])
    refine lv_iload hx hb dL_law_809 (lv_at hl 1 rfl) ?_
    refine lv_icmp_eq (tgt := 816) hx hb dL_law_811 (by decide) (fun z1 => ?_) (fun z1 => ?_)
    · refine lv_iload hx hb dL_law_816 (lv_at hl 1 rfl) ?_
      refine lv_if_ne (tgt := 833) hx hb dL_law_818 (by decide) (fun z2 => ?_) (fun z2 => ?_)
      · have z2 : ¬ 1 = 0 := fun z => z2 ((nI_eq0 (by omega)).mpr z)
        refine lv_goto (tgt := 1173) hx hb dL_law_833 (by decide) ?_
        refine W.widen (k := cl + 2) (n := sl + 13) (by omega) (by omega) ?_
        exact kk K4 F4 H locs ls hnew hW (lv_sub hl [2, 3, 4, 5, 6] rfl)
      · have z2 : 1 = 0 := (nI_eq0 (by omega)).mp z2
        exact absurd z2 (by decide)
    · exact absurd (by rw [hth0]) z1
  · subst hk0
    subst hKK
    exact absurd hpx2.1 (by decide)

set_option maxHeartbeats 4000000 in
set_option maxRecDepth 100000 in
theorem s_pair {p : Program} {l : Launch} {e : Env} {s : State} {m : MethodId} {below : List Frame} {meth : Method} {c : Code} {b L : Nat} {xs : Nat → Int32} {Γ : gG} (hC : LCt p l s m meth c b L xs Γ) (hL : L ≤ 3585) (i : Nat) (hi : i + 7 ≤ L) (o x m9 cl sl : Nat) (hcl : cl + 2 ≤ 601024) (hsl : sl + 13 ≤ 7293000)
    (kk : ∀ (K : gK) (F : gF) (H : Heap) (locs : List Loc) (ls : Array Slot), LVx K F o x m9 → gW Γ (fun q : Nat => s.heap.size ≤ q) s.heap K F H locs → lv_has ls 8 [(4, .int (nI i)), (0, .ref b), (1, .ref x), (2, .ref m9), (3, .ref o)] → W p l e room_1 s m #[Value.ref b] below meth c H locs (cl + 2) (sl + 13) (lw_Z below #[Value.ref b] s) (F0 m 1173 ls [])) :
    ∀ (K : gK) (F : gF) (H : Heap) (locs : List Loc) (ls : Array Slot), LVx K F o x m9 → gW Γ (fun q : Nat => s.heap.size ≤ q) s.heap K F H locs → lv_has ls 8 [(4, .int (nI i)), (0, .ref b), (1, .ref x), (2, .ref m9), (3, .ref o)] → W p l e room_1 s m #[Value.ref b] below meth c H locs (cl) (sl) (lw_Z below #[Value.ref b] s) (F0 m 836 ls []) := by
  intro K F H locs ls hLV hW hl
  obtain ⟨⟨hx, hb, hr, hml, hown, hts0, hX, hbl, hlocks, hgv⟩, hN, hT0, hNc, hfl⟩ := hC
  have hbA : ¬ (fun q : Nat => s.heap.size ≤ q) b := Nat.not_le.mpr hbl
  have hown : s.vm.findClass RL = some m.cls := hown
  have hts : ∀ w ∈ wsL_law, w.before #[Value.ref b] s = true := fun w h => hts0 w (wsL_law_in w h)
  obtain ⟨Kx, Km, lb, T, row, h9, ai, ad, J, pts, lens, B, d, tc, nd, dt, pl, dd, S, lim, lk, bc, bg, bp, hKx, hKm, hdis, hKo, hxo, hmo, hNT, hk, hRS⟩ := hLV
  have hp9 := hNT.2.2.2.2.2.2.2.2
  have hAS := AS_NT hNT.2.2.2.2.2.2.2.1 hp9
  have hoP := okP_NT hp9
  have hlc := lcP_nd nd dt
  have h60 : lcP (ndP nd dt) ≤ 60 := by rw [hlc]; exact hp9.2.2.2.2.2.1
  have hd0 := hNT.2.1.1
  have hd4 := hNT.2.1.2
  have hS100 : S.length ≤ 100 := Nat.le_trans hNT.2.2.2.2.2.2.1.2.2.2.2.2.2.2.2.2.1 hNT.2.2.2.2.2.2.1.2.2.2.2.2.2.2.2.2.2.1
  have hid : ∀ i a, i < 100 → nd i = some a → (dt a).1 = i := fun i a hi ha => (hp9.2.1 i a hi ha).2.1
  have hlt : ∀ a q, K a = some q → a < H.size := fun a q ha => (hW.1 a q ha).lt
  have kx : Kx x = some (6, 0) := hNT.1.1
  have hTHk : ∀ K1 : gK, (∀ a q, K1 a = some q → K a = some q) → gTH (gA K1 H.size) s H := fun K1 h1 => gTH.narrow (A := fun q : Nat => s.heap.size ≤ q) (fun q hq => by
    rcases hq with ⟨k, hk⟩ | hq
    · exact hW.2.2.1 q k (h1 q k hk)
    · exact Nat.le_trans hW.2.1.1 hq) (gTH.kept (fun a ha hA => hW.2.1.2.1 a ha hA) hT0)
  obtain ⟨a1, ha1⟩ : ∃ a, a = xs (nI (i + 1)).toNatClampNeg := ⟨_, rfl⟩
  refine lv_aload_n hx hb dL_law_836 rfl (lv_at hl 2 rfl) ?_
  refine lv_aload_n hx hb dL_law_837 rfl (lv_at hl 1 rfl) ?_
  refine lv_iload hx hb dL_law_838 (lv_at hl 0 rfl) ?_
  refine lv_iconst (v := nI 1) hx hb dL_law_840 (by decide) ?_
  refine lv_iadd hx hb dL_law_841 ?_
  refine g_asi (show _ = nI (i + 1) from (nI_add _ _).trans (by rfl)) ?_
  refine va_sld hx hb hX hbl hbA hW.2.1 (vp_in_nI (show i + 1 < L by omega) (by omega)) dL_law_842 ?_
  refine g_asi (show _ = a1 from ha1.symm) ?_
  refine lv_aload_n hx hb dL_law_843 rfl (lv_at hl 4 rfl) ?_
  refine g_lS (K1 := va_up Kx o (some (9, 1))) (As := [.ref x, .int a1, .ref o]) (rest := []) hx hb hml hown hts hN hW (fun a q ha => by
    by_cases e : a = o
    · rw [e] at ha ⊢; rw [va_up_self] at ha; rw [← ha]; exact hKo
    · rw [va_up_ne _ _ e] at ha; exact hKx a q ha) (hTHk _ (fun a q ha => by
    by_cases e : a = o
    · rw [e] at ha ⊢; rw [va_up_self] at ha; rw [← ha]; exact hKo
    · rw [va_up_ne _ _ e] at ha; exact hKx a q ha)) hNc (L_pair l Γ Kx F H.size x o kx hxo a1 (c_pair l hfl Γ Kx F H.size x lb T row h9 ai ad J pts lens d tc nd dt pl dd S lim lk bc bg bp hNT a1) (fun v K' F' h => by obtain ⟨_, _, _, _, _, _, _, hv⟩ := h; exact ⟨_, hv⟩) (fun E hE => hE.imp (fun z => z.1) (fun z => z.1))) gL_law_L_pair rfl (na := 3) rfl (by decide +kernel) ⟨by show _ ≤ 2048; decide, by show _ ≤ 84000; decide⟩ ⟨by show _ ≤ 601024; omega, by show _ ≤ 7293000; omega⟩ rfl hl.1 (Nat.le_of_ble_eq_true rfl) dL_law_844 (fun v K1 F1 H locs hp hA1 hW hsz1 => ?_)
  obtain ⟨k, Kx', hv, hK1, hKxo, hcase⟩ := hp
  subst hv
  subst hK1
  obtain ⟨m1, m2, m3, m4⟩ := mid_x hKx hKm hdis hKo hxo hmo hlt hA1 hKxo
  have hF2m : ∀ a q i, Km a = some q → fMg F F1 (va_up Kx' o (some (9, 1))) a i = F a i := fun a q i ha => fMg_old (m2 a q ha).2
  have hF2x : ∀ a q i, Kx' a = some q → fMg F F1 (va_up Kx' o (some (9, 1))) a i = F1 a i := fun a q i ha => fMg_new (show va_up Kx' o (some (9, 1)) a = some q by rw [va_up_ne _ _ (fun e => by rw [e, hKxo] at ha; cases ha)]; exact ha)
  have hF2o : fMg F F1 (va_up Kx' o (some (9, 1))) o 0 = F1 o 0 := fMg_new (va_up_self _ _ _)
  have m2' : ∀ a q, Km a = some q → kMg K (va_up Kx o (some (9, 1))) (va_up Kx' o (some (9, 1))) a = some q := fun a q ha => (m2 a q ha).1
  generalize kMg K (va_up Kx o (some (9, 1))) (va_up Kx' o (some (9, 1))) = K2 at hW m1 m2' m4
  generalize fMg F F1 (va_up Kx' o (some (9, 1))) = F2 at hW hF2m hF2x hF2o
  have hRS2 := RS_off hk hRS hF2m
  show W _ _ _ _ _ _ _ _ _ _ _ _ _ _ _ (F0 m 847 ls [.int (nI k)])
  refine lv_istore (lv' := [(5, .int (nI k)), (4, .int (nI i)), (0, .ref b), (1, .ref x), (2, .ref m9), (3, .ref o)]) hx hb dL_law_847 hl (by decide) rfl (fun ls hl => ?_)
  refine lv_aload_n hx hb dL_law_849 rfl (lv_at hl 4 rfl) ?_
  refine lv_aload_n hx hb dL_law_850 rfl (lv_at hl 2 rfl) ?_
  refine lv_iload hx hb dL_law_851 (lv_at hl 1 rfl) ?_
  refine lv_iconst (v := nI 1) hx hb dL_law_853 (by decide) ?_
  refine lv_iadd hx hb dL_law_854 ?_
  refine g_asi (show _ = nI (i + 1) from (nI_add _ _).trans (by rfl)) ?_
  refine va_sld hx hb hX hbl hbA hW.2.1 (vp_in_nI (show i + 1 < L by omega) (by omega)) dL_law_855 ?_
  refine g_asi (show _ = a1 from ha1.symm) ?_
  refine g_mVF (K1 := Km) (As := [.int a1]) (b := m9) (rest := []) hx hb hml hown hts hN hW m2' (m_pair l Γ Km F2 H.size m9 B hk d (ndP nd dt) (tMap (fL dt dd) tc) S lk bc bg bp hRS2 hoP h60 a1) gL_law_X7_pair rfl hk.1 (by decide) rfl (na := 1) rfl (by decide +kernel) ⟨by show _ ≤ 2048; decide, by show _ ≤ 84000; decide⟩ ⟨by show _ ≤ 601024; omega, by show _ ≤ 7293000; omega⟩ rfl hl.1 (Nat.le_of_ble_eq_true rfl) dL_law_856 (fun v K3 F3 H locs hp hA3 hW hsz2 => ?_)
  obtain ⟨th, r2, hv, hK3, hth, htR, hsame, hzero⟩ := hp
  subst hv
  subst hK3
  have n1 := mid_m m2'
  have hF3m : ∀ a q i, K3 a = some q → fMg F2 F3 K3 a i = F3 a i := fun a q i ha => fMg_new ha
  have hF3x : ∀ a i, K3 a = none → fMg F2 F3 K3 a i = F2 a i := fun a i ha => fMg_old ha
  generalize kMg K2 K3 K3 = K4 at hW n1
  generalize fMg F2 F3 K3 = F4 at hW hF3m hF3x
  have hth4 : F4 m9 0 = .int (nI th) := (hF3m m9 _ 0 hk.1).trans hth
  have km4 : K4 m9 = some (7, 0) := n1 _ _ (m2' _ _ hk.1)
  have ko4 : K4 o = some (9, 1) := n1 _ _ m4
  have hx4 : ∀ a q, Kx' a = some q → K4 a = some q := fun a q ha => n1 a q (m1 a q ha)
  have hm4 : ∀ a q, K3 a = some q → K4 a = some q := fun a q ha => n1 a q (m2' a q ha)
  have hfx : ∀ a q i, Kx' a = some q → F4 a i = F1 a i := fun a q i ha => (hF3x a i (m3 a q ha)).trans (hF2x a q i ha)
  have hfo : F4 o 0 = F1 o 0 := (hF3x o 0 hmo).trans hF2o
  rcases hcase with ⟨hk0, r, F5, ⟨q, hq, hrq⟩, hfr, hFo⟩ | ⟨hk0, hpx1, hKK, hfr⟩ | ⟨hk0, hpx2, hKK, hfr⟩
  all_goals show W _ _ _ _ _ _ _ _ _ _ _ _ _ _ _ (F0 m 859 ls [.long r2])
  · subst hk0
    obtain ⟨hK8, hNT9, st9, j, hj, e1, hge, hv⟩ := hq
    cases hv
    subst hK8
    have hkR : thR 0 (¬ a1 < 0 ∧ a1 < nI 3) (2 ≤ lcP (ndP nd dt)) := Or.inr (Or.inr ⟨rfl, (by rw [e1]; exact ⟨nI_nn (by omega), (nI_ltI (by omega) (by decide)).mpr hj⟩), (by rw [hlc]; exact hge)⟩)
    have hzero := hzero (thR_uniq htR hkR)
    have hr2 := hzero j st9 hj e1
    rw [← pair_map hid] at hr2
    have hnew : LVx K4 F4 o x m9 := ⟨_, _, lb, T, row, h9, ai, ad, J, pts, lens, B, d, tc, nd, dt, pl, dd, S, lim, lk, bc, bg, bp, hx4, hm4, m3, ko4, hKxo, hmo, NT_world hNT9 (fun a q i ha => (hfx a q i ha).trans (hfr a q i ha)), hk, RS_off hk hsame hF3m⟩
    have hth0 : th = 0 := thR_uniq htR hkR
    refine lv_lstore (lv' := [(6, .long r2), (5, .int (nI 0)), (4, .int (nI i)), (0, .ref b), (1, .ref x), (2, .ref m9), (3, .ref o)]) hx hb dL_law_859 hl (by decide) rfl (fun ls hl => ?_)
    refine lv_aload_n hx hb dL_law_861 rfl (lv_at hl 5 rfl) ?_
    refine g_cV (v := (some (.int (nI th)))) (As := []) (b := m9) (rest := []) hx hb hml hown hts hN hW.1 (m_thrown l Γ K4 F4 m9 (nI th) km4 hth4) gL_law_X7_thrown rfl km4 (by decide) rfl (na := 0) rfl (by decide +kernel) ⟨by show _ ≤ 2048; decide, by show _ ≤ 84000; decide⟩ ⟨by show _ ≤ 601024; omega, by show _ ≤ 7293000; omega⟩ rfl hl.1 (Nat.le_of_ble_eq_true rfl) dL_law_862 ?_
    show W _ _ _ _ _ _ _ _ _ _ _ _ _ _ _ (F0 m 865 ls [.int (nI th)])
    refine lv_iload hx hb dL_law_865 (lv_at hl 1 rfl) ?_
    refine lv_icmp_eq (tgt := 872) hx hb dL_law_867 (by decide) (fun z1 => ?_) (fun z1 => ?_)
    · refine lv_iload hx hb dL_law_872 (lv_at hl 1 rfl) ?_
      refine lv_if_ne (tgt := 888) hx hb dL_law_874 (by decide) (fun z2 => ?_) (fun z2 => ?_)
      · have z2 : ¬ 0 = 0 := fun z => z2 ((nI_eq0 (by omega)).mpr z)
        exact absurd rfl z2
      · have z2 : 0 = 0 := (nI_eq0 (by omega)).mp z2
        refine lv_aload_n hx hb dL_law_877 rfl (lv_at hl 6 rfl) ?_
        refine lv_iconst (v := nI 0) hx hb dL_law_878 (by decide) ?_
        refine g_lald (j := 0) hx hb hN hW.1 ko4 (by decide) (show _ = nI 0 from rfl) (by decide) (v := .long r) (hfo.trans hFo) dL_law_879 ?_
        refine lv_lload hx hb dL_law_880 (lv_at hl 0 rfl) ?_
        refine W.lcmp hx hb dL_law_882 ?_
        refine lv_if_eq (tgt := 888) hx hb dL_law_883 (by decide) (fun z3 => ?_) (fun z3 => ?_)
        · have z3 : _ := (lg_cmp_eq _ _).mp z3
          refine lv_goto (tgt := 1173) hx hb dL_law_888 (by decide) ?_
          refine W.widen (k := cl + 2) (n := sl + 13) (by omega) (by omega) ?_
          exact kk K4 F4 H locs ls hnew hW (lv_sub hl [2, 3, 4, 5, 6] rfl)
        · have z3 : ¬ _ := fun z => z3 ((lg_cmp_eq _ _).mpr z)
          exact absurd (by rw [hrq, hr2]) z3
    · exact absurd (by rw [hth0]) z1
  · subst hk0
    subst hKK
    have hpx1 := hpx1.elim (fun z => z.2) (fun z => absurd z.1 (by decide))
    have hkR : thR 1 (¬ a1 < 0 ∧ a1 < nI 3) (2 ≤ lcP (ndP nd dt)) := Or.inl ⟨rfl, fun z => hpx1 ⟨z.1, (leN (by decide)).mpr z.2⟩⟩
    have hth0b : th = 1 := thR_uniq htR hkR
    have hnew : LVx K4 F4 o x m9 := ⟨_, _, lb, T, row, h9, ai, ad, J, pts, lens, B, d, tc, nd, dt, pl, dd, S, lim, lk, bc, bg, bp, hx4, hm4, m3, ko4, hKxo, hmo, NT_world hNT (fun a q i ha => (hfx a q i ha).trans (hfr a q i ha)), hk, RS_off hk (hsame) hF3m⟩
    have hth0 : th = 1 := thR_uniq htR hkR
    refine lv_lstore (lv' := [(6, .long r2), (5, .int (nI 1)), (4, .int (nI i)), (0, .ref b), (1, .ref x), (2, .ref m9), (3, .ref o)]) hx hb dL_law_859 hl (by decide) rfl (fun ls hl => ?_)
    refine lv_aload_n hx hb dL_law_861 rfl (lv_at hl 5 rfl) ?_
    refine g_cV (v := (some (.int (nI th)))) (As := []) (b := m9) (rest := []) hx hb hml hown hts hN hW.1 (m_thrown l Γ K4 F4 m9 (nI th) km4 hth4) gL_law_X7_thrown rfl km4 (by decide) rfl (na := 0) rfl (by decide +kernel) ⟨by show _ ≤ 2048; decide, by show _ ≤ 84000; decide⟩ ⟨by show _ ≤ 601024; omega, by show _ ≤ 7293000; omega⟩ rfl hl.1 (Nat.le_of_ble_eq_true rfl) dL_law_862 ?_
    show W _ _ _ _ _ _ _ _ _ _ _ _ _ _ _ (F0 m 865 ls [.int (nI th)])
    refine lv_iload hx hb dL_law_865 (lv_at hl 1 rfl) ?_
    refine lv_icmp_eq (tgt := 872) hx hb dL_law_867 (by decide) (fun z1 => ?_) (fun z1 => ?_)
    · refine lv_iload hx hb dL_law_872 (lv_at hl 1 rfl) ?_
      refine lv_if_ne (tgt := 888) hx hb dL_law_874 (by decide) (fun z2 => ?_) (fun z2 => ?_)
      · have z2 : ¬ 1 = 0 := fun z => z2 ((nI_eq0 (by omega)).mpr z)
        refine lv_goto (tgt := 1173) hx hb dL_law_888 (by decide) ?_
        refine W.widen (k := cl + 2) (n := sl + 13) (by omega) (by omega) ?_
        exact kk K4 F4 H locs ls hnew hW (lv_sub hl [2, 3, 4, 5, 6] rfl)
      · have z2 : 1 = 0 := (nI_eq0 (by omega)).mp z2
        exact absurd z2 (by decide)
    · exact absurd (by rw [hth0]) z1
  · subst hk0
    subst hKK
    have hpx2 := hpx2.elim (fun z => absurd z.1 (by decide)) (fun z => z.2)
    have hkR : thR 2 (¬ a1 < 0 ∧ a1 < nI 3) (2 ≤ lcP (ndP nd dt)) := Or.inr (Or.inl ⟨rfl, ⟨⟨hpx2.1.1, (leN (by decide)).mp hpx2.1.2⟩, by rw [hlc]; omega⟩⟩)
    have hth0b : th = 2 := thR_uniq htR hkR
    have hnew : LVx K4 F4 o x m9 := ⟨_, _, lb, T, row, h9, ai, ad, J, pts, lens, B, d, tc, nd, dt, pl, dd, S, lim, lk, bc, bg, bp, hx4, hm4, m3, ko4, hKxo, hmo, NT_world hNT (fun a q i ha => (hfx a q i ha).trans (hfr a q i ha)), hk, RS_off hk (hsame) hF3m⟩
    have hth0 : th = 2 := thR_uniq htR hkR
    refine lv_lstore (lv' := [(6, .long r2), (5, .int (nI 2)), (4, .int (nI i)), (0, .ref b), (1, .ref x), (2, .ref m9), (3, .ref o)]) hx hb dL_law_859 hl (by decide) rfl (fun ls hl => ?_)
    refine lv_aload_n hx hb dL_law_861 rfl (lv_at hl 5 rfl) ?_
    refine g_cV (v := (some (.int (nI th)))) (As := []) (b := m9) (rest := []) hx hb hml hown hts hN hW.1 (m_thrown l Γ K4 F4 m9 (nI th) km4 hth4) gL_law_X7_thrown rfl km4 (by decide) rfl (na := 0) rfl (by decide +kernel) ⟨by show _ ≤ 2048; decide, by show _ ≤ 84000; decide⟩ ⟨by show _ ≤ 601024; omega, by show _ ≤ 7293000; omega⟩ rfl hl.1 (Nat.le_of_ble_eq_true rfl) dL_law_862 ?_
    show W _ _ _ _ _ _ _ _ _ _ _ _ _ _ _ (F0 m 865 ls [.int (nI th)])
    refine lv_iload hx hb dL_law_865 (lv_at hl 1 rfl) ?_
    refine lv_icmp_eq (tgt := 872) hx hb dL_law_867 (by decide) (fun z1 => ?_) (fun z1 => ?_)
    · refine lv_iload hx hb dL_law_872 (lv_at hl 1 rfl) ?_
      refine lv_if_ne (tgt := 888) hx hb dL_law_874 (by decide) (fun z2 => ?_) (fun z2 => ?_)
      · have z2 : ¬ 2 = 0 := fun z => z2 ((nI_eq0 (by omega)).mpr z)
        refine lv_goto (tgt := 1173) hx hb dL_law_888 (by decide) ?_
        refine W.widen (k := cl + 2) (n := sl + 13) (by omega) (by omega) ?_
        exact kk K4 F4 H locs ls hnew hW (lv_sub hl [2, 3, 4, 5, 6] rfl)
      · have z2 : 2 = 0 := (nI_eq0 (by omega)).mp z2
        exact absurd z2 (by decide)
    · exact absurd (by rw [hth0]) z1

set_option maxHeartbeats 4000000 in
set_option maxRecDepth 100000 in
theorem s_parts {p : Program} {l : Launch} {e : Env} {s : State} {m : MethodId} {below : List Frame} {meth : Method} {c : Code} {b L : Nat} {xs : Nat → Int32} {Γ : gG} (hC : LCt p l s m meth c b L xs Γ) (hL : L ≤ 3585) (i : Nat) (hi : i + 7 ≤ L) (o x m9 cl sl : Nat) (hcl : cl + 2 ≤ 601024) (hsl : sl + 13 ≤ 7293000)
    (kk : ∀ (K : gK) (F : gF) (H : Heap) (locs : List Loc) (ls : Array Slot), LVx K F o x m9 → gW Γ (fun q : Nat => s.heap.size ≤ q) s.heap K F H locs → lv_has ls 8 [(4, .int (nI i)), (0, .ref b), (1, .ref x), (2, .ref m9), (3, .ref o)] → W p l e room_1 s m #[Value.ref b] below meth c H locs (cl + 2) (sl + 13) (lw_Z below #[Value.ref b] s) (F0 m 1173 ls [])) :
    ∀ (K : gK) (F : gF) (H : Heap) (locs : List Loc) (ls : Array Slot), LVx K F o x m9 → gW Γ (fun q : Nat => s.heap.size ≤ q) s.heap K F H locs → lv_has ls 8 [(4, .int (nI i)), (0, .ref b), (1, .ref x), (2, .ref m9), (3, .ref o)] → W p l e room_1 s m #[Value.ref b] below meth c H locs (cl) (sl) (lw_Z below #[Value.ref b] s) (F0 m 891 ls []) := by
  intro K F H locs ls hLV hW hl
  obtain ⟨⟨hx, hb, hr, hml, hown, hts0, hX, hbl, hlocks, hgv⟩, hN, hT0, hNc, hfl⟩ := hC
  have hbA : ¬ (fun q : Nat => s.heap.size ≤ q) b := Nat.not_le.mpr hbl
  have hown : s.vm.findClass RL = some m.cls := hown
  have hts : ∀ w ∈ wsL_law, w.before #[Value.ref b] s = true := fun w h => hts0 w (wsL_law_in w h)
  obtain ⟨Kx, Km, lb, T, row, h9, ai, ad, J, pts, lens, B, d, tc, nd, dt, pl, dd, S, lim, lk, bc, bg, bp, hKx, hKm, hdis, hKo, hxo, hmo, hNT, hk, hRS⟩ := hLV
  have hp9 := hNT.2.2.2.2.2.2.2.2
  have hAS := AS_NT hNT.2.2.2.2.2.2.2.1 hp9
  have hoP := okP_NT hp9
  have hlc := lcP_nd nd dt
  have h60 : lcP (ndP nd dt) ≤ 60 := by rw [hlc]; exact hp9.2.2.2.2.2.1
  have hd0 := hNT.2.1.1
  have hd4 := hNT.2.1.2
  have hS100 : S.length ≤ 100 := Nat.le_trans hNT.2.2.2.2.2.2.1.2.2.2.2.2.2.2.2.2.1 hNT.2.2.2.2.2.2.1.2.2.2.2.2.2.2.2.2.2.1
  have hid : ∀ i a, i < 100 → nd i = some a → (dt a).1 = i := fun i a hi ha => (hp9.2.1 i a hi ha).2.1
  have hlt : ∀ a q, K a = some q → a < H.size := fun a q ha => (hW.1 a q ha).lt
  have kx : Kx x = some (6, 0) := hNT.1.1
  have hTHk : ∀ K1 : gK, (∀ a q, K1 a = some q → K a = some q) → gTH (gA K1 H.size) s H := fun K1 h1 => gTH.narrow (A := fun q : Nat => s.heap.size ≤ q) (fun q hq => by
    rcases hq with ⟨k, hk⟩ | hq
    · exact hW.2.2.1 q k (h1 q k hk)
    · exact Nat.le_trans hW.2.1.1 hq) (gTH.kept (fun a ha hA => hW.2.1.2.1 a ha hA) hT0)
  obtain ⟨a1, ha1⟩ : ∃ a, a = xs (nI (i + 1)).toNatClampNeg := ⟨_, rfl⟩
  obtain ⟨a2, ha2⟩ : ∃ a, a = xs (nI (i + 2)).toNatClampNeg := ⟨_, rfl⟩
  refine lv_aload_n hx hb dL_law_891 rfl (lv_at hl 2 rfl) ?_
  refine lv_aload_n hx hb dL_law_892 rfl (lv_at hl 1 rfl) ?_
  refine lv_iload hx hb dL_law_893 (lv_at hl 0 rfl) ?_
  refine lv_iconst (v := nI 1) hx hb dL_law_895 (by decide) ?_
  refine lv_iadd hx hb dL_law_896 ?_
  refine g_asi (show _ = nI (i + 1) from (nI_add _ _).trans (by rfl)) ?_
  refine va_sld hx hb hX hbl hbA hW.2.1 (vp_in_nI (show i + 1 < L by omega) (by omega)) dL_law_897 ?_
  refine g_asi (show _ = a1 from ha1.symm) ?_
  refine lv_i2l (v := a1.toInt64) hx hb dL_law_898 rfl ?_
  refine lv_bipush (v := nI 32) hx hb dL_law_899 (by decide) ?_
  refine lv_lshl (v := a1.toInt64 <<< ((nI 32).toInt64 &&& 63)) hx hb dL_law_901 rfl ?_
  refine lv_aload_n hx hb dL_law_902 rfl (lv_at hl 1 rfl) ?_
  refine lv_iload hx hb dL_law_903 (lv_at hl 0 rfl) ?_
  refine lv_iconst (v := nI 2) hx hb dL_law_905 (by decide) ?_
  refine lv_iadd hx hb dL_law_906 ?_
  refine g_asi (show _ = nI (i + 2) from (nI_add _ _).trans (by rfl)) ?_
  refine va_sld hx hb hX hbl hbA hW.2.1 (vp_in_nI (show i + 2 < L by omega) (by omega)) dL_law_907 ?_
  refine g_asi (show _ = a2 from ha2.symm) ?_
  refine lv_i2l (v := a2.toInt64) hx hb dL_law_908 rfl ?_
  refine lv_ldc2 (v := 4294967295) hx hb hown (hts _ (show Cond.constantLong RL 92 (4294967295) ∈ _ by decide +kernel)) dL_law_909 ?_
  refine lv_land hx hb dL_law_912 ?_
  refine lv_lor hx hb dL_law_913 ?_
  refine lv_topl (fun mo emo => ?_)
  refine lv_aload_n hx hb dL_law_914 rfl (lv_at hl 4 rfl) ?_
  refine g_lS (K1 := va_up Kx o (some (9, 1))) (As := [.ref x, .long mo, .ref o]) (rest := []) hx hb hml hown hts hN hW (fun a q ha => by
    by_cases e : a = o
    · rw [e] at ha ⊢; rw [va_up_self] at ha; rw [← ha]; exact hKo
    · rw [va_up_ne _ _ e] at ha; exact hKx a q ha) (hTHk _ (fun a q ha => by
    by_cases e : a = o
    · rw [e] at ha ⊢; rw [va_up_self] at ha; rw [← ha]; exact hKo
    · rw [va_up_ne _ _ e] at ha; exact hKx a q ha)) hNc (L_parts l Γ Kx F H.size x o kx hxo mo (c_parts l hfl Γ Kx F H.size x lb T row h9 ai ad J pts lens d tc nd dt pl dd S lim lk bc bg bp hNT mo) (fun v K' F' h => by obtain ⟨_, _, _, _, _, _, _, hv⟩ := h; exact ⟨_, hv⟩) (fun E hE => hE.1)) gL_law_L_parts rfl (na := 3) rfl (by decide +kernel) ⟨by show _ ≤ 2048; decide, by show _ ≤ 84000; decide⟩ ⟨by show _ ≤ 601024; omega, by show _ ≤ 7293000; omega⟩ rfl hl.1 (Nat.le_of_ble_eq_true rfl) dL_law_915 (fun v K1 F1 H locs hp hA1 hW hsz1 => ?_)
  obtain ⟨k, Kx', hv, hK1, hKxo, hcase⟩ := hp
  subst hv
  subst hK1
  obtain ⟨m1, m2, m3, m4⟩ := mid_x hKx hKm hdis hKo hxo hmo hlt hA1 hKxo
  have hF2m : ∀ a q i, Km a = some q → fMg F F1 (va_up Kx' o (some (9, 1))) a i = F a i := fun a q i ha => fMg_old (m2 a q ha).2
  have hF2x : ∀ a q i, Kx' a = some q → fMg F F1 (va_up Kx' o (some (9, 1))) a i = F1 a i := fun a q i ha => fMg_new (show va_up Kx' o (some (9, 1)) a = some q by rw [va_up_ne _ _ (fun e => by rw [e, hKxo] at ha; cases ha)]; exact ha)
  have hF2o : fMg F F1 (va_up Kx' o (some (9, 1))) o 0 = F1 o 0 := fMg_new (va_up_self _ _ _)
  have m2' : ∀ a q, Km a = some q → kMg K (va_up Kx o (some (9, 1))) (va_up Kx' o (some (9, 1))) a = some q := fun a q ha => (m2 a q ha).1
  generalize kMg K (va_up Kx o (some (9, 1))) (va_up Kx' o (some (9, 1))) = K2 at hW m1 m2' m4
  generalize fMg F F1 (va_up Kx' o (some (9, 1))) = F2 at hW hF2m hF2x hF2o
  have hRS2 := RS_off hk hRS hF2m
  show W _ _ _ _ _ _ _ _ _ _ _ _ _ _ _ (F0 m 918 ls [.int (nI k)])
  refine lv_istore (lv' := [(5, .int (nI k)), (4, .int (nI i)), (0, .ref b), (1, .ref x), (2, .ref m9), (3, .ref o)]) hx hb dL_law_918 hl (by decide) rfl (fun ls hl => ?_)
  refine lv_aload_n hx hb dL_law_920 rfl (lv_at hl 4 rfl) ?_
  refine lv_aload_n hx hb dL_law_921 rfl (lv_at hl 2 rfl) ?_
  refine lv_iload hx hb dL_law_922 (lv_at hl 1 rfl) ?_
  refine lv_iconst (v := nI 1) hx hb dL_law_924 (by decide) ?_
  refine lv_iadd hx hb dL_law_925 ?_
  refine g_asi (show _ = nI (i + 1) from (nI_add _ _).trans (by rfl)) ?_
  refine va_sld hx hb hX hbl hbA hW.2.1 (vp_in_nI (show i + 1 < L by omega) (by omega)) dL_law_926 ?_
  refine g_asi (show _ = a1 from ha1.symm) ?_
  refine lv_i2l (v := a1.toInt64) hx hb dL_law_927 rfl ?_
  refine lv_bipush (v := nI 32) hx hb dL_law_928 (by decide) ?_
  refine lv_lshl (v := a1.toInt64 <<< ((nI 32).toInt64 &&& 63)) hx hb dL_law_930 rfl ?_
  refine lv_aload_n hx hb dL_law_931 rfl (lv_at hl 2 rfl) ?_
  refine lv_iload hx hb dL_law_932 (lv_at hl 1 rfl) ?_
  refine lv_iconst (v := nI 2) hx hb dL_law_934 (by decide) ?_
  refine lv_iadd hx hb dL_law_935 ?_
  refine g_asi (show _ = nI (i + 2) from (nI_add _ _).trans (by rfl)) ?_
  refine va_sld hx hb hX hbl hbA hW.2.1 (vp_in_nI (show i + 2 < L by omega) (by omega)) dL_law_936 ?_
  refine g_asi (show _ = a2 from ha2.symm) ?_
  refine lv_i2l (v := a2.toInt64) hx hb dL_law_937 rfl ?_
  refine lv_ldc2 (v := 4294967295) hx hb hown (hts _ (show Cond.constantLong RL 92 (4294967295) ∈ _ by decide +kernel)) dL_law_938 ?_
  refine lv_land hx hb dL_law_941 ?_
  refine lv_lor hx hb dL_law_942 ?_
  refine g_asl (show _ = mo from emo.symm) ?_
  refine g_mVF (K1 := Km) (As := [.long mo]) (b := m9) (rest := []) hx hb hml hown hts hN hW m2' (m_parts l Γ Km F2 H.size m9 B hk d (ndP nd dt) (tMap (fL dt dd) tc) S lk bc bg bp hRS2 hoP mo) gL_law_X7_parts rfl hk.1 (by decide) rfl (na := 1) rfl (by decide +kernel) ⟨by show _ ≤ 2048; decide, by show _ ≤ 84000; decide⟩ ⟨by show _ ≤ 601024; omega, by show _ ≤ 7293000; omega⟩ rfl hl.1 (Nat.le_of_ble_eq_true rfl) dL_law_943 (fun v K3 F3 H locs hp hA3 hW hsz2 => ?_)
  obtain ⟨th, r2, hv, hK3, hth, htR, hsame, hzero⟩ := hp
  subst hv
  subst hK3
  have n1 := mid_m m2'
  have hF3m : ∀ a q i, K3 a = some q → fMg F2 F3 K3 a i = F3 a i := fun a q i ha => fMg_new ha
  have hF3x : ∀ a i, K3 a = none → fMg F2 F3 K3 a i = F2 a i := fun a i ha => fMg_old ha
  generalize kMg K2 K3 K3 = K4 at hW n1
  generalize fMg F2 F3 K3 = F4 at hW hF3m hF3x
  have hth4 : F4 m9 0 = .int (nI th) := (hF3m m9 _ 0 hk.1).trans hth
  have km4 : K4 m9 = some (7, 0) := n1 _ _ (m2' _ _ hk.1)
  have ko4 : K4 o = some (9, 1) := n1 _ _ m4
  have hx4 : ∀ a q, Kx' a = some q → K4 a = some q := fun a q ha => n1 a q (m1 a q ha)
  have hm4 : ∀ a q, K3 a = some q → K4 a = some q := fun a q ha => n1 a q (m2' a q ha)
  have hfx : ∀ a q i, Kx' a = some q → F4 a i = F1 a i := fun a q i ha => (hF3x a i (m3 a q ha)).trans (hF2x a q i ha)
  have hfo : F4 o 0 = F1 o 0 := (hF3x o 0 hmo).trans hF2o
  rcases hcase with ⟨hk0, r, F5, ⟨q, hq, hrq⟩, hfr, hFo⟩ | ⟨hk0, hpx1, hKK, hfr⟩ | ⟨hk0, hpx2, hKK, hfr⟩
  all_goals show W _ _ _ _ _ _ _ _ _ _ _ _ _ _ _ (F0 m 946 ls [.int r2])
  · subst hk0
    obtain ⟨hK8, hNT9, hm9, A9, ln9, hp1, hp2, hv⟩ := hq
    cases hv
    subst hK8
    have hkR : thR 0 (¬ mo < 0) True := Or.inr (Or.inr ⟨rfl, hm9, trivial⟩)
    have hzero := hzero (thR_uniq htR hkR)
    obtain ⟨n9, hr2, hcc⟩ := hzero
    have hpr := prim_CC hoP (PR_nd hid hp1 hp2) mo
    rw [hlc] at hpr
    have hn9 := CC_uniq (DI_symm hoP) hcc hpr
    have hnew : LVx K4 F4 o x m9 := ⟨_, _, lb, T, row, h9, ai, ad, J, pts, lens, B, d, tc, nd, dt, pl, dd, S, lim, lk, bc, bg, bp, hx4, hm4, m3, ko4, hKxo, hmo, NT_world hNT9 (fun a q i ha => (hfx a q i ha).trans (hfr a q i ha)), hk, RS_off hk hsame hF3m⟩
    have hth0 : th = 0 := thR_uniq htR hkR
    refine lv_istore (lv' := [(6, .int r2), (5, .int (nI 0)), (4, .int (nI i)), (0, .ref b), (1, .ref x), (2, .ref m9), (3, .ref o)]) hx hb dL_law_946 hl (by decide) rfl (fun ls hl => ?_)
    refine lv_aload_n hx hb dL_law_948 rfl (lv_at hl 5 rfl) ?_
    refine g_cV (v := (some (.int (nI th)))) (As := []) (b := m9) (rest := []) hx hb hml hown hts hN hW.1 (m_thrown l Γ K4 F4 m9 (nI th) km4 hth4) gL_law_X7_thrown rfl km4 (by decide) rfl (na := 0) rfl (by decide +kernel) ⟨by show _ ≤ 2048; decide, by show _ ≤ 84000; decide⟩ ⟨by show _ ≤ 601024; omega, by show _ ≤ 7293000; omega⟩ rfl hl.1 (Nat.le_of_ble_eq_true rfl) dL_law_949 ?_
    show W _ _ _ _ _ _ _ _ _ _ _ _ _ _ _ (F0 m 952 ls [.int (nI th)])
    refine lv_iload hx hb dL_law_952 (lv_at hl 1 rfl) ?_
    refine lv_icmp_eq (tgt := 959) hx hb dL_law_954 (by decide) (fun z1 => ?_) (fun z1 => ?_)
    · refine lv_iload hx hb dL_law_959 (lv_at hl 1 rfl) ?_
      refine lv_if_ne (tgt := 976) hx hb dL_law_961 (by decide) (fun z2 => ?_) (fun z2 => ?_)
      · have z2 : ¬ 0 = 0 := fun z => z2 ((nI_eq0 (by omega)).mpr z)
        exact absurd rfl z2
      · have z2 : 0 = 0 := (nI_eq0 (by omega)).mp z2
        refine lv_aload_n hx hb dL_law_964 rfl (lv_at hl 6 rfl) ?_
        refine lv_iconst (v := nI 0) hx hb dL_law_965 (by decide) ?_
        refine g_lald (j := 0) hx hb hN hW.1 ko4 (by decide) (show _ = nI 0 from rfl) (by decide) (v := .long r) (hfo.trans hFo) dL_law_966 ?_
        refine lv_iload hx hb dL_law_967 (lv_at hl 0 rfl) ?_
        refine lv_i2l (v := r2.toInt64) hx hb dL_law_969 rfl ?_
        refine W.lcmp hx hb dL_law_970 ?_
        refine lv_if_eq (tgt := 976) hx hb dL_law_971 (by decide) (fun z3 => ?_) (fun z3 => ?_)
        · have z3 : _ := (lg_cmp_eq _ _).mp z3
          refine lv_goto (tgt := 1173) hx hb dL_law_976 (by decide) ?_
          refine W.widen (k := cl + 2) (n := sl + 13) (by omega) (by omega) ?_
          exact kk K4 F4 H locs ls hnew hW (lv_sub hl [2, 3, 4, 5, 6] rfl)
        · have z3 : ¬ _ := fun z => z3 ((lg_cmp_eq _ _).mpr z)
          exact absurd (by rw [hrq, hr2, hn9]) z3
    · exact absurd (by rw [hth0]) z1
  · subst hk0
    subst hKK
    have hpx1 := hpx1.2
    have hkR : thR 1 (¬ mo < 0) True := Or.inl ⟨rfl, fun z => z hpx1⟩
    have hth0b : th = 1 := thR_uniq htR hkR
    have hnew : LVx K4 F4 o x m9 := ⟨_, _, lb, T, row, h9, ai, ad, J, pts, lens, B, d, tc, nd, dt, pl, dd, S, lim, lk, bc, bg, bp, hx4, hm4, m3, ko4, hKxo, hmo, NT_world hNT (fun a q i ha => (hfx a q i ha).trans (hfr a q i ha)), hk, RS_off hk (hsame) hF3m⟩
    have hth0 : th = 1 := thR_uniq htR hkR
    refine lv_istore (lv' := [(6, .int r2), (5, .int (nI 1)), (4, .int (nI i)), (0, .ref b), (1, .ref x), (2, .ref m9), (3, .ref o)]) hx hb dL_law_946 hl (by decide) rfl (fun ls hl => ?_)
    refine lv_aload_n hx hb dL_law_948 rfl (lv_at hl 5 rfl) ?_
    refine g_cV (v := (some (.int (nI th)))) (As := []) (b := m9) (rest := []) hx hb hml hown hts hN hW.1 (m_thrown l Γ K4 F4 m9 (nI th) km4 hth4) gL_law_X7_thrown rfl km4 (by decide) rfl (na := 0) rfl (by decide +kernel) ⟨by show _ ≤ 2048; decide, by show _ ≤ 84000; decide⟩ ⟨by show _ ≤ 601024; omega, by show _ ≤ 7293000; omega⟩ rfl hl.1 (Nat.le_of_ble_eq_true rfl) dL_law_949 ?_
    show W _ _ _ _ _ _ _ _ _ _ _ _ _ _ _ (F0 m 952 ls [.int (nI th)])
    refine lv_iload hx hb dL_law_952 (lv_at hl 1 rfl) ?_
    refine lv_icmp_eq (tgt := 959) hx hb dL_law_954 (by decide) (fun z1 => ?_) (fun z1 => ?_)
    · refine lv_iload hx hb dL_law_959 (lv_at hl 1 rfl) ?_
      refine lv_if_ne (tgt := 976) hx hb dL_law_961 (by decide) (fun z2 => ?_) (fun z2 => ?_)
      · have z2 : ¬ 1 = 0 := fun z => z2 ((nI_eq0 (by omega)).mpr z)
        refine lv_goto (tgt := 1173) hx hb dL_law_976 (by decide) ?_
        refine W.widen (k := cl + 2) (n := sl + 13) (by omega) (by omega) ?_
        exact kk K4 F4 H locs ls hnew hW (lv_sub hl [2, 3, 4, 5, 6] rfl)
      · have z2 : 1 = 0 := (nI_eq0 (by omega)).mp z2
        exact absurd z2 (by decide)
    · exact absurd (by rw [hth0]) z1
  · subst hk0
    subst hKK
    exact absurd hpx2.1 (by decide)

set_option maxHeartbeats 4000000 in
set_option maxRecDepth 100000 in
theorem s_node {p : Program} {l : Launch} {e : Env} {s : State} {m : MethodId} {below : List Frame} {meth : Method} {c : Code} {b L : Nat} {xs : Nat → Int32} {Γ : gG} (hC : LCt p l s m meth c b L xs Γ) (hL : L ≤ 3585) (i : Nat) (hi : i + 7 ≤ L) (o x m9 cl sl : Nat) (hcl : cl + 2 ≤ 601024) (hsl : sl + 13 ≤ 7293000)
    (kk : ∀ (K : gK) (F : gF) (H : Heap) (locs : List Loc) (ls : Array Slot), LVx K F o x m9 → gW Γ (fun q : Nat => s.heap.size ≤ q) s.heap K F H locs → lv_has ls 8 [(4, .int (nI i)), (0, .ref b), (1, .ref x), (2, .ref m9), (3, .ref o)] → W p l e room_1 s m #[Value.ref b] below meth c H locs (cl + 2) (sl + 13) (lw_Z below #[Value.ref b] s) (F0 m 1173 ls [])) :
    ∀ (K : gK) (F : gF) (H : Heap) (locs : List Loc) (ls : Array Slot), LVx K F o x m9 → gW Γ (fun q : Nat => s.heap.size ≤ q) s.heap K F H locs → lv_has ls 8 [(4, .int (nI i)), (0, .ref b), (1, .ref x), (2, .ref m9), (3, .ref o)] → W p l e room_1 s m #[Value.ref b] below meth c H locs (cl) (sl) (lw_Z below #[Value.ref b] s) (F0 m 993 ls []) := by
  intro K F H locs ls hLV hW hl
  obtain ⟨⟨hx, hb, hr, hml, hown, hts0, hX, hbl, hlocks, hgv⟩, hN, hT0, hNc, hfl⟩ := hC
  have hbA : ¬ (fun q : Nat => s.heap.size ≤ q) b := Nat.not_le.mpr hbl
  have hown : s.vm.findClass RL = some m.cls := hown
  have hts : ∀ w ∈ wsL_law, w.before #[Value.ref b] s = true := fun w h => hts0 w (wsL_law_in w h)
  obtain ⟨Kx, Km, lb, T, row, h9, ai, ad, J, pts, lens, B, d, tc, nd, dt, pl, dd, S, lim, lk, bc, bg, bp, hKx, hKm, hdis, hKo, hxo, hmo, hNT, hk, hRS⟩ := hLV
  have hp9 := hNT.2.2.2.2.2.2.2.2
  have hAS := AS_NT hNT.2.2.2.2.2.2.2.1 hp9
  have hoP := okP_NT hp9
  have hlc := lcP_nd nd dt
  have h60 : lcP (ndP nd dt) ≤ 60 := by rw [hlc]; exact hp9.2.2.2.2.2.1
  have hd0 := hNT.2.1.1
  have hd4 := hNT.2.1.2
  have hS100 : S.length ≤ 100 := Nat.le_trans hNT.2.2.2.2.2.2.1.2.2.2.2.2.2.2.2.2.1 hNT.2.2.2.2.2.2.1.2.2.2.2.2.2.2.2.2.2.1
  have hid : ∀ i a, i < 100 → nd i = some a → (dt a).1 = i := fun i a hi ha => (hp9.2.1 i a hi ha).2.1
  have hlt : ∀ a q, K a = some q → a < H.size := fun a q ha => (hW.1 a q ha).lt
  have kx : Kx x = some (6, 0) := hNT.1.1
  have hTHk : ∀ K1 : gK, (∀ a q, K1 a = some q → K a = some q) → gTH (gA K1 H.size) s H := fun K1 h1 => gTH.narrow (A := fun q : Nat => s.heap.size ≤ q) (fun q hq => by
    rcases hq with ⟨k, hk⟩ | hq
    · exact hW.2.2.1 q k (h1 q k hk)
    · exact Nat.le_trans hW.2.1.1 hq) (gTH.kept (fun a ha hA => hW.2.1.2.1 a ha hA) hT0)
  obtain ⟨a1, ha1⟩ : ∃ a, a = xs (nI (i + 1)).toNatClampNeg := ⟨_, rfl⟩
  obtain ⟨a2, ha2⟩ : ∃ a, a = xs (nI (i + 2)).toNatClampNeg := ⟨_, rfl⟩
  refine lv_aload_n hx hb dL_law_993 rfl (lv_at hl 2 rfl) ?_
  refine lv_aload_n hx hb dL_law_994 rfl (lv_at hl 1 rfl) ?_
  refine lv_iload hx hb dL_law_995 (lv_at hl 0 rfl) ?_
  refine lv_iconst (v := nI 1) hx hb dL_law_997 (by decide) ?_
  refine lv_iadd hx hb dL_law_998 ?_
  refine g_asi (show _ = nI (i + 1) from (nI_add _ _).trans (by rfl)) ?_
  refine va_sld hx hb hX hbl hbA hW.2.1 (vp_in_nI (show i + 1 < L by omega) (by omega)) dL_law_999 ?_
  refine g_asi (show _ = a1 from ha1.symm) ?_
  refine lv_aload_n hx hb dL_law_1000 rfl (lv_at hl 1 rfl) ?_
  refine lv_iload hx hb dL_law_1001 (lv_at hl 0 rfl) ?_
  refine lv_iconst (v := nI 2) hx hb dL_law_1003 (by decide) ?_
  refine lv_iadd hx hb dL_law_1004 ?_
  refine g_asi (show _ = nI (i + 2) from (nI_add _ _).trans (by rfl)) ?_
  refine va_sld hx hb hX hbl hbA hW.2.1 (vp_in_nI (show i + 2 < L by omega) (by omega)) dL_law_1005 ?_
  refine g_asi (show _ = a2 from ha2.symm) ?_
  refine lv_aload_n hx hb dL_law_1006 rfl (lv_at hl 4 rfl) ?_
  refine g_lS (K1 := va_up Kx o (some (9, 1))) (As := [.ref x, .int a1, .int a2, .ref o]) (rest := []) hx hb hml hown hts hN hW (fun a q ha => by
    by_cases e : a = o
    · rw [e] at ha ⊢; rw [va_up_self] at ha; rw [← ha]; exact hKo
    · rw [va_up_ne _ _ e] at ha; exact hKx a q ha) (hTHk _ (fun a q ha => by
    by_cases e : a = o
    · rw [e] at ha ⊢; rw [va_up_self] at ha; rw [← ha]; exact hKo
    · rw [va_up_ne _ _ e] at ha; exact hKx a q ha)) hNc (L_node l Γ Kx F H.size x o kx hxo a1 a2 (c_node l hfl Γ Kx F H.size x lb T row h9 ai ad J pts lens d tc nd dt pl dd S lim lk bc bg bp hNT a1 a2) (fun v K' F' h => by obtain ⟨_, _, _, _, _, _, _, _, _, _, _, _, hv⟩ := h; exact ⟨_, hv⟩) (fun E hE => hE.imp (fun z => z.1) (fun z => z.1))) gL_law_L_node rfl (na := 4) rfl (by decide +kernel) ⟨by show _ ≤ 2048; decide, by show _ ≤ 84000; decide⟩ ⟨by show _ ≤ 601024; omega, by show _ ≤ 7293000; omega⟩ rfl hl.1 (Nat.le_of_ble_eq_true rfl) dL_law_1007 (fun v K1 F1 H locs hp hA1 hW hsz1 => ?_)
  obtain ⟨k, Kx', hv, hK1, hKxo, hcase⟩ := hp
  subst hv
  subst hK1
  obtain ⟨m1, m2, m3, m4⟩ := mid_x hKx hKm hdis hKo hxo hmo hlt hA1 hKxo
  have hF2m : ∀ a q i, Km a = some q → fMg F F1 (va_up Kx' o (some (9, 1))) a i = F a i := fun a q i ha => fMg_old (m2 a q ha).2
  have hF2x : ∀ a q i, Kx' a = some q → fMg F F1 (va_up Kx' o (some (9, 1))) a i = F1 a i := fun a q i ha => fMg_new (show va_up Kx' o (some (9, 1)) a = some q by rw [va_up_ne _ _ (fun e => by rw [e, hKxo] at ha; cases ha)]; exact ha)
  have hF2o : fMg F F1 (va_up Kx' o (some (9, 1))) o 0 = F1 o 0 := fMg_new (va_up_self _ _ _)
  have m2' : ∀ a q, Km a = some q → kMg K (va_up Kx o (some (9, 1))) (va_up Kx' o (some (9, 1))) a = some q := fun a q ha => (m2 a q ha).1
  generalize kMg K (va_up Kx o (some (9, 1))) (va_up Kx' o (some (9, 1))) = K2 at hW m1 m2' m4
  generalize fMg F F1 (va_up Kx' o (some (9, 1))) = F2 at hW hF2m hF2x hF2o
  have hRS2 := RS_off hk hRS hF2m
  show W _ _ _ _ _ _ _ _ _ _ _ _ _ _ _ (F0 m 1010 ls [.int (nI k)])
  refine lv_istore (lv' := [(5, .int (nI k)), (4, .int (nI i)), (0, .ref b), (1, .ref x), (2, .ref m9), (3, .ref o)]) hx hb dL_law_1010 hl (by decide) rfl (fun ls hl => ?_)
  refine lv_aload_n hx hb dL_law_1012 rfl (lv_at hl 4 rfl) ?_
  refine lv_aload_n hx hb dL_law_1013 rfl (lv_at hl 2 rfl) ?_
  refine lv_iload hx hb dL_law_1014 (lv_at hl 1 rfl) ?_
  refine lv_iconst (v := nI 1) hx hb dL_law_1016 (by decide) ?_
  refine lv_iadd hx hb dL_law_1017 ?_
  refine g_asi (show _ = nI (i + 1) from (nI_add _ _).trans (by rfl)) ?_
  refine va_sld hx hb hX hbl hbA hW.2.1 (vp_in_nI (show i + 1 < L by omega) (by omega)) dL_law_1018 ?_
  refine g_asi (show _ = a1 from ha1.symm) ?_
  refine lv_aload_n hx hb dL_law_1019 rfl (lv_at hl 2 rfl) ?_
  refine lv_iload hx hb dL_law_1020 (lv_at hl 1 rfl) ?_
  refine lv_iconst (v := nI 2) hx hb dL_law_1022 (by decide) ?_
  refine lv_iadd hx hb dL_law_1023 ?_
  refine g_asi (show _ = nI (i + 2) from (nI_add _ _).trans (by rfl)) ?_
  refine va_sld hx hb hX hbl hbA hW.2.1 (vp_in_nI (show i + 2 < L by omega) (by omega)) dL_law_1024 ?_
  refine g_asi (show _ = a2 from ha2.symm) ?_
  refine g_mVF (K1 := Km) (As := [.int a1, .int a2]) (b := m9) (rest := []) hx hb hml hown hts hN hW m2' (m_node l Γ Km F2 H.size m9 B hk d (ndP nd dt) (tMap (fL dt dd) tc) S lk bc bg bp hRS2 hAS a1 a2) gL_law_X7_node rfl hk.1 (by decide) rfl (na := 2) rfl (by decide +kernel) ⟨by show _ ≤ 2048; decide, by show _ ≤ 84000; decide⟩ ⟨by show _ ≤ 601024; omega, by show _ ≤ 7293000; omega⟩ rfl hl.1 (Nat.le_of_ble_eq_true rfl) dL_law_1025 (fun v K3 F3 H locs hp hA3 hW hsz2 => ?_)
  obtain ⟨th, r2, hv, hK3, hth, htR, hsame, hzero⟩ := hp
  subst hv
  subst hK3
  have n1 := mid_m m2'
  have hF3m : ∀ a q i, K3 a = some q → fMg F2 F3 K3 a i = F3 a i := fun a q i ha => fMg_new ha
  have hF3x : ∀ a i, K3 a = none → fMg F2 F3 K3 a i = F2 a i := fun a i ha => fMg_old ha
  generalize kMg K2 K3 K3 = K4 at hW n1
  generalize fMg F2 F3 K3 = F4 at hW hF3m hF3x
  have hth4 : F4 m9 0 = .int (nI th) := (hF3m m9 _ 0 hk.1).trans hth
  have km4 : K4 m9 = some (7, 0) := n1 _ _ (m2' _ _ hk.1)
  have ko4 : K4 o = some (9, 1) := n1 _ _ m4
  have hx4 : ∀ a q, Kx' a = some q → K4 a = some q := fun a q ha => n1 a q (m1 a q ha)
  have hm4 : ∀ a q, K3 a = some q → K4 a = some q := fun a q ha => n1 a q (m2' a q ha)
  have hfx : ∀ a q i, Kx' a = some q → F4 a i = F1 a i := fun a q i ha => (hF3x a i (m3 a q ha)).trans (hF2x a q i ha)
  have hfo : F4 o 0 = F1 o 0 := (hF3x o 0 hmo).trans hF2o
  rcases hcase with ⟨hk0, r, F5, ⟨q, hq, hrq⟩, hfr, hFo⟩ | ⟨hk0, hpx1, hKK, hfr⟩ | ⟨hk0, hpx2, hKK, hfr⟩
  all_goals show W _ _ _ _ _ _ _ _ _ _ _ _ _ _ _ (F0 m 1028 ls [.int r2])
  · subst hk0
    obtain ⟨hK8, hF8, j, j2, a, q8, hj, hj2, e1, e2, hn, hq8, hv⟩ := hq
    cases hv
    subst hK8
    rw [hF8] at hfr
    have hkR : thR 0 (okId a1 = true ∧ ¬ a2 < 0 ∧ a2 < nI 5) (∃ i p, i < 100 ∧ a1 = nI i ∧ ndP nd dt i = some p) := Or.inr (Or.inr ⟨rfl, ⟨by rw [e1]; exact okId_i hj, by rw [e2]; exact nI_nn (by omega), by rw [e2]; exact (nI_ltI (by omega) (by decide)).mpr hj2⟩, ⟨j, (dt a).2, hj, e1, ndP_some hn⟩⟩)
    have hzero := hzero (thR_uniq htR hkR)
    have hr2 := hzero j j2 _ hj hj2 e1 e2 (node_map hp9 hj hn hq8)
    rw [nodeA_map] at hr2
    have hnew : LVx K4 F4 o x m9 := ⟨_, _, lb, T, row, h9, ai, ad, J, pts, lens, B, d, tc, nd, dt, pl, dd, S, lim, lk, bc, bg, bp, hx4, hm4, m3, ko4, hKxo, hmo, NT_world hNT (fun a q i ha => (hfx a q i ha).trans (hfr a q i ha)), hk, RS_off hk hsame hF3m⟩
    have hth0 : th = 0 := thR_uniq htR hkR
    refine lv_istore (lv' := [(6, .int r2), (5, .int (nI 0)), (4, .int (nI i)), (0, .ref b), (1, .ref x), (2, .ref m9), (3, .ref o)]) hx hb dL_law_1028 hl (by decide) rfl (fun ls hl => ?_)
    refine lv_aload_n hx hb dL_law_1030 rfl (lv_at hl 5 rfl) ?_
    refine g_cV (v := (some (.int (nI th)))) (As := []) (b := m9) (rest := []) hx hb hml hown hts hN hW.1 (m_thrown l Γ K4 F4 m9 (nI th) km4 hth4) gL_law_X7_thrown rfl km4 (by decide) rfl (na := 0) rfl (by decide +kernel) ⟨by show _ ≤ 2048; decide, by show _ ≤ 84000; decide⟩ ⟨by show _ ≤ 601024; omega, by show _ ≤ 7293000; omega⟩ rfl hl.1 (Nat.le_of_ble_eq_true rfl) dL_law_1031 ?_
    show W _ _ _ _ _ _ _ _ _ _ _ _ _ _ _ (F0 m 1034 ls [.int (nI th)])
    refine lv_iload hx hb dL_law_1034 (lv_at hl 1 rfl) ?_
    refine lv_icmp_eq (tgt := 1041) hx hb dL_law_1036 (by decide) (fun z1 => ?_) (fun z1 => ?_)
    · refine lv_iload hx hb dL_law_1041 (lv_at hl 1 rfl) ?_
      refine lv_if_ne (tgt := 1058) hx hb dL_law_1043 (by decide) (fun z2 => ?_) (fun z2 => ?_)
      · have z2 : ¬ 0 = 0 := fun z => z2 ((nI_eq0 (by omega)).mpr z)
        exact absurd rfl z2
      · have z2 : 0 = 0 := (nI_eq0 (by omega)).mp z2
        refine lv_aload_n hx hb dL_law_1046 rfl (lv_at hl 6 rfl) ?_
        refine lv_iconst (v := nI 0) hx hb dL_law_1047 (by decide) ?_
        refine g_lald (j := 0) hx hb hN hW.1 ko4 (by decide) (show _ = nI 0 from rfl) (by decide) (v := .long r) (hfo.trans hFo) dL_law_1048 ?_
        refine lv_iload hx hb dL_law_1049 (lv_at hl 0 rfl) ?_
        refine lv_i2l (v := r2.toInt64) hx hb dL_law_1051 rfl ?_
        refine W.lcmp hx hb dL_law_1052 ?_
        refine lv_if_eq (tgt := 1058) hx hb dL_law_1053 (by decide) (fun z3 => ?_) (fun z3 => ?_)
        · have z3 : _ := (lg_cmp_eq _ _).mp z3
          refine lv_goto (tgt := 1173) hx hb dL_law_1058 (by decide) ?_
          refine W.widen (k := cl + 2) (n := sl + 13) (by omega) (by omega) ?_
          exact kk K4 F4 H locs ls hnew hW (lv_sub hl [2, 3, 4, 5, 6] rfl)
        · have z3 : ¬ _ := fun z => z3 ((lg_cmp_eq _ _).mpr z)
          exact absurd (by rw [hrq, hr2]) z3
    · exact absurd (by rw [hth0]) z1
  · subst hk0
    subst hKK
    have hpx1 := hpx1.elim (fun z => z.2) (fun z => absurd z.1 (by decide))
    have hkR : thR 1 (okId a1 = true ∧ ¬ a2 < 0 ∧ a2 < nI 5) (∃ i p, i < 100 ∧ a1 = nI i ∧ ndP nd dt i = some p) := Or.inl ⟨rfl, fun z => hpx1 ⟨z.1, z.2.1, (leN (by decide)).mpr z.2.2⟩⟩
    have hth0b : th = 1 := thR_uniq htR hkR
    have hnew : LVx K4 F4 o x m9 := ⟨_, _, lb, T, row, h9, ai, ad, J, pts, lens, B, d, tc, nd, dt, pl, dd, S, lim, lk, bc, bg, bp, hx4, hm4, m3, ko4, hKxo, hmo, NT_world hNT (fun a q i ha => (hfx a q i ha).trans (hfr a q i ha)), hk, RS_off hk (hsame) hF3m⟩
    have hth0 : th = 1 := thR_uniq htR hkR
    refine lv_istore (lv' := [(6, .int r2), (5, .int (nI 1)), (4, .int (nI i)), (0, .ref b), (1, .ref x), (2, .ref m9), (3, .ref o)]) hx hb dL_law_1028 hl (by decide) rfl (fun ls hl => ?_)
    refine lv_aload_n hx hb dL_law_1030 rfl (lv_at hl 5 rfl) ?_
    refine g_cV (v := (some (.int (nI th)))) (As := []) (b := m9) (rest := []) hx hb hml hown hts hN hW.1 (m_thrown l Γ K4 F4 m9 (nI th) km4 hth4) gL_law_X7_thrown rfl km4 (by decide) rfl (na := 0) rfl (by decide +kernel) ⟨by show _ ≤ 2048; decide, by show _ ≤ 84000; decide⟩ ⟨by show _ ≤ 601024; omega, by show _ ≤ 7293000; omega⟩ rfl hl.1 (Nat.le_of_ble_eq_true rfl) dL_law_1031 ?_
    show W _ _ _ _ _ _ _ _ _ _ _ _ _ _ _ (F0 m 1034 ls [.int (nI th)])
    refine lv_iload hx hb dL_law_1034 (lv_at hl 1 rfl) ?_
    refine lv_icmp_eq (tgt := 1041) hx hb dL_law_1036 (by decide) (fun z1 => ?_) (fun z1 => ?_)
    · refine lv_iload hx hb dL_law_1041 (lv_at hl 1 rfl) ?_
      refine lv_if_ne (tgt := 1058) hx hb dL_law_1043 (by decide) (fun z2 => ?_) (fun z2 => ?_)
      · have z2 : ¬ 1 = 0 := fun z => z2 ((nI_eq0 (by omega)).mpr z)
        refine lv_goto (tgt := 1173) hx hb dL_law_1058 (by decide) ?_
        refine W.widen (k := cl + 2) (n := sl + 13) (by omega) (by omega) ?_
        exact kk K4 F4 H locs ls hnew hW (lv_sub hl [2, 3, 4, 5, 6] rfl)
      · have z2 : 1 = 0 := (nI_eq0 (by omega)).mp z2
        exact absurd z2 (by decide)
    · exact absurd (by rw [hth0]) z1
  · subst hk0
    subst hKK
    have hpx2 := hpx2.elim (fun z => absurd z.1 (by decide)) (fun z => z.2)
    have hkR : thR 2 (okId a1 = true ∧ ¬ a2 < 0 ∧ a2 < nI 5) (∃ i p, i < 100 ∧ a1 = nI i ∧ ndP nd dt i = some p) := Or.inr (Or.inl ⟨rfl, ⟨⟨hpx2.1.1, hpx2.1.2.1, (leN (by decide)).mp hpx2.1.2.2⟩, fun ⟨j, p2, hj, e, hp2⟩ => by rw [ndP_none.mpr (hpx2.2 j e hj)] at hp2; cases hp2⟩⟩)
    have hth0b : th = 2 := thR_uniq htR hkR
    have hnew : LVx K4 F4 o x m9 := ⟨_, _, lb, T, row, h9, ai, ad, J, pts, lens, B, d, tc, nd, dt, pl, dd, S, lim, lk, bc, bg, bp, hx4, hm4, m3, ko4, hKxo, hmo, NT_world hNT (fun a q i ha => (hfx a q i ha).trans (hfr a q i ha)), hk, RS_off hk (hsame) hF3m⟩
    have hth0 : th = 2 := thR_uniq htR hkR
    refine lv_istore (lv' := [(6, .int r2), (5, .int (nI 2)), (4, .int (nI i)), (0, .ref b), (1, .ref x), (2, .ref m9), (3, .ref o)]) hx hb dL_law_1028 hl (by decide) rfl (fun ls hl => ?_)
    refine lv_aload_n hx hb dL_law_1030 rfl (lv_at hl 5 rfl) ?_
    refine g_cV (v := (some (.int (nI th)))) (As := []) (b := m9) (rest := []) hx hb hml hown hts hN hW.1 (m_thrown l Γ K4 F4 m9 (nI th) km4 hth4) gL_law_X7_thrown rfl km4 (by decide) rfl (na := 0) rfl (by decide +kernel) ⟨by show _ ≤ 2048; decide, by show _ ≤ 84000; decide⟩ ⟨by show _ ≤ 601024; omega, by show _ ≤ 7293000; omega⟩ rfl hl.1 (Nat.le_of_ble_eq_true rfl) dL_law_1031 ?_
    show W _ _ _ _ _ _ _ _ _ _ _ _ _ _ _ (F0 m 1034 ls [.int (nI th)])
    refine lv_iload hx hb dL_law_1034 (lv_at hl 1 rfl) ?_
    refine lv_icmp_eq (tgt := 1041) hx hb dL_law_1036 (by decide) (fun z1 => ?_) (fun z1 => ?_)
    · refine lv_iload hx hb dL_law_1041 (lv_at hl 1 rfl) ?_
      refine lv_if_ne (tgt := 1058) hx hb dL_law_1043 (by decide) (fun z2 => ?_) (fun z2 => ?_)
      · have z2 : ¬ 2 = 0 := fun z => z2 ((nI_eq0 (by omega)).mpr z)
        refine lv_goto (tgt := 1173) hx hb dL_law_1058 (by decide) ?_
        refine W.widen (k := cl + 2) (n := sl + 13) (by omega) (by omega) ?_
        exact kk K4 F4 H locs ls hnew hW (lv_sub hl [2, 3, 4, 5, 6] rfl)
      · have z2 : 2 = 0 := (nI_eq0 (by omega)).mp z2
        exact absurd z2 (by decide)
    · exact absurd (by rw [hth0]) z1

set_option maxHeartbeats 4000000 in
set_option maxRecDepth 100000 in
theorem s_walk {p : Program} {l : Launch} {e : Env} {s : State} {m : MethodId} {below : List Frame} {meth : Method} {c : Code} {b L : Nat} {xs : Nat → Int32} {Γ : gG} (hC : LCt p l s m meth c b L xs Γ) (hL : L ≤ 3585) (i : Nat) (hi : i + 7 ≤ L) (o x m9 cl sl : Nat) (hcl : cl + 2 ≤ 601024) (hsl : sl + 13 ≤ 7293000)
    (kk : ∀ (K : gK) (F : gF) (H : Heap) (locs : List Loc) (ls : Array Slot), LVx K F o x m9 → gW Γ (fun q : Nat => s.heap.size ≤ q) s.heap K F H locs → lv_has ls 8 [(4, .int (nI i)), (0, .ref b), (1, .ref x), (2, .ref m9), (3, .ref o)] → W p l e room_1 s m #[Value.ref b] below meth c H locs (cl + 2) (sl + 13) (lw_Z below #[Value.ref b] s) (F0 m 1173 ls [])) :
    ∀ (K : gK) (F : gF) (H : Heap) (locs : List Loc) (ls : Array Slot), LVx K F o x m9 → gW Γ (fun q : Nat => s.heap.size ≤ q) s.heap K F H locs → lv_has ls 8 [(4, .int (nI i)), (0, .ref b), (1, .ref x), (2, .ref m9), (3, .ref o)] → W p l e room_1 s m #[Value.ref b] below meth c H locs (cl) (sl) (lw_Z below #[Value.ref b] s) (F0 m 1061 ls []) := by
  intro K F H locs ls hLV hW hl
  obtain ⟨⟨hx, hb, hr, hml, hown, hts0, hX, hbl, hlocks, hgv⟩, hN, hT0, hNc, hfl⟩ := hC
  have hbA : ¬ (fun q : Nat => s.heap.size ≤ q) b := Nat.not_le.mpr hbl
  have hown : s.vm.findClass RL = some m.cls := hown
  have hts : ∀ w ∈ wsL_law, w.before #[Value.ref b] s = true := fun w h => hts0 w (wsL_law_in w h)
  obtain ⟨Kx, Km, lb, T, row, h9, ai, ad, J, pts, lens, B, d, tc, nd, dt, pl, dd, S, lim, lk, bc, bg, bp, hKx, hKm, hdis, hKo, hxo, hmo, hNT, hk, hRS⟩ := hLV
  have hp9 := hNT.2.2.2.2.2.2.2.2
  have hAS := AS_NT hNT.2.2.2.2.2.2.2.1 hp9
  have hoP := okP_NT hp9
  have hlc := lcP_nd nd dt
  have h60 : lcP (ndP nd dt) ≤ 60 := by rw [hlc]; exact hp9.2.2.2.2.2.1
  have hd0 := hNT.2.1.1
  have hd4 := hNT.2.1.2
  have hS100 : S.length ≤ 100 := Nat.le_trans hNT.2.2.2.2.2.2.1.2.2.2.2.2.2.2.2.2.1 hNT.2.2.2.2.2.2.1.2.2.2.2.2.2.2.2.2.2.1
  have hid : ∀ i a, i < 100 → nd i = some a → (dt a).1 = i := fun i a hi ha => (hp9.2.1 i a hi ha).2.1
  have hlt : ∀ a q, K a = some q → a < H.size := fun a q ha => (hW.1 a q ha).lt
  have kx : Kx x = some (6, 0) := hNT.1.1
  have hTHk : ∀ K1 : gK, (∀ a q, K1 a = some q → K a = some q) → gTH (gA K1 H.size) s H := fun K1 h1 => gTH.narrow (A := fun q : Nat => s.heap.size ≤ q) (fun q hq => by
    rcases hq with ⟨k, hk⟩ | hq
    · exact hW.2.2.1 q k (h1 q k hk)
    · exact Nat.le_trans hW.2.1.1 hq) (gTH.kept (fun a ha hA => hW.2.1.2.1 a ha hA) hT0)
  obtain ⟨a1, ha1⟩ : ∃ a, a = xs (nI (i + 1)).toNatClampNeg := ⟨_, rfl⟩
  refine lv_aload_n hx hb dL_law_1061 rfl (lv_at hl 2 rfl) ?_
  refine lv_aload_n hx hb dL_law_1062 rfl (lv_at hl 1 rfl) ?_
  refine lv_iload hx hb dL_law_1063 (lv_at hl 0 rfl) ?_
  refine lv_iconst (v := nI 1) hx hb dL_law_1065 (by decide) ?_
  refine lv_iadd hx hb dL_law_1066 ?_
  refine g_asi (show _ = nI (i + 1) from (nI_add _ _).trans (by rfl)) ?_
  refine va_sld hx hb hX hbl hbA hW.2.1 (vp_in_nI (show i + 1 < L by omega) (by omega)) dL_law_1067 ?_
  refine g_asi (show _ = a1 from ha1.symm) ?_
  refine lv_aload_n hx hb dL_law_1068 rfl (lv_at hl 4 rfl) ?_
  refine g_lS (K1 := va_up Kx o (some (9, 1))) (As := [.ref x, .int a1, .ref o]) (rest := []) hx hb hml hown hts hN hW (fun a q ha => by
    by_cases e : a = o
    · rw [e] at ha ⊢; rw [va_up_self] at ha; rw [← ha]; exact hKo
    · rw [va_up_ne _ _ e] at ha; exact hKx a q ha) (hTHk _ (fun a q ha => by
    by_cases e : a = o
    · rw [e] at ha ⊢; rw [va_up_self] at ha; rw [← ha]; exact hKo
    · rw [va_up_ne _ _ e] at ha; exact hKx a q ha)) hNc (L_walk l Γ Kx F H.size x o kx hxo a1 (c_walk l hfl Γ Kx F H.size x lb T row h9 ai ad J pts lens d tc nd dt pl dd S lim lk bc bg bp hNT a1) (fun v K' F' h => by obtain ⟨_, _, _, _, _, _, hv⟩ := h; exact ⟨_, hv⟩) (fun E hE => hE.1)) gL_law_L_walk rfl (na := 3) rfl (by decide +kernel) ⟨by show _ ≤ 2048; decide, by show _ ≤ 84000; decide⟩ ⟨by show _ ≤ 601024; omega, by show _ ≤ 7293000; omega⟩ rfl hl.1 (Nat.le_of_ble_eq_true rfl) dL_law_1069 (fun v K1 F1 H locs hp hA1 hW hsz1 => ?_)
  obtain ⟨k, Kx', hv, hK1, hKxo, hcase⟩ := hp
  subst hv
  subst hK1
  obtain ⟨m1, m2, m3, m4⟩ := mid_x hKx hKm hdis hKo hxo hmo hlt hA1 hKxo
  have hF2m : ∀ a q i, Km a = some q → fMg F F1 (va_up Kx' o (some (9, 1))) a i = F a i := fun a q i ha => fMg_old (m2 a q ha).2
  have hF2x : ∀ a q i, Kx' a = some q → fMg F F1 (va_up Kx' o (some (9, 1))) a i = F1 a i := fun a q i ha => fMg_new (show va_up Kx' o (some (9, 1)) a = some q by rw [va_up_ne _ _ (fun e => by rw [e, hKxo] at ha; cases ha)]; exact ha)
  have hF2o : fMg F F1 (va_up Kx' o (some (9, 1))) o 0 = F1 o 0 := fMg_new (va_up_self _ _ _)
  have m2' : ∀ a q, Km a = some q → kMg K (va_up Kx o (some (9, 1))) (va_up Kx' o (some (9, 1))) a = some q := fun a q ha => (m2 a q ha).1
  generalize kMg K (va_up Kx o (some (9, 1))) (va_up Kx' o (some (9, 1))) = K2 at hW m1 m2' m4
  generalize fMg F F1 (va_up Kx' o (some (9, 1))) = F2 at hW hF2m hF2x hF2o
  have hRS2 := RS_off hk hRS hF2m
  show W _ _ _ _ _ _ _ _ _ _ _ _ _ _ _ (F0 m 1072 ls [.int (nI k)])
  refine lv_istore (lv' := [(5, .int (nI k)), (4, .int (nI i)), (0, .ref b), (1, .ref x), (2, .ref m9), (3, .ref o)]) hx hb dL_law_1072 hl (by decide) rfl (fun ls hl => ?_)
  refine lv_aload_n hx hb dL_law_1074 rfl (lv_at hl 4 rfl) ?_
  refine lv_aload_n hx hb dL_law_1075 rfl (lv_at hl 2 rfl) ?_
  refine lv_iload hx hb dL_law_1076 (lv_at hl 1 rfl) ?_
  refine lv_iconst (v := nI 1) hx hb dL_law_1078 (by decide) ?_
  refine lv_iadd hx hb dL_law_1079 ?_
  refine g_asi (show _ = nI (i + 1) from (nI_add _ _).trans (by rfl)) ?_
  refine va_sld hx hb hX hbl hbA hW.2.1 (vp_in_nI (show i + 1 < L by omega) (by omega)) dL_law_1080 ?_
  refine g_asi (show _ = a1 from ha1.symm) ?_
  refine g_mVF (K1 := Km) (As := [.int a1]) (b := m9) (rest := []) hx hb hml hown hts hN hW m2' (m_walk l Γ Km F2 H.size m9 B hk d (ndP nd dt) (tMap (fL dt dd) tc) S lk bc bg bp hRS2 hAS a1) gL_law_X7_walk rfl hk.1 (by decide) rfl (na := 1) rfl (by decide +kernel) ⟨by show _ ≤ 2048; decide, by show _ ≤ 84000; decide⟩ ⟨by show _ ≤ 601024; omega, by show _ ≤ 7293000; omega⟩ rfl hl.1 (Nat.le_of_ble_eq_true rfl) dL_law_1081 (fun v K3 F3 H locs hp hA3 hW hsz2 => ?_)
  obtain ⟨th, r2, hv, hK3, hth, htR, hsame, hzero⟩ := hp
  subst hv
  subst hK3
  have n1 := mid_m m2'
  have hF3m : ∀ a q i, K3 a = some q → fMg F2 F3 K3 a i = F3 a i := fun a q i ha => fMg_new ha
  have hF3x : ∀ a i, K3 a = none → fMg F2 F3 K3 a i = F2 a i := fun a i ha => fMg_old ha
  generalize kMg K2 K3 K3 = K4 at hW n1
  generalize fMg F2 F3 K3 = F4 at hW hF3m hF3x
  have hth4 : F4 m9 0 = .int (nI th) := (hF3m m9 _ 0 hk.1).trans hth
  have km4 : K4 m9 = some (7, 0) := n1 _ _ (m2' _ _ hk.1)
  have ko4 : K4 o = some (9, 1) := n1 _ _ m4
  have hx4 : ∀ a q, Kx' a = some q → K4 a = some q := fun a q ha => n1 a q (m1 a q ha)
  have hm4 : ∀ a q, K3 a = some q → K4 a = some q := fun a q ha => n1 a q (m2' a q ha)
  have hfx : ∀ a q i, Kx' a = some q → F4 a i = F1 a i := fun a q i ha => (hF3x a i (m3 a q ha)).trans (hF2x a q i ha)
  have hfo : F4 o 0 = F1 o 0 := (hF3x o 0 hmo).trans hF2o
  rcases hcase with ⟨hk0, r, F5, ⟨q, hq, hrq⟩, hfr, hFo⟩ | ⟨hk0, hpx1, hKK, hfr⟩ | ⟨hk0, hpx2, hKK, hfr⟩
  all_goals show W _ _ _ _ _ _ _ _ _ _ _ _ _ _ _ (F0 m 1084 ls [.int r2])
  · subst hk0
    obtain ⟨hK8, hF8, j, a, e1, ha, hv⟩ := hq
    cases hv
    subst hK8
    rw [hF8] at hfr
    have hkR : thR 0 (¬ a1 < 0 ∧ a1 < nI (tSz (tMap (fL dt dd) tc))) True := Or.inr (Or.inr ⟨rfl, (by have hj : j < (tPre tc).length := (List.getElem?_eq_some_iff.mp ha).1; have h8 := hp9.2.2.2.2.1; have h7 := hp9.2.2.2.2.2.1; rw [tPre_len] at hj; rw [e1, tSz_map]; exact ⟨nI_nn (by omega), (nI_ltI (by omega) (by omega)).mpr hj⟩), trivial⟩)
    have hzero := hzero (thR_uniq htR hkR)
    have hr2 := hzero j (fL dt dd a) e1 (by rw [tPre_map, List.getElem?_map, ha]; rfl)
    have hnew : LVx K4 F4 o x m9 := ⟨_, _, lb, T, row, h9, ai, ad, J, pts, lens, B, d, tc, nd, dt, pl, dd, S, lim, lk, bc, bg, bp, hx4, hm4, m3, ko4, hKxo, hmo, NT_world hNT (fun a q i ha => (hfx a q i ha).trans (hfr a q i ha)), hk, RS_off hk hsame hF3m⟩
    have hth0 : th = 0 := thR_uniq htR hkR
    refine lv_istore (lv' := [(6, .int r2), (5, .int (nI 0)), (4, .int (nI i)), (0, .ref b), (1, .ref x), (2, .ref m9), (3, .ref o)]) hx hb dL_law_1084 hl (by decide) rfl (fun ls hl => ?_)
    refine lv_aload_n hx hb dL_law_1086 rfl (lv_at hl 5 rfl) ?_
    refine g_cV (v := (some (.int (nI th)))) (As := []) (b := m9) (rest := []) hx hb hml hown hts hN hW.1 (m_thrown l Γ K4 F4 m9 (nI th) km4 hth4) gL_law_X7_thrown rfl km4 (by decide) rfl (na := 0) rfl (by decide +kernel) ⟨by show _ ≤ 2048; decide, by show _ ≤ 84000; decide⟩ ⟨by show _ ≤ 601024; omega, by show _ ≤ 7293000; omega⟩ rfl hl.1 (Nat.le_of_ble_eq_true rfl) dL_law_1087 ?_
    show W _ _ _ _ _ _ _ _ _ _ _ _ _ _ _ (F0 m 1090 ls [.int (nI th)])
    refine lv_iload hx hb dL_law_1090 (lv_at hl 1 rfl) ?_
    refine lv_icmp_eq (tgt := 1097) hx hb dL_law_1092 (by decide) (fun z1 => ?_) (fun z1 => ?_)
    · refine lv_iload hx hb dL_law_1097 (lv_at hl 1 rfl) ?_
      refine lv_if_ne (tgt := 1114) hx hb dL_law_1099 (by decide) (fun z2 => ?_) (fun z2 => ?_)
      · have z2 : ¬ 0 = 0 := fun z => z2 ((nI_eq0 (by omega)).mpr z)
        exact absurd rfl z2
      · have z2 : 0 = 0 := (nI_eq0 (by omega)).mp z2
        refine lv_aload_n hx hb dL_law_1102 rfl (lv_at hl 6 rfl) ?_
        refine lv_iconst (v := nI 0) hx hb dL_law_1103 (by decide) ?_
        refine g_lald (j := 0) hx hb hN hW.1 ko4 (by decide) (show _ = nI 0 from rfl) (by decide) (v := .long r) (hfo.trans hFo) dL_law_1104 ?_
        refine lv_iload hx hb dL_law_1105 (lv_at hl 0 rfl) ?_
        refine lv_i2l (v := r2.toInt64) hx hb dL_law_1107 rfl ?_
        refine W.lcmp hx hb dL_law_1108 ?_
        refine lv_if_eq (tgt := 1114) hx hb dL_law_1109 (by decide) (fun z3 => ?_) (fun z3 => ?_)
        · have z3 : _ := (lg_cmp_eq _ _).mp z3
          refine lv_goto (tgt := 1173) hx hb dL_law_1114 (by decide) ?_
          refine W.widen (k := cl + 2) (n := sl + 13) (by omega) (by omega) ?_
          exact kk K4 F4 H locs ls hnew hW (lv_sub hl [2, 3, 4, 5, 6] rfl)
        · have z3 : ¬ _ := fun z => z3 ((lg_cmp_eq _ _).mpr z)
          exact absurd (by rw [hrq, hr2]) z3
    · exact absurd (by rw [hth0]) z1
  · subst hk0
    subst hKK
    have hpx1 := hpx1.2
    have hkR : thR 1 (¬ a1 < 0 ∧ a1 < nI (tSz (tMap (fL dt dd) tc))) True := Or.inl ⟨rfl, by rw [tSz_map]; exact hpx1⟩
    have hth0b : th = 1 := thR_uniq htR hkR
    have hnew : LVx K4 F4 o x m9 := ⟨_, _, lb, T, row, h9, ai, ad, J, pts, lens, B, d, tc, nd, dt, pl, dd, S, lim, lk, bc, bg, bp, hx4, hm4, m3, ko4, hKxo, hmo, NT_world hNT (fun a q i ha => (hfx a q i ha).trans (hfr a q i ha)), hk, RS_off hk (hsame) hF3m⟩
    have hth0 : th = 1 := thR_uniq htR hkR
    refine lv_istore (lv' := [(6, .int r2), (5, .int (nI 1)), (4, .int (nI i)), (0, .ref b), (1, .ref x), (2, .ref m9), (3, .ref o)]) hx hb dL_law_1084 hl (by decide) rfl (fun ls hl => ?_)
    refine lv_aload_n hx hb dL_law_1086 rfl (lv_at hl 5 rfl) ?_
    refine g_cV (v := (some (.int (nI th)))) (As := []) (b := m9) (rest := []) hx hb hml hown hts hN hW.1 (m_thrown l Γ K4 F4 m9 (nI th) km4 hth4) gL_law_X7_thrown rfl km4 (by decide) rfl (na := 0) rfl (by decide +kernel) ⟨by show _ ≤ 2048; decide, by show _ ≤ 84000; decide⟩ ⟨by show _ ≤ 601024; omega, by show _ ≤ 7293000; omega⟩ rfl hl.1 (Nat.le_of_ble_eq_true rfl) dL_law_1087 ?_
    show W _ _ _ _ _ _ _ _ _ _ _ _ _ _ _ (F0 m 1090 ls [.int (nI th)])
    refine lv_iload hx hb dL_law_1090 (lv_at hl 1 rfl) ?_
    refine lv_icmp_eq (tgt := 1097) hx hb dL_law_1092 (by decide) (fun z1 => ?_) (fun z1 => ?_)
    · refine lv_iload hx hb dL_law_1097 (lv_at hl 1 rfl) ?_
      refine lv_if_ne (tgt := 1114) hx hb dL_law_1099 (by decide) (fun z2 => ?_) (fun z2 => ?_)
      · have z2 : ¬ 1 = 0 := fun z => z2 ((nI_eq0 (by omega)).mpr z)
        refine lv_goto (tgt := 1173) hx hb dL_law_1114 (by decide) ?_
        refine W.widen (k := cl + 2) (n := sl + 13) (by omega) (by omega) ?_
        exact kk K4 F4 H locs ls hnew hW (lv_sub hl [2, 3, 4, 5, 6] rfl)
      · have z2 : 1 = 0 := (nI_eq0 (by omega)).mp z2
        exact absurd z2 (by decide)
    · exact absurd (by rw [hth0]) z1
  · subst hk0
    subst hKK
    exact absurd hpx2.1 (by decide)

set_option maxHeartbeats 4000000 in
set_option maxRecDepth 100000 in
theorem s_count {p : Program} {l : Launch} {e : Env} {s : State} {m : MethodId} {below : List Frame} {meth : Method} {c : Code} {b L : Nat} {xs : Nat → Int32} {Γ : gG} (hC : LCt p l s m meth c b L xs Γ) (hL : L ≤ 3585) (i : Nat) (hi : i + 7 ≤ L) (o x m9 cl sl : Nat) (hcl : cl + 2 ≤ 601024) (hsl : sl + 13 ≤ 7293000)
    (kk : ∀ (K : gK) (F : gF) (H : Heap) (locs : List Loc) (ls : Array Slot), LVx K F o x m9 → gW Γ (fun q : Nat => s.heap.size ≤ q) s.heap K F H locs → lv_has ls 8 [(4, .int (nI i)), (0, .ref b), (1, .ref x), (2, .ref m9), (3, .ref o)] → W p l e room_1 s m #[Value.ref b] below meth c H locs (cl + 2) (sl + 13) (lw_Z below #[Value.ref b] s) (F0 m 1173 ls [])) :
    ∀ (K : gK) (F : gF) (H : Heap) (locs : List Loc) (ls : Array Slot), LVx K F o x m9 → gW Γ (fun q : Nat => s.heap.size ≤ q) s.heap K F H locs → lv_has ls 8 [(4, .int (nI i)), (0, .ref b), (1, .ref x), (2, .ref m9), (3, .ref o)] → W p l e room_1 s m #[Value.ref b] below meth c H locs (cl) (sl) (lw_Z below #[Value.ref b] s) (F0 m 1117 ls []) := by
  intro K F H locs ls hLV hW hl
  obtain ⟨⟨hx, hb, hr, hml, hown, hts0, hX, hbl, hlocks, hgv⟩, hN, hT0, hNc, hfl⟩ := hC
  have hbA : ¬ (fun q : Nat => s.heap.size ≤ q) b := Nat.not_le.mpr hbl
  have hown : s.vm.findClass RL = some m.cls := hown
  have hts : ∀ w ∈ wsL_law, w.before #[Value.ref b] s = true := fun w h => hts0 w (wsL_law_in w h)
  obtain ⟨Kx, Km, lb, T, row, h9, ai, ad, J, pts, lens, B, d, tc, nd, dt, pl, dd, S, lim, lk, bc, bg, bp, hKx, hKm, hdis, hKo, hxo, hmo, hNT, hk, hRS⟩ := hLV
  have hp9 := hNT.2.2.2.2.2.2.2.2
  have hAS := AS_NT hNT.2.2.2.2.2.2.2.1 hp9
  have hoP := okP_NT hp9
  have hlc := lcP_nd nd dt
  have h60 : lcP (ndP nd dt) ≤ 60 := by rw [hlc]; exact hp9.2.2.2.2.2.1
  have hd0 := hNT.2.1.1
  have hd4 := hNT.2.1.2
  have hS100 : S.length ≤ 100 := Nat.le_trans hNT.2.2.2.2.2.2.1.2.2.2.2.2.2.2.2.2.1 hNT.2.2.2.2.2.2.1.2.2.2.2.2.2.2.2.2.2.1
  have hid : ∀ i a, i < 100 → nd i = some a → (dt a).1 = i := fun i a hi ha => (hp9.2.1 i a hi ha).2.1
  have hlt : ∀ a q, K a = some q → a < H.size := fun a q ha => (hW.1 a q ha).lt
  have kx : Kx x = some (6, 0) := hNT.1.1
  have hTHk : ∀ K1 : gK, (∀ a q, K1 a = some q → K a = some q) → gTH (gA K1 H.size) s H := fun K1 h1 => gTH.narrow (A := fun q : Nat => s.heap.size ≤ q) (fun q hq => by
    rcases hq with ⟨k, hk⟩ | hq
    · exact hW.2.2.1 q k (h1 q k hk)
    · exact Nat.le_trans hW.2.1.1 hq) (gTH.kept (fun a ha hA => hW.2.1.2.1 a ha hA) hT0)
  obtain ⟨a1, ha1⟩ : ∃ a, a = xs (nI (i + 1)).toNatClampNeg := ⟨_, rfl⟩
  refine lv_aload_n hx hb dL_law_1117 rfl (lv_at hl 2 rfl) ?_
  refine lv_aload_n hx hb dL_law_1118 rfl (lv_at hl 1 rfl) ?_
  refine lv_iload hx hb dL_law_1119 (lv_at hl 0 rfl) ?_
  refine lv_iconst (v := nI 1) hx hb dL_law_1121 (by decide) ?_
  refine lv_iadd hx hb dL_law_1122 ?_
  refine g_asi (show _ = nI (i + 1) from (nI_add _ _).trans (by rfl)) ?_
  refine va_sld hx hb hX hbl hbA hW.2.1 (vp_in_nI (show i + 1 < L by omega) (by omega)) dL_law_1123 ?_
  refine g_asi (show _ = a1 from ha1.symm) ?_
  refine lv_aload_n hx hb dL_law_1124 rfl (lv_at hl 4 rfl) ?_
  refine g_lS (K1 := va_up Kx o (some (9, 1))) (As := [.ref x, .int a1, .ref o]) (rest := []) hx hb hml hown hts hN hW (fun a q ha => by
    by_cases e : a = o
    · rw [e] at ha ⊢; rw [va_up_self] at ha; rw [← ha]; exact hKo
    · rw [va_up_ne _ _ e] at ha; exact hKx a q ha) (hTHk _ (fun a q ha => by
    by_cases e : a = o
    · rw [e] at ha ⊢; rw [va_up_self] at ha; rw [← ha]; exact hKo
    · rw [va_up_ne _ _ e] at ha; exact hKx a q ha)) hNc (L_count l Γ Kx F H.size x o kx hxo a1 (c_count l hfl Γ Kx F H.size x lb T row h9 ai ad J pts lens d tc nd dt pl dd S lim lk bc bg bp hNT a1) (fun v K' F' h => by obtain ⟨_, _, _, _, _, hv⟩ := h; exact ⟨_, hv⟩) (fun E hE => hE.1)) gL_law_L_count rfl (na := 3) rfl (by decide +kernel) ⟨by show _ ≤ 2048; decide, by show _ ≤ 84000; decide⟩ ⟨by show _ ≤ 601024; omega, by show _ ≤ 7293000; omega⟩ rfl hl.1 (Nat.le_of_ble_eq_true rfl) dL_law_1125 (fun v K1 F1 H locs hp hA1 hW hsz1 => ?_)
  obtain ⟨k, Kx', hv, hK1, hKxo, hcase⟩ := hp
  subst hv
  subst hK1
  obtain ⟨m1, m2, m3, m4⟩ := mid_x hKx hKm hdis hKo hxo hmo hlt hA1 hKxo
  have hF2m : ∀ a q i, Km a = some q → fMg F F1 (va_up Kx' o (some (9, 1))) a i = F a i := fun a q i ha => fMg_old (m2 a q ha).2
  have hF2x : ∀ a q i, Kx' a = some q → fMg F F1 (va_up Kx' o (some (9, 1))) a i = F1 a i := fun a q i ha => fMg_new (show va_up Kx' o (some (9, 1)) a = some q by rw [va_up_ne _ _ (fun e => by rw [e, hKxo] at ha; cases ha)]; exact ha)
  have hF2o : fMg F F1 (va_up Kx' o (some (9, 1))) o 0 = F1 o 0 := fMg_new (va_up_self _ _ _)
  have m2' : ∀ a q, Km a = some q → kMg K (va_up Kx o (some (9, 1))) (va_up Kx' o (some (9, 1))) a = some q := fun a q ha => (m2 a q ha).1
  generalize kMg K (va_up Kx o (some (9, 1))) (va_up Kx' o (some (9, 1))) = K2 at hW m1 m2' m4
  generalize fMg F F1 (va_up Kx' o (some (9, 1))) = F2 at hW hF2m hF2x hF2o
  have hRS2 := RS_off hk hRS hF2m
  show W _ _ _ _ _ _ _ _ _ _ _ _ _ _ _ (F0 m 1128 ls [.int (nI k)])
  refine lv_istore (lv' := [(5, .int (nI k)), (4, .int (nI i)), (0, .ref b), (1, .ref x), (2, .ref m9), (3, .ref o)]) hx hb dL_law_1128 hl (by decide) rfl (fun ls hl => ?_)
  refine lv_aload_n hx hb dL_law_1130 rfl (lv_at hl 4 rfl) ?_
  refine lv_aload_n hx hb dL_law_1131 rfl (lv_at hl 2 rfl) ?_
  refine lv_iload hx hb dL_law_1132 (lv_at hl 1 rfl) ?_
  refine lv_iconst (v := nI 1) hx hb dL_law_1134 (by decide) ?_
  refine lv_iadd hx hb dL_law_1135 ?_
  refine g_asi (show _ = nI (i + 1) from (nI_add _ _).trans (by rfl)) ?_
  refine va_sld hx hb hX hbl hbA hW.2.1 (vp_in_nI (show i + 1 < L by omega) (by omega)) dL_law_1136 ?_
  refine g_asi (show _ = a1 from ha1.symm) ?_
  refine g_mVF (K1 := Km) (As := [.int a1]) (b := m9) (rest := []) hx hb hml hown hts hN hW m2' (m_count l Γ Km F2 H.size m9 B hk d (ndP nd dt) (tMap (fL dt dd) tc) S lk bc bg bp hRS2 hAS a1) gL_law_X7_count rfl hk.1 (by decide) rfl (na := 1) rfl (by decide +kernel) ⟨by show _ ≤ 2048; decide, by show _ ≤ 84000; decide⟩ ⟨by show _ ≤ 601024; omega, by show _ ≤ 7293000; omega⟩ rfl hl.1 (Nat.le_of_ble_eq_true rfl) dL_law_1137 (fun v K3 F3 H locs hp hA3 hW hsz2 => ?_)
  obtain ⟨th, r2, hv, hK3, hth, htR, hsame, hzero⟩ := hp
  subst hv
  subst hK3
  have n1 := mid_m m2'
  have hF3m : ∀ a q i, K3 a = some q → fMg F2 F3 K3 a i = F3 a i := fun a q i ha => fMg_new ha
  have hF3x : ∀ a i, K3 a = none → fMg F2 F3 K3 a i = F2 a i := fun a i ha => fMg_old ha
  generalize kMg K2 K3 K3 = K4 at hW n1
  generalize fMg F2 F3 K3 = F4 at hW hF3m hF3x
  have hth4 : F4 m9 0 = .int (nI th) := (hF3m m9 _ 0 hk.1).trans hth
  have km4 : K4 m9 = some (7, 0) := n1 _ _ (m2' _ _ hk.1)
  have ko4 : K4 o = some (9, 1) := n1 _ _ m4
  have hx4 : ∀ a q, Kx' a = some q → K4 a = some q := fun a q ha => n1 a q (m1 a q ha)
  have hm4 : ∀ a q, K3 a = some q → K4 a = some q := fun a q ha => n1 a q (m2' a q ha)
  have hfx : ∀ a q i, Kx' a = some q → F4 a i = F1 a i := fun a q i ha => (hF3x a i (m3 a q ha)).trans (hF2x a q i ha)
  have hfo : F4 o 0 = F1 o 0 := (hF3x o 0 hmo).trans hF2o
  rcases hcase with ⟨hk0, r, F5, ⟨q, hq, hrq⟩, hfr, hFo⟩ | ⟨hk0, hpx1, hKK, hfr⟩ | ⟨hk0, hpx2, hKK, hfr⟩
  all_goals show W _ _ _ _ _ _ _ _ _ _ _ _ _ _ _ (F0 m 1140 ls [.int r2])
  · subst hk0
    obtain ⟨hK8, hF8, j, hj, e1, hv⟩ := hq
    cases hv
    subst hK8
    rw [hF8] at hfr
    have hkR : thR 0 (¬ a1 < 0 ∧ a1 < nI 8) True := Or.inr (Or.inr ⟨rfl, (by rw [e1]; exact ⟨nI_nn (by omega), (nI_ltI (by omega) (by decide)).mpr hj⟩), trivial⟩)
    have hzero := hzero (thR_uniq htR hkR)
    have hr2 := hzero j hj e1
    have hcn : cntL d (lcP (ndP nd dt)) (tMap (fL dt dd) tc) bc bg bp j = cntA d (gLive nd 100).length tc bc bg bp j := by unfold cntL cntA; rw [hlc, tSz_map, tDp_map]
    have hnew : LVx K4 F4 o x m9 := ⟨_, _, lb, T, row, h9, ai, ad, J, pts, lens, B, d, tc, nd, dt, pl, dd, S, lim, lk, bc, bg, bp, hx4, hm4, m3, ko4, hKxo, hmo, NT_world hNT (fun a q i ha => (hfx a q i ha).trans (hfr a q i ha)), hk, RS_off hk hsame hF3m⟩
    have hth0 : th = 0 := thR_uniq htR hkR
    refine lv_istore (lv' := [(6, .int r2), (5, .int (nI 0)), (4, .int (nI i)), (0, .ref b), (1, .ref x), (2, .ref m9), (3, .ref o)]) hx hb dL_law_1140 hl (by decide) rfl (fun ls hl => ?_)
    refine lv_aload_n hx hb dL_law_1142 rfl (lv_at hl 5 rfl) ?_
    refine g_cV (v := (some (.int (nI th)))) (As := []) (b := m9) (rest := []) hx hb hml hown hts hN hW.1 (m_thrown l Γ K4 F4 m9 (nI th) km4 hth4) gL_law_X7_thrown rfl km4 (by decide) rfl (na := 0) rfl (by decide +kernel) ⟨by show _ ≤ 2048; decide, by show _ ≤ 84000; decide⟩ ⟨by show _ ≤ 601024; omega, by show _ ≤ 7293000; omega⟩ rfl hl.1 (Nat.le_of_ble_eq_true rfl) dL_law_1143 ?_
    show W _ _ _ _ _ _ _ _ _ _ _ _ _ _ _ (F0 m 1146 ls [.int (nI th)])
    refine lv_iload hx hb dL_law_1146 (lv_at hl 1 rfl) ?_
    refine lv_icmp_eq (tgt := 1153) hx hb dL_law_1148 (by decide) (fun z1 => ?_) (fun z1 => ?_)
    · refine lv_iload hx hb dL_law_1153 (lv_at hl 1 rfl) ?_
      refine lv_if_ne (tgt := 1170) hx hb dL_law_1155 (by decide) (fun z2 => ?_) (fun z2 => ?_)
      · have z2 : ¬ 0 = 0 := fun z => z2 ((nI_eq0 (by omega)).mpr z)
        exact absurd rfl z2
      · have z2 : 0 = 0 := (nI_eq0 (by omega)).mp z2
        refine lv_aload_n hx hb dL_law_1158 rfl (lv_at hl 6 rfl) ?_
        refine lv_iconst (v := nI 0) hx hb dL_law_1159 (by decide) ?_
        refine g_lald (j := 0) hx hb hN hW.1 ko4 (by decide) (show _ = nI 0 from rfl) (by decide) (v := .long r) (hfo.trans hFo) dL_law_1160 ?_
        refine lv_iload hx hb dL_law_1161 (lv_at hl 0 rfl) ?_
        refine lv_i2l (v := r2.toInt64) hx hb dL_law_1163 rfl ?_
        refine W.lcmp hx hb dL_law_1164 ?_
        refine lv_if_eq (tgt := 1170) hx hb dL_law_1165 (by decide) (fun z3 => ?_) (fun z3 => ?_)
        · have z3 : _ := (lg_cmp_eq _ _).mp z3
          refine lv_goto (tgt := 1173) hx hb dL_law_1170 (by decide) ?_
          refine W.widen (k := cl + 2) (n := sl + 13) (by omega) (by omega) ?_
          exact kk K4 F4 H locs ls hnew hW (lv_sub hl [2, 3, 4, 5, 6] rfl)
        · have z3 : ¬ _ := fun z => z3 ((lg_cmp_eq _ _).mpr z)
          exact absurd (by rw [hrq, hr2, hcn]) z3
    · exact absurd (by rw [hth0]) z1
  · subst hk0
    subst hKK
    have hpx1 := hpx1.2
    have hkR : thR 1 (¬ a1 < 0 ∧ a1 < nI 8) True := Or.inl ⟨rfl, hpx1⟩
    have hth0b : th = 1 := thR_uniq htR hkR
    have hnew : LVx K4 F4 o x m9 := ⟨_, _, lb, T, row, h9, ai, ad, J, pts, lens, B, d, tc, nd, dt, pl, dd, S, lim, lk, bc, bg, bp, hx4, hm4, m3, ko4, hKxo, hmo, NT_world hNT (fun a q i ha => (hfx a q i ha).trans (hfr a q i ha)), hk, RS_off hk (hsame) hF3m⟩
    have hth0 : th = 1 := thR_uniq htR hkR
    refine lv_istore (lv' := [(6, .int r2), (5, .int (nI 1)), (4, .int (nI i)), (0, .ref b), (1, .ref x), (2, .ref m9), (3, .ref o)]) hx hb dL_law_1140 hl (by decide) rfl (fun ls hl => ?_)
    refine lv_aload_n hx hb dL_law_1142 rfl (lv_at hl 5 rfl) ?_
    refine g_cV (v := (some (.int (nI th)))) (As := []) (b := m9) (rest := []) hx hb hml hown hts hN hW.1 (m_thrown l Γ K4 F4 m9 (nI th) km4 hth4) gL_law_X7_thrown rfl km4 (by decide) rfl (na := 0) rfl (by decide +kernel) ⟨by show _ ≤ 2048; decide, by show _ ≤ 84000; decide⟩ ⟨by show _ ≤ 601024; omega, by show _ ≤ 7293000; omega⟩ rfl hl.1 (Nat.le_of_ble_eq_true rfl) dL_law_1143 ?_
    show W _ _ _ _ _ _ _ _ _ _ _ _ _ _ _ (F0 m 1146 ls [.int (nI th)])
    refine lv_iload hx hb dL_law_1146 (lv_at hl 1 rfl) ?_
    refine lv_icmp_eq (tgt := 1153) hx hb dL_law_1148 (by decide) (fun z1 => ?_) (fun z1 => ?_)
    · refine lv_iload hx hb dL_law_1153 (lv_at hl 1 rfl) ?_
      refine lv_if_ne (tgt := 1170) hx hb dL_law_1155 (by decide) (fun z2 => ?_) (fun z2 => ?_)
      · have z2 : ¬ 1 = 0 := fun z => z2 ((nI_eq0 (by omega)).mpr z)
        refine lv_goto (tgt := 1173) hx hb dL_law_1170 (by decide) ?_
        refine W.widen (k := cl + 2) (n := sl + 13) (by omega) (by omega) ?_
        exact kk K4 F4 H locs ls hnew hW (lv_sub hl [2, 3, 4, 5, 6] rfl)
      · have z2 : 1 = 0 := (nI_eq0 (by omega)).mp z2
        exact absurd z2 (by decide)
    · exact absurd (by rw [hth0]) z1
  · subst hk0
    subst hKK
    exact absurd hpx2.1 (by decide)

set_option maxHeartbeats 4000000 in
set_option maxRecDepth 100000 in
theorem s_looked {p : Program} {l : Launch} {e : Env} {s : State} {m : MethodId} {below : List Frame} {meth : Method} {c : Code} {b L : Nat} {xs : Nat → Int32} {Γ : gG} (hC : LCt p l s m meth c b L xs Γ) (hL : L ≤ 3585) (i : Nat) (hi : i + 7 ≤ L) (o x m9 cl sl : Nat) (hcl : cl + 2 ≤ 601024) (hsl : sl + 13 ≤ 7293000)
    (kk : ∀ (K : gK) (F : gF) (H : Heap) (locs : List Loc) (ls : Array Slot), LVx K F o x m9 → gW Γ (fun q : Nat => s.heap.size ≤ q) s.heap K F H locs → lv_has ls 8 [(4, .int (nI i)), (0, .ref b), (1, .ref x), (2, .ref m9), (3, .ref o)] → W p l e room_1 s m #[Value.ref b] below meth c H locs (cl + 2) (sl + 13) (lw_Z below #[Value.ref b] s) (F0 m 1173 ls [])) :
    ∀ (K : gK) (F : gF) (H : Heap) (locs : List Loc) (ls : Array Slot), LVx K F o x m9 → gW Γ (fun q : Nat => s.heap.size ≤ q) s.heap K F H locs → lv_has ls 8 [(4, .int (nI i)), (0, .ref b), (1, .ref x), (2, .ref m9), (3, .ref o)] → W p l e room_1 s m #[Value.ref b] below meth c H locs (cl) (sl) (lw_Z below #[Value.ref b] s) (F0 m 705 ls []) := by
  intro K F H locs ls hLV hW hl
  obtain ⟨⟨hx, hb, hr, hml, hown, hts0, hX, hbl, hlocks, hgv⟩, hN, hT0, hNc, hfl⟩ := hC
  have hbA : ¬ (fun q : Nat => s.heap.size ≤ q) b := Nat.not_le.mpr hbl
  have hown : s.vm.findClass RL = some m.cls := hown
  have hts : ∀ w ∈ wsL_law, w.before #[Value.ref b] s = true := fun w h => hts0 w (wsL_law_in w h)
  obtain ⟨Kx, Km, lb, T, row, h9, ai, ad, J, pts, lens, B, d, tc, nd, dt, pl, dd, S, lim, lk, bc, bg, bp, hKx, hKm, hdis, hKo, hxo, hmo, hNT, hk, hRS⟩ := hLV
  have hp9 := hNT.2.2.2.2.2.2.2.2
  have hAS := AS_NT hNT.2.2.2.2.2.2.2.1 hp9
  have hoP := okP_NT hp9
  have hlc := lcP_nd nd dt
  have h60 : lcP (ndP nd dt) ≤ 60 := by rw [hlc]; exact hp9.2.2.2.2.2.1
  have hd0 := hNT.2.1.1
  have hd4 := hNT.2.1.2
  have hS100 : S.length ≤ 100 := Nat.le_trans hNT.2.2.2.2.2.2.1.2.2.2.2.2.2.2.2.2.1 hNT.2.2.2.2.2.2.1.2.2.2.2.2.2.2.2.2.2.1
  have hid : ∀ i a, i < 100 → nd i = some a → (dt a).1 = i := fun i a hi ha => (hp9.2.1 i a hi ha).2.1
  have hlt : ∀ a q, K a = some q → a < H.size := fun a q ha => (hW.1 a q ha).lt
  have kx : Kx x = some (6, 0) := hNT.1.1
  have hTHk : ∀ K1 : gK, (∀ a q, K1 a = some q → K a = some q) → gTH (gA K1 H.size) s H := fun K1 h1 => gTH.narrow (A := fun q : Nat => s.heap.size ≤ q) (fun q hq => by
    rcases hq with ⟨k, hk⟩ | hq
    · exact hW.2.2.1 q k (h1 q k hk)
    · exact Nat.le_trans hW.2.1.1 hq) (gTH.kept (fun a ha hA => hW.2.1.2.1 a ha hA) hT0)
  refine lv_aload_n hx hb dL_law_705 rfl (lv_at hl 2 rfl) ?_
  refine g_cV (v := (some (.int (nI lk)))) (As := []) (b := x) (rest := []) hx hb hml hown hts hN (hW.sub hKx).1 (c_looked l Γ Kx F x lb T row h9 ai ad J pts lens d tc nd dt pl dd S lim lk bc bg bp hNT) gL_law_X6_looked rfl kx (by decide) rfl (na := 0) rfl (by decide +kernel) ⟨by show _ ≤ 2048; decide, by show _ ≤ 84000; decide⟩ ⟨by show _ ≤ 601024; omega, by show _ ≤ 7293000; omega⟩ rfl hl.1 (Nat.le_of_ble_eq_true rfl) dL_law_706 ?_
  show W _ _ _ _ _ _ _ _ _ _ _ _ _ _ _ (F0 m 709 ls [.int (nI lk)])
  refine lv_aload_n hx hb dL_law_709 rfl (lv_at hl 3 rfl) ?_
  refine g_mVF (K1 := Km) (As := []) (b := m9) (rest := [.int (nI lk)]) hx hb hml hown hts hN hW hKm (m_looked l Γ Km F H.size m9 B hk d (ndP nd dt) (tMap (fL dt dd) tc) S lk bc bg bp hRS) gL_law_X7_looked rfl hk.1 (by decide) rfl (na := 0) rfl (by decide +kernel) ⟨by show _ ≤ 2048; decide, by show _ ≤ 84000; decide⟩ ⟨by show _ ≤ 601024; omega, by show _ ≤ 7293000; omega⟩ rfl hl.1 (Nat.le_of_ble_eq_true rfl) dL_law_710 (fun v K3 F3 H locs hp hA3 hW hsz2 => ?_)
  obtain ⟨hv, hK3, hRS3⟩ := hp
  subst hv
  subst hK3
  have n1 := mid_m hKm
  have hF3m : ∀ a q i, K3 a = some q → fMg F F3 K3 a i = F3 a i := fun a q i ha => fMg_new ha
  have hF3x : ∀ a i, K3 a = none → fMg F F3 K3 a i = F a i := fun a i ha => fMg_old ha
  generalize kMg K K3 K3 = K4 at hW n1
  generalize fMg F F3 K3 = F4 at hW hF3m hF3x
  have hnew : LVx K4 F4 o x m9 := ⟨Kx, _, lb, T, row, h9, ai, ad, J, pts, lens, B, d, tc, nd, dt, pl, dd, S, lim, lk, bc, bg, bp, fun a q ha => n1 a q (hKx a q ha), fun a q ha => n1 a q (hKm a q ha), hdis, n1 _ _ hKo, hxo, hmo, NT_world hNT (fun a q i ha => hF3x a i (hdis a q ha)), hk, RS_off hk hRS3 hF3m⟩
  show W _ _ _ _ _ _ _ _ _ _ _ _ _ _ _ (F0 m 713 ls [.int (nI lk), .int (nI lk)])
  refine lv_icmp_eq (tgt := 1173) hx hb dL_law_713 (by decide) (fun z1 => ?_) (fun z1 => ?_)
  · refine W.widen (k := cl + 2) (n := sl + 13) (by omega) (by omega) ?_
    exact kk K4 F4 H locs ls hnew hW (lv_sub hl [0, 1, 2, 3, 4] rfl)
  · exact absurd rfl z1

set_option maxHeartbeats 4000000 in
set_option maxRecDepth 100000 in
theorem s_span {p : Program} {l : Launch} {e : Env} {s : State} {m : MethodId} {below : List Frame} {meth : Method} {c : Code} {b L : Nat} {xs : Nat → Int32} {Γ : gG} (hC : LCt p l s m meth c b L xs Γ) (hL : L ≤ 3585) (i : Nat) (hi : i + 7 ≤ L) (o x m9 cl sl : Nat) (hcl : cl + 2 ≤ 601024) (hsl : sl + 13 ≤ 7293000)
    (kk : ∀ (K : gK) (F : gF) (H : Heap) (locs : List Loc) (ls : Array Slot), LVx K F o x m9 → gW Γ (fun q : Nat => s.heap.size ≤ q) s.heap K F H locs → lv_has ls 8 [(4, .int (nI i)), (0, .ref b), (1, .ref x), (2, .ref m9), (3, .ref o)] → W p l e room_1 s m #[Value.ref b] below meth c H locs (cl + 2) (sl + 13) (lw_Z below #[Value.ref b] s) (F0 m 1173 ls [])) :
    ∀ (K : gK) (F : gF) (H : Heap) (locs : List Loc) (ls : Array Slot), LVx K F o x m9 → gW Γ (fun q : Nat => s.heap.size ≤ q) s.heap K F H locs → lv_has ls 8 [(4, .int (nI i)), (0, .ref b), (1, .ref x), (2, .ref m9), (3, .ref o)] → W p l e room_1 s m #[Value.ref b] below meth c H locs (cl) (sl) (lw_Z below #[Value.ref b] s) (F0 m 979 ls []) := by
  intro K F H locs ls hLV hW hl
  obtain ⟨⟨hx, hb, hr, hml, hown, hts0, hX, hbl, hlocks, hgv⟩, hN, hT0, hNc, hfl⟩ := hC
  have hbA : ¬ (fun q : Nat => s.heap.size ≤ q) b := Nat.not_le.mpr hbl
  have hown : s.vm.findClass RL = some m.cls := hown
  have hts : ∀ w ∈ wsL_law, w.before #[Value.ref b] s = true := fun w h => hts0 w (wsL_law_in w h)
  obtain ⟨Kx, Km, lb, T, row, h9, ai, ad, J, pts, lens, B, d, tc, nd, dt, pl, dd, S, lim, lk, bc, bg, bp, hKx, hKm, hdis, hKo, hxo, hmo, hNT, hk, hRS⟩ := hLV
  have hp9 := hNT.2.2.2.2.2.2.2.2
  have hAS := AS_NT hNT.2.2.2.2.2.2.2.1 hp9
  have hoP := okP_NT hp9
  have hlc := lcP_nd nd dt
  have h60 : lcP (ndP nd dt) ≤ 60 := by rw [hlc]; exact hp9.2.2.2.2.2.1
  have hd0 := hNT.2.1.1
  have hd4 := hNT.2.1.2
  have hS100 : S.length ≤ 100 := Nat.le_trans hNT.2.2.2.2.2.2.1.2.2.2.2.2.2.2.2.2.1 hNT.2.2.2.2.2.2.1.2.2.2.2.2.2.2.2.2.2.1
  have hid : ∀ i a, i < 100 → nd i = some a → (dt a).1 = i := fun i a hi ha => (hp9.2.1 i a hi ha).2.1
  have hlt : ∀ a q, K a = some q → a < H.size := fun a q ha => (hW.1 a q ha).lt
  have kx : Kx x = some (6, 0) := hNT.1.1
  have hTHk : ∀ K1 : gK, (∀ a q, K1 a = some q → K a = some q) → gTH (gA K1 H.size) s H := fun K1 h1 => gTH.narrow (A := fun q : Nat => s.heap.size ≤ q) (fun q hq => by
    rcases hq with ⟨k, hk⟩ | hq
    · exact hW.2.2.1 q k (h1 q k hk)
    · exact Nat.le_trans hW.2.1.1 hq) (gTH.kept (fun a ha hA => hW.2.1.2.1 a ha hA) hT0)
  refine lv_aload_n hx hb dL_law_979 rfl (lv_at hl 2 rfl) ?_
  refine g_mVF (K1 := Kx) (As := []) (b := x) (rest := []) hx hb hml hown hts hN hW hKx (c_span l Γ Kx F H.size x lb T row h9 ai ad J pts lens d tc nd dt pl dd S lim lk bc bg bp hNT) gL_law_X6_span rfl kx (by decide) rfl (na := 0) rfl (by decide +kernel) ⟨by show _ ≤ 2048; decide, by show _ ≤ 84000; decide⟩ ⟨by show _ ≤ 601024; omega, by show _ ≤ 7293000; omega⟩ rfl hl.1 (Nat.le_of_ble_eq_true rfl) dL_law_980 (fun v K3 F3 H locs hp hA3 hW hsz2 => ?_)
  obtain ⟨hK3, hNT3, A9, ln9, hp1, hp2, hv⟩ := hp
  subst hv
  subst hK3
  have n1 := mid_m hKx
  have hF3m : ∀ a q i, K3 a = some q → fMg F F3 K3 a i = F3 a i := fun a q i ha => fMg_new ha
  have hF3x : ∀ a i, K3 a = none → fMg F F3 K3 a i = F a i := fun a i ha => fMg_old ha
  generalize kMg K K3 K3 = K4 at hW n1
  generalize fMg F F3 K3 = F4 at hW hF3m hF3x
  have hxm : ∀ a q, Km a = some q → K3 a = none := fun a q ha => by
    cases hc : K3 a with
    | none => rfl
    | some q2 => rw [hdis a q2 hc] at ha; cases ha
  have hRS4 := RS_off hk hRS (fun a q i ha => hF3x a i (hxm a q ha))
  have hNT4 := NT_world hNT3 hF3m
  have hKm4 : ∀ a q, Km a = some q → K4 a = some q := fun a q ha => n1 a q (hKm a q ha)
  show W _ _ _ _ _ _ _ _ _ _ _ _ _ _ _ (F0 m 983 ls [.long (sumN ln9 ((gLive nd 100).length - 1))])
  refine lv_aload_n hx hb dL_law_983 rfl (lv_at hl 3 rfl) ?_
  refine g_mVF (K1 := Km) (As := []) (b := m9) (rest := [.long (sumN ln9 ((gLive nd 100).length - 1))]) hx hb hml hown hts hN hW hKm4 (m_span l Γ Km F4 H.size m9 B hk d (ndP nd dt) (tMap (fL dt dd) tc) S lk bc bg bp hRS4 hoP h60) gL_law_X7_span rfl hk.1 (by decide) rfl (na := 0) rfl (by decide +kernel) ⟨by show _ ≤ 2048; decide, by show _ ≤ 84000; decide⟩ ⟨by show _ ≤ 601024; omega, by show _ ≤ 7293000; omega⟩ rfl hl.1 (Nat.le_of_ble_eq_true rfl) dL_law_984 (fun v K5 F5 H locs hp hA5 hW hsz3 => ?_)
  obtain ⟨r2, hv, hK5, hRS5, A8, ln8, hp3, hp4, hr2⟩ := hp
  subst hv
  subst hK5
  have n2 := mid_m hKm4
  have hF5m : ∀ a q i, K5 a = some q → fMg F4 F5 K5 a i = F5 a i := fun a q i ha => fMg_new ha
  have hF5x : ∀ a i, K5 a = none → fMg F4 F5 K5 a i = F4 a i := fun a i ha => fMg_old ha
  generalize kMg K4 K5 K5 = K6 at hW n2
  generalize fMg F4 F5 K5 = F6 at hW hF5m hF5x
  have hval : sumN ln9 ((gLive nd 100).length - 1) = r2 := by
    rw [hr2, ← hlc]
    exact span_eq hoP (PR_nd hid hp1 hp2) ⟨hp3, hp4⟩
  have hnew : LVx K6 F6 o x m9 := ⟨K3, _, lb, T, row, h9, ai, ad, J, pts, lens, B, d, tc, nd, dt, pl, dd, S, lim, lk, bc, bg, bp, fun a q ha => n2 a q (n1 a q (hKx a q ha)), fun a q ha => n2 a q (hKm4 a q ha), hdis, n2 _ _ (n1 _ _ hKo), hxo, hmo, NT_world hNT4 (fun a q i ha => hF5x a i (hdis a q ha)), hk, RS_off hk hRS5 hF5m⟩
  show W _ _ _ _ _ _ _ _ _ _ _ _ _ _ _ (F0 m 987 ls [.long r2, .long (sumN ln9 ((gLive nd 100).length - 1))])
  refine W.lcmp hx hb dL_law_987 ?_
  refine lv_if_eq (tgt := 1173) hx hb dL_law_988 (by decide) (fun z1 => ?_) (fun z1 => ?_)
  · have z1 : _ := (lg_cmp_eq _ _).mp z1
    refine W.widen (k := cl + 2) (n := sl + 13) (by omega) (by omega) ?_
    exact kk K6 F6 H locs ls hnew hW (lv_sub hl [0, 1, 2, 3, 4] rfl)
  · have z1 : ¬ _ := fun z => z1 ((lg_cmp_eq _ _).mpr z)
    exact absurd hval z1
