/-! The class's cells: droplets. -/
theorem gd_shd {q : Nat} (h : q < 6) : gd_sh (4 + 3 * q) = .inl 0 := by
  rcases (by omega : q = 0 ∨ q = 1 ∨ q = 2 ∨ q = 3 ∨ q = 4 ∨ q = 5) with rfl | rfl | rfl | rfl | rfl | rfl <;> rfl
theorem gd_shd0 {q : Nat} (h : q < 6) : gd_sh (5 + 3 * q) = .inr (.int, 60) := by
  rcases (by omega : q = 0 ∨ q = 1 ∨ q = 2 ∨ q = 3 ∨ q = 4 ∨ q = 5) with rfl | rfl | rfl | rfl | rfl | rfl <;> rfl
theorem gd_shd1 {q : Nat} (h : q < 6) : gd_sh (6 + 3 * q) = .inr (.long, 4) := by
  rcases (by omega : q = 0 ∨ q = 1 ∨ q = 2 ∨ q = 3 ∨ q = 4 ∨ q = 5) with rfl | rfl | rfl | rfl | rfl | rfl <;> rfl
theorem gd_avd0 (w : gd_W) {q : Nat} (h : q < 6) : gd_av w (4 + 3 * q) 0 (.array .int) = .ref (5 + 3 * q) := by
  rcases (by omega : q = 0 ∨ q = 1 ∨ q = 2 ∨ q = 3 ∨ q = 4 ∨ q = 5) with rfl | rfl | rfl | rfl | rfl | rfl <;> rfl
theorem gd_avd1 (w : gd_W) {q : Nat} (h : q < 6) : gd_av w (4 + 3 * q) 1 (.array (.long)) = .ref (6 + 3 * q) := by
  rcases (by omega : q = 0 ∨ q = 1 ∨ q = 2 ∨ q = 3 ∨ q = 4 ∨ q = 5) with rfl | rfl | rfl | rfl | rfl | rfl <;> rfl
/-- object q stands for droplet d; A: who is awaited by whom; E: how many moves are done -/
def gr_E (w : gd_W) (S : gs_T) (A : Nat → Option Nat) (q d E : Nat) : Prop :=
  (w.1 (4 + 3 * q) 2 = nI d ∧ d < 60) ∧ (w.1 (4 + 3 * q) 3 = nI (gs_c S d) ∧ gs_c S d < 64) ∧ (w.1 (4 + 3 * q) 4 = nI (gs_u S d) ∧ gs_u S d ≤ 2) ∧ (w.1 (4 + 3 * q) 5 = nI (gs_p S d) ∧ gs_p S d ≤ 60) ∧
  (w.1 (4 + 3 * q) 6 = nI (E + gs_l S d) ∧ E + gs_l S d ≤ 60) ∧ w.1 (4 + 3 * q) 7 = nI E ∧ (w.1 (4 + 3 * q) 8 = gs_pr (gs_i S d) ∧ gs_i S d ≤ 60) ∧ (w.1 (4 + 3 * q) 9 = gm_nO (A d) ∧ ∀ x, A d = some x → x < 60) ∧
  (∀ k, k < gs_l S d → w.1 (5 + 3 * q) (E + k) = nI (gs_m S d k) ∧ gs_m S d k < 5) ∧ ∀ k, k < 4 → w.2.1 (6 + 3 * q) k = gs_sh S d k
theorem gs_isNone {x : Option Nat} (h : ¬ x = none) : x.isNone = false := by cases x with
  | none => exact absurd rfl h
  | some a => rfl
theorem gs_pr_m1 {n : Nat} (hn : n < 2 ^ 31) : gs_pr n = -1 ↔ n = 0 := by
  cases n with
  | zero => exact ⟨fun _ => rfl, fun _ => rfl⟩
  | succ k =>
    constructor
    · intro h
      exact absurd (show nI k < 0 by have h2 : nI k = -1 := h; rw [h2]; decide) (nI_pos (by omega))
    · intro h; omega
theorem gm_nO_m1 {x : Option Nat} (hx : ∀ a, x = some a → a < 2 ^ 31) : gm_nO x = -1 ↔ x = none := by
  cases x with
  | none => exact ⟨fun _ => rfl, fun _ => rfl⟩
  | some a =>
    constructor
    · intro h
      exact absurd (show nI a < 0 by have h2 : nI a = -1 := h; rw [h2]; decide) (nI_pos (hx a rfl))
    · intro h; cases h
theorem gd_rI_rI (w : gd_W) (k : Nat) (f g : Nat → Int32) {h : Nat → Int32} (e : g = h) : gd_rI (gd_rI w k f) k g = gd_rI w k h := by
  subst e
  unfold gd_rI
  congr 1
  funext a
  by_cases e : a = k <;> simp [e]
set_option maxRecDepth 100000 in
theorem c3_left {l : Launch} {D : va_G} {tC : FieldType → ClassId} {ad : Nat → Nat} (hinj : ∀ i j, ad i = ad j → i = j) {S : gs_T} {A : Nat → Option Nat} {E0 : Nat} (w : gd_W) (q : Nat) (hq : q < 6) (d : Nat) (hD : gr_E w S A q d E0) : gd_Ct l D tC ad 45 0 0 y_D_movesLeft c_D_movesLeft 1 (some .int) [.ref (4 + 3 * q)] w (some (.int (nI (gs_l S d)))) w := by
  refine gd_Ct_of rfl hinj (Nat.le_of_ble_eq_true rfl) ?_
  intro p e s m args below meth c E hr hlk
  have K := k_D_movesLeft
  have hA : ∀ q, gd_A ad 45 s.heap.size q → gd_A ad 45 s.heap.size q := fun _ h => h
  obtain ⟨⟨h2, hd6⟩, ⟨h3, hc⟩, ⟨h4, hu⟩, ⟨h5, hp⟩, ⟨h6, hE⟩, h7, ⟨h8, hi⟩, ⟨h9, ha⟩, hm, hn⟩ := hD
  refine gd_r E K 1 (pc' := 1) (lv' := [(0, .ref (4 + 3 * q))]) (st' := [.ref (4 + 3 * q)]) (w' := w) rfl ?_
  refine gd_getd E K (K.1 1 (.getfield 32, 0) rfl).1 rfl (by omega) (gd_shd hq) rfl (v := .int (nI (E0 + gs_l S d))) (by show Value.int _ = Value.int _; rw [h6]) ?_
  refine gd_r E K 1 (pc' := 5) (lv' := [(0, .ref (4 + 3 * q))]) (st' := [.ref (4 + 3 * q), .int (nI (E0 + gs_l S d))]) (w' := w) rfl ?_
  refine gd_getd E K (K.1 5 (.getfield 35, 0) rfl).1 rfl (by omega) (gd_shd hq) rfl (v := .int (nI E0)) (by show Value.int _ = Value.int _; rw [h7]) ?_
  refine gd_r E K 1 (pc' := 9) (lv' := [(0, .ref (4 + 3 * q))]) (st' := [.int ((nI (E0 + gs_l S d)) - (nI E0))]) (w' := w) rfl ?_
  exact gd_iretq E hr hlk (K.1 9 (.ireturn, 0) rfl).1 (by rw [pk_sub (by omega)]; congr 1; omega) (rfl)
set_option maxRecDepth 100000 in
theorem c3_isFree {l : Launch} {D : va_G} {tC : FieldType → ClassId} {ad : Nat → Nat} (hinj : ∀ i j, ad i = ad j → i = j) {S : gs_T} {A : Nat → Option Nat} {E0 : Nat} (w : gd_W) (q : Nat) (hq : q < 6) (d : Nat) (hD : gr_E w S A q d E0) : gd_Ct l D tC ad 45 1 20 y_D_isFree c_D_isFree 1 (some .boolean) [.ref (4 + 3 * q)] w (some (.int (gs_b (decide (gs_l S d = 0) && (A d).isNone)))) w := by
  refine gd_Ct_of rfl hinj (Nat.le_of_ble_eq_true rfl) ?_
  intro p e s m args below meth c E hr hlk
  have K := k_D_isFree
  have hA : ∀ q, gd_A ad 45 s.heap.size q → gd_A ad 45 s.heap.size q := fun _ h => h
  have hD0 := hD
  obtain ⟨⟨h2, hd6⟩, ⟨h3, hc⟩, ⟨h4, hu⟩, ⟨h5, hp⟩, ⟨h6, hE⟩, h7, ⟨h8, hi⟩, ⟨h9, ha⟩, hm, hn⟩ := hD
  refine gd_r E K 1 (pc' := 1) (lv' := [(0, .ref (4 + 3 * q))]) (st' := [.ref (4 + 3 * q)]) (w' := w) rfl ?_
  refine gd_cV E hA (av := []) (rest := []) (c3_left hinj w q hq d hD0) (K.1 1 (.invokevirtual 60, 0) rfl).1 ml_D_60 cv_D_movesLeft (by omega) (gd_shd hq) ⟨Nat.le_of_ble_eq_true rfl, Nat.le_of_ble_eq_true rfl⟩ ⟨Nat.zero_le _, Nat.zero_le _⟩ rfl (Nat.le_of_ble_eq_true rfl) ?_
  by_cases h1 : gs_l S d = 0
  · refine gd_r E K 1 (pc' := if (nI (gs_l S d)) = 0 then 7 else 19) (lv' := [(0, .ref (4 + 3 * q))]) (st' := []) (w' := w) rfl ?_
    refine gd_it (by rw [h1]; rfl) ?_
    refine gd_r E K 1 (pc' := 8) (lv' := [(0, .ref (4 + 3 * q))]) (st' := [.ref (4 + 3 * q)]) (w' := w) rfl ?_
    refine gd_getd E K (K.1 8 (.getfield 41, 0) rfl).1 rfl (by omega) (gd_shd hq) rfl (v := .int (gm_nO (A d))) (by show Value.int _ = Value.int _; rw [h9]) ?_
    refine gd_r E K 1 (pc' := 12) (lv' := [(0, .ref (4 + 3 * q))]) (st' := [.int (-1), .int (gm_nO (A d))]) (w' := w) rfl ?_
    by_cases hn1 : A d = none
    · refine gd_r E K 1 (pc' := if (gm_nO (A d)) = (-1) then 15 else 19) (lv' := [(0, .ref (4 + 3 * q))]) (st' := []) (w' := w) rfl ?_
      refine gd_it ((gm_nO_m1 (fun a h => by have := ha a h; omega)).mpr hn1) ?_
      refine gd_r E K 2 (pc' := 20) (lv' := [(0, .ref (4 + 3 * q))]) (st' := [.int 1]) (w' := w) rfl ?_
      exact gd_zretq E hr hlk (K.1 20 (.ireturn, 0) rfl).1 (by decide) (by simp [h1, hn1, gs_b]) (rfl)
    · refine gd_r E K 1 (pc' := if (gm_nO (A d)) = (-1) then 15 else 19) (lv' := [(0, .ref (4 + 3 * q))]) (st' := []) (w' := w) rfl ?_
      refine gd_if (fun h => hn1 ((gm_nO_m1 (fun a h => by have := ha a h; omega)).mp h)) ?_
      refine gd_r E K 1 (pc' := 20) (lv' := [(0, .ref (4 + 3 * q))]) (st' := [.int 0]) (w' := w) rfl ?_
      exact gd_zretq E hr hlk (K.1 20 (.ireturn, 0) rfl).1 (by decide) (by rw [gs_isNone hn1]; simp [gs_b]) (rfl)
  · refine gd_r E K 1 (pc' := if (nI (gs_l S d)) = 0 then 7 else 19) (lv' := [(0, .ref (4 + 3 * q))]) (st' := []) (w' := w) rfl ?_
    refine gd_if (nI_ne0 (by omega) (by omega)) ?_
    refine gd_r E K 1 (pc' := 20) (lv' := [(0, .ref (4 + 3 * q))]) (st' := [.int 0]) (w' := w) rfl ?_
    exact gd_zretq E hr hlk (K.1 20 (.ireturn, 0) rfl).1 (by decide) (by simp [h1, gs_b]) (rfl)
set_option maxRecDepth 100000 in
theorem c3_takeRoute {l : Launch} {D : va_G} {tC : FieldType → ClassId} {ad : Nat → Nat} (hinj : ∀ i j, ad i = ad j → i = j) (w : gd_W) (q : Nat) (hq : q < 6) (n : Int32) : gd_Cp l D tC ad 45 0 0 y_D_takeRoute c_D_takeRoute 2 none [.ref (4 + 3 * q), .int n] w (fun r w' => r = none ∧ w' = gd_rI w (4 + 3 * q) (upd (upd (w.1 (4 + 3 * q)) 6 n) 7 0)) := by
  refine gd_Cp_of rfl hinj (Nat.le_of_ble_eq_true rfl) ?_
  intro p e s m args below meth c E hr hlk
  have K := k_D_takeRoute
  have hA : ∀ q, gd_A ad 45 s.heap.size q → gd_A ad 45 s.heap.size q := fun _ h => h
  refine gd_r E K 2 (pc' := 2) (lv' := [(0, .ref (4 + 3 * q)), (1, .int n)]) (st' := [.int n, .ref (4 + 3 * q)]) (w' := w) rfl ?_
  refine gd_putd E K (K.1 2 (.putfield 32, 0) rfl).1 rfl (by omega) (gd_shd hq) rfl ?_
  refine gd_r E K 2 (pc' := 7) (lv' := [(0, .ref (4 + 3 * q)), (1, .int n)]) (st' := [.int 0, .ref (4 + 3 * q)]) (w' := gd_rI w (4 + 3 * q) (upd (w.1 (4 + 3 * q)) 6 n)) rfl ?_
  refine gd_putd E K (K.1 7 (.putfield 35, 0) rfl).1 rfl (by omega) (gd_shd hq) rfl ?_
  exact gd_vretp E hr hlk (K.1 10 (.return_, 0) rfl).1 (⟨rfl, gd_rI_rI _ _ _ _ (by rw [gd_rI_s])⟩)
/-- a droplet's row as it comes to be -/
def gc_new (f : Nat → Int32) (n c : Int32) : Nat → Int32 := upd (upd (upd (upd (upd (upd (upd (upd f 2 n) 3 c) 4 1) 6 0) 7 0) 8 (-1)) 9 (-1)) 10 0
set_option maxRecDepth 100000 in
theorem c3_come {l : Launch} {D : va_G} {tC : FieldType → ClassId} {ad : Nat → Nat} (hinj : ∀ i j, ad i = ad j → i = j) (w : gd_W) (q : Nat) (hq : q < 6) (n c0 : Int32) : gd_Cp l D tC ad 45 0 0 y_D_comeToBe c_D_comeToBe 3 none [.ref (4 + 3 * q), .int n, .int c0] w (fun r w' => r = none ∧ w' = gd_rI w (4 + 3 * q) (gc_new (w.1 (4 + 3 * q)) n c0)) := by
  refine gd_Cp_of rfl hinj (Nat.le_of_ble_eq_true rfl) ?_
  intro p e s m args below meth c E hr hlk
  have K := k_D_comeToBe
  have hA : ∀ q, gd_A ad 45 s.heap.size q → gd_A ad 45 s.heap.size q := fun _ h => h
  refine gd_r E K 2 (pc' := 2) (lv' := [(0, .ref (4 + 3 * q)), (1, .int n), (2, .int c0)]) (st' := [.int n, .ref (4 + 3 * q)]) (w' := w) rfl ?_
  refine gd_putd E K (K.1 2 (.putfield 19, 0) rfl).1 rfl (by omega) (gd_shd hq) rfl ?_
  refine gd_r E K 2 (pc' := 7) (lv' := [(0, .ref (4 + 3 * q)), (1, .int n), (2, .int c0)]) (st' := [.int c0, .ref (4 + 3 * q)]) (w' := gd_rI w (4 + 3 * q) (upd (w.1 (4 + 3 * q)) 2 n)) rfl ?_
  refine gd_putd E K (K.1 7 (.putfield 23, 0) rfl).1 rfl (by omega) (gd_shd hq) rfl ?_
  refine gd_r E K 2 (pc' := 12) (lv' := [(0, .ref (4 + 3 * q)), (1, .int n), (2, .int c0)]) (st' := [.int 1, .ref (4 + 3 * q)]) (w' := gd_rI (gd_rI w (4 + 3 * q) (upd (w.1 (4 + 3 * q)) 2 n)) (4 + 3 * q) (upd ((gd_rI w (4 + 3 * q) (upd (w.1 (4 + 3 * q)) 2 n)).1 (4 + 3 * q)) 3 c0)) rfl ?_
  refine gd_putd E K (K.1 12 (.putfield 26, 0) rfl).1 rfl (by omega) (gd_shd hq) rfl ?_
  refine gd_r E K 2 (pc' := 17) (lv' := [(0, .ref (4 + 3 * q)), (1, .int n), (2, .int c0)]) (st' := [.int 0, .ref (4 + 3 * q)]) (w' := gd_rI (gd_rI (gd_rI w (4 + 3 * q) (upd (w.1 (4 + 3 * q)) 2 n)) (4 + 3 * q) (upd ((gd_rI w (4 + 3 * q) (upd (w.1 (4 + 3 * q)) 2 n)).1 (4 + 3 * q)) 3 c0)) (4 + 3 * q) (upd ((gd_rI (gd_rI w (4 + 3 * q) (upd (w.1 (4 + 3 * q)) 2 n)) (4 + 3 * q) (upd ((gd_rI w (4 + 3 * q) (upd (w.1 (4 + 3 * q)) 2 n)).1 (4 + 3 * q)) 3 c0)).1 (4 + 3 * q)) 4 1)) rfl ?_
  refine gd_putd E K (K.1 17 (.putfield 32, 0) rfl).1 rfl (by omega) (gd_shd hq) rfl ?_
  refine gd_r E K 2 (pc' := 22) (lv' := [(0, .ref (4 + 3 * q)), (1, .int n), (2, .int c0)]) (st' := [.int 0, .ref (4 + 3 * q)]) (w' := gd_rI (gd_rI (gd_rI (gd_rI w (4 + 3 * q) (upd (w.1 (4 + 3 * q)) 2 n)) (4 + 3 * q) (upd ((gd_rI w (4 + 3 * q) (upd (w.1 (4 + 3 * q)) 2 n)).1 (4 + 3 * q)) 3 c0)) (4 + 3 * q) (upd ((gd_rI (gd_rI w (4 + 3 * q) (upd (w.1 (4 + 3 * q)) 2 n)) (4 + 3 * q) (upd ((gd_rI w (4 + 3 * q) (upd (w.1 (4 + 3 * q)) 2 n)).1 (4 + 3 * q)) 3 c0)).1 (4 + 3 * q)) 4 1)) (4 + 3 * q) (upd ((gd_rI (gd_rI (gd_rI w (4 + 3 * q) (upd (w.1 (4 + 3 * q)) 2 n)) (4 + 3 * q) (upd ((gd_rI w (4 + 3 * q) (upd (w.1 (4 + 3 * q)) 2 n)).1 (4 + 3 * q)) 3 c0)) (4 + 3 * q) (upd ((gd_rI (gd_rI w (4 + 3 * q) (upd (w.1 (4 + 3 * q)) 2 n)) (4 + 3 * q) (upd ((gd_rI w (4 + 3 * q) (upd (w.1 (4 + 3 * q)) 2 n)).1 (4 + 3 * q)) 3 c0)).1 (4 + 3 * q)) 4 1)).1 (4 + 3 * q)) 6 0)) rfl ?_
  refine gd_putd E K (K.1 22 (.putfield 35, 0) rfl).1 rfl (by omega) (gd_shd hq) rfl ?_
  refine gd_r E K 2 (pc' := 27) (lv' := [(0, .ref (4 + 3 * q)), (1, .int n), (2, .int c0)]) (st' := [.int (-1), .ref (4 + 3 * q)]) (w' := gd_rI (gd_rI (gd_rI (gd_rI (gd_rI w (4 + 3 * q) (upd (w.1 (4 + 3 * q)) 2 n)) (4 + 3 * q) (upd ((gd_rI w (4 + 3 * q) (upd (w.1 (4 + 3 * q)) 2 n)).1 (4 + 3 * q)) 3 c0)) (4 + 3 * q) (upd ((gd_rI (gd_rI w (4 + 3 * q) (upd (w.1 (4 + 3 * q)) 2 n)) (4 + 3 * q) (upd ((gd_rI w (4 + 3 * q) (upd (w.1 (4 + 3 * q)) 2 n)).1 (4 + 3 * q)) 3 c0)).1 (4 + 3 * q)) 4 1)) (4 + 3 * q) (upd ((gd_rI (gd_rI (gd_rI w (4 + 3 * q) (upd (w.1 (4 + 3 * q)) 2 n)) (4 + 3 * q) (upd ((gd_rI w (4 + 3 * q) (upd (w.1 (4 + 3 * q)) 2 n)).1 (4 + 3 * q)) 3 c0)) (4 + 3 * q) (upd ((gd_rI (gd_rI w (4 + 3 * q) (upd (w.1 (4 + 3 * q)) 2 n)) (4 + 3 * q) (upd ((gd_rI w (4 + 3 * q) (upd (w.1 (4 + 3 * q)) 2 n)).1 (4 + 3 * q)) 3 c0)).1 (4 + 3 * q)) 4 1)).1 (4 + 3 * q)) 6 0)) (4 + 3 * q) (upd ((gd_rI (gd_rI (gd_rI (gd_rI w (4 + 3 * q) (upd (w.1 (4 + 3 * q)) 2 n)) (4 + 3 * q) (upd ((gd_rI w (4 + 3 * q) (upd (w.1 (4 + 3 * q)) 2 n)).1 (4 + 3 * q)) 3 c0)) (4 + 3 * q) (upd ((gd_rI (gd_rI w (4 + 3 * q) (upd (w.1 (4 + 3 * q)) 2 n)) (4 + 3 * q) (upd ((gd_rI w (4 + 3 * q) (upd (w.1 (4 + 3 * q)) 2 n)).1 (4 + 3 * q)) 3 c0)).1 (4 + 3 * q)) 4 1)) (4 + 3 * q) (upd ((gd_rI (gd_rI (gd_rI w (4 + 3 * q) (upd (w.1 (4 + 3 * q)) 2 n)) (4 + 3 * q) (upd ((gd_rI w (4 + 3 * q) (upd (w.1 (4 + 3 * q)) 2 n)).1 (4 + 3 * q)) 3 c0)) (4 + 3 * q) (upd ((gd_rI (gd_rI w (4 + 3 * q) (upd (w.1 (4 + 3 * q)) 2 n)) (4 + 3 * q) (upd ((gd_rI w (4 + 3 * q) (upd (w.1 (4 + 3 * q)) 2 n)).1 (4 + 3 * q)) 3 c0)).1 (4 + 3 * q)) 4 1)).1 (4 + 3 * q)) 6 0)).1 (4 + 3 * q)) 7 0)) rfl ?_
  refine gd_putd E K (K.1 27 (.putfield 38, 0) rfl).1 rfl (by omega) (gd_shd hq) rfl ?_
  refine gd_r E K 2 (pc' := 32) (lv' := [(0, .ref (4 + 3 * q)), (1, .int n), (2, .int c0)]) (st' := [.int (-1), .ref (4 + 3 * q)]) (w' := gd_rI (gd_rI (gd_rI (gd_rI (gd_rI (gd_rI w (4 + 3 * q) (upd (w.1 (4 + 3 * q)) 2 n)) (4 + 3 * q) (upd ((gd_rI w (4 + 3 * q) (upd (w.1 (4 + 3 * q)) 2 n)).1 (4 + 3 * q)) 3 c0)) (4 + 3 * q) (upd ((gd_rI (gd_rI w (4 + 3 * q) (upd (w.1 (4 + 3 * q)) 2 n)) (4 + 3 * q) (upd ((gd_rI w (4 + 3 * q) (upd (w.1 (4 + 3 * q)) 2 n)).1 (4 + 3 * q)) 3 c0)).1 (4 + 3 * q)) 4 1)) (4 + 3 * q) (upd ((gd_rI (gd_rI (gd_rI w (4 + 3 * q) (upd (w.1 (4 + 3 * q)) 2 n)) (4 + 3 * q) (upd ((gd_rI w (4 + 3 * q) (upd (w.1 (4 + 3 * q)) 2 n)).1 (4 + 3 * q)) 3 c0)) (4 + 3 * q) (upd ((gd_rI (gd_rI w (4 + 3 * q) (upd (w.1 (4 + 3 * q)) 2 n)) (4 + 3 * q) (upd ((gd_rI w (4 + 3 * q) (upd (w.1 (4 + 3 * q)) 2 n)).1 (4 + 3 * q)) 3 c0)).1 (4 + 3 * q)) 4 1)).1 (4 + 3 * q)) 6 0)) (4 + 3 * q) (upd ((gd_rI (gd_rI (gd_rI (gd_rI w (4 + 3 * q) (upd (w.1 (4 + 3 * q)) 2 n)) (4 + 3 * q) (upd ((gd_rI w (4 + 3 * q) (upd (w.1 (4 + 3 * q)) 2 n)).1 (4 + 3 * q)) 3 c0)) (4 + 3 * q) (upd ((gd_rI (gd_rI w (4 + 3 * q) (upd (w.1 (4 + 3 * q)) 2 n)) (4 + 3 * q) (upd ((gd_rI w (4 + 3 * q) (upd (w.1 (4 + 3 * q)) 2 n)).1 (4 + 3 * q)) 3 c0)).1 (4 + 3 * q)) 4 1)) (4 + 3 * q) (upd ((gd_rI (gd_rI (gd_rI w (4 + 3 * q) (upd (w.1 (4 + 3 * q)) 2 n)) (4 + 3 * q) (upd ((gd_rI w (4 + 3 * q) (upd (w.1 (4 + 3 * q)) 2 n)).1 (4 + 3 * q)) 3 c0)) (4 + 3 * q) (upd ((gd_rI (gd_rI w (4 + 3 * q) (upd (w.1 (4 + 3 * q)) 2 n)) (4 + 3 * q) (upd ((gd_rI w (4 + 3 * q) (upd (w.1 (4 + 3 * q)) 2 n)).1 (4 + 3 * q)) 3 c0)).1 (4 + 3 * q)) 4 1)).1 (4 + 3 * q)) 6 0)).1 (4 + 3 * q)) 7 0)) (4 + 3 * q) (upd ((gd_rI (gd_rI (gd_rI (gd_rI (gd_rI w (4 + 3 * q) (upd (w.1 (4 + 3 * q)) 2 n)) (4 + 3 * q) (upd ((gd_rI w (4 + 3 * q) (upd (w.1 (4 + 3 * q)) 2 n)).1 (4 + 3 * q)) 3 c0)) (4 + 3 * q) (upd ((gd_rI (gd_rI w (4 + 3 * q) (upd (w.1 (4 + 3 * q)) 2 n)) (4 + 3 * q) (upd ((gd_rI w (4 + 3 * q) (upd (w.1 (4 + 3 * q)) 2 n)).1 (4 + 3 * q)) 3 c0)).1 (4 + 3 * q)) 4 1)) (4 + 3 * q) (upd ((gd_rI (gd_rI (gd_rI w (4 + 3 * q) (upd (w.1 (4 + 3 * q)) 2 n)) (4 + 3 * q) (upd ((gd_rI w (4 + 3 * q) (upd (w.1 (4 + 3 * q)) 2 n)).1 (4 + 3 * q)) 3 c0)) (4 + 3 * q) (upd ((gd_rI (gd_rI w (4 + 3 * q) (upd (w.1 (4 + 3 * q)) 2 n)) (4 + 3 * q) (upd ((gd_rI w (4 + 3 * q) (upd (w.1 (4 + 3 * q)) 2 n)).1 (4 + 3 * q)) 3 c0)).1 (4 + 3 * q)) 4 1)).1 (4 + 3 * q)) 6 0)) (4 + 3 * q) (upd ((gd_rI (gd_rI (gd_rI (gd_rI w (4 + 3 * q) (upd (w.1 (4 + 3 * q)) 2 n)) (4 + 3 * q) (upd ((gd_rI w (4 + 3 * q) (upd (w.1 (4 + 3 * q)) 2 n)).1 (4 + 3 * q)) 3 c0)) (4 + 3 * q) (upd ((gd_rI (gd_rI w (4 + 3 * q) (upd (w.1 (4 + 3 * q)) 2 n)) (4 + 3 * q) (upd ((gd_rI w (4 + 3 * q) (upd (w.1 (4 + 3 * q)) 2 n)).1 (4 + 3 * q)) 3 c0)).1 (4 + 3 * q)) 4 1)) (4 + 3 * q) (upd ((gd_rI (gd_rI (gd_rI w (4 + 3 * q) (upd (w.1 (4 + 3 * q)) 2 n)) (4 + 3 * q) (upd ((gd_rI w (4 + 3 * q) (upd (w.1 (4 + 3 * q)) 2 n)).1 (4 + 3 * q)) 3 c0)) (4 + 3 * q) (upd ((gd_rI (gd_rI w (4 + 3 * q) (upd (w.1 (4 + 3 * q)) 2 n)) (4 + 3 * q) (upd ((gd_rI w (4 + 3 * q) (upd (w.1 (4 + 3 * q)) 2 n)).1 (4 + 3 * q)) 3 c0)).1 (4 + 3 * q)) 4 1)).1 (4 + 3 * q)) 6 0)).1 (4 + 3 * q)) 7 0)).1 (4 + 3 * q)) 8 (-1))) rfl ?_
  refine gd_putd E K (K.1 32 (.putfield 41, 0) rfl).1 rfl (by omega) (gd_shd hq) rfl ?_
  refine gd_r E K 2 (pc' := 37) (lv' := [(0, .ref (4 + 3 * q)), (1, .int n), (2, .int c0)]) (st' := [.int 0, .ref (4 + 3 * q)]) (w' := gd_rI (gd_rI (gd_rI (gd_rI (gd_rI (gd_rI (gd_rI w (4 + 3 * q) (upd (w.1 (4 + 3 * q)) 2 n)) (4 + 3 * q) (upd ((gd_rI w (4 + 3 * q) (upd (w.1 (4 + 3 * q)) 2 n)).1 (4 + 3 * q)) 3 c0)) (4 + 3 * q) (upd ((gd_rI (gd_rI w (4 + 3 * q) (upd (w.1 (4 + 3 * q)) 2 n)) (4 + 3 * q) (upd ((gd_rI w (4 + 3 * q) (upd (w.1 (4 + 3 * q)) 2 n)).1 (4 + 3 * q)) 3 c0)).1 (4 + 3 * q)) 4 1)) (4 + 3 * q) (upd ((gd_rI (gd_rI (gd_rI w (4 + 3 * q) (upd (w.1 (4 + 3 * q)) 2 n)) (4 + 3 * q) (upd ((gd_rI w (4 + 3 * q) (upd (w.1 (4 + 3 * q)) 2 n)).1 (4 + 3 * q)) 3 c0)) (4 + 3 * q) (upd ((gd_rI (gd_rI w (4 + 3 * q) (upd (w.1 (4 + 3 * q)) 2 n)) (4 + 3 * q) (upd ((gd_rI w (4 + 3 * q) (upd (w.1 (4 + 3 * q)) 2 n)).1 (4 + 3 * q)) 3 c0)).1 (4 + 3 * q)) 4 1)).1 (4 + 3 * q)) 6 0)) (4 + 3 * q) (upd ((gd_rI (gd_rI (gd_rI (gd_rI w (4 + 3 * q) (upd (w.1 (4 + 3 * q)) 2 n)) (4 + 3 * q) (upd ((gd_rI w (4 + 3 * q) (upd (w.1 (4 + 3 * q)) 2 n)).1 (4 + 3 * q)) 3 c0)) (4 + 3 * q) (upd ((gd_rI (gd_rI w (4 + 3 * q) (upd (w.1 (4 + 3 * q)) 2 n)) (4 + 3 * q) (upd ((gd_rI w (4 + 3 * q) (upd (w.1 (4 + 3 * q)) 2 n)).1 (4 + 3 * q)) 3 c0)).1 (4 + 3 * q)) 4 1)) (4 + 3 * q) (upd ((gd_rI (gd_rI (gd_rI w (4 + 3 * q) (upd (w.1 (4 + 3 * q)) 2 n)) (4 + 3 * q) (upd ((gd_rI w (4 + 3 * q) (upd (w.1 (4 + 3 * q)) 2 n)).1 (4 + 3 * q)) 3 c0)) (4 + 3 * q) (upd ((gd_rI (gd_rI w (4 + 3 * q) (upd (w.1 (4 + 3 * q)) 2 n)) (4 + 3 * q) (upd ((gd_rI w (4 + 3 * q) (upd (w.1 (4 + 3 * q)) 2 n)).1 (4 + 3 * q)) 3 c0)).1 (4 + 3 * q)) 4 1)).1 (4 + 3 * q)) 6 0)).1 (4 + 3 * q)) 7 0)) (4 + 3 * q) (upd ((gd_rI (gd_rI (gd_rI (gd_rI (gd_rI w (4 + 3 * q) (upd (w.1 (4 + 3 * q)) 2 n)) (4 + 3 * q) (upd ((gd_rI w (4 + 3 * q) (upd (w.1 (4 + 3 * q)) 2 n)).1 (4 + 3 * q)) 3 c0)) (4 + 3 * q) (upd ((gd_rI (gd_rI w (4 + 3 * q) (upd (w.1 (4 + 3 * q)) 2 n)) (4 + 3 * q) (upd ((gd_rI w (4 + 3 * q) (upd (w.1 (4 + 3 * q)) 2 n)).1 (4 + 3 * q)) 3 c0)).1 (4 + 3 * q)) 4 1)) (4 + 3 * q) (upd ((gd_rI (gd_rI (gd_rI w (4 + 3 * q) (upd (w.1 (4 + 3 * q)) 2 n)) (4 + 3 * q) (upd ((gd_rI w (4 + 3 * q) (upd (w.1 (4 + 3 * q)) 2 n)).1 (4 + 3 * q)) 3 c0)) (4 + 3 * q) (upd ((gd_rI (gd_rI w (4 + 3 * q) (upd (w.1 (4 + 3 * q)) 2 n)) (4 + 3 * q) (upd ((gd_rI w (4 + 3 * q) (upd (w.1 (4 + 3 * q)) 2 n)).1 (4 + 3 * q)) 3 c0)).1 (4 + 3 * q)) 4 1)).1 (4 + 3 * q)) 6 0)) (4 + 3 * q) (upd ((gd_rI (gd_rI (gd_rI (gd_rI w (4 + 3 * q) (upd (w.1 (4 + 3 * q)) 2 n)) (4 + 3 * q) (upd ((gd_rI w (4 + 3 * q) (upd (w.1 (4 + 3 * q)) 2 n)).1 (4 + 3 * q)) 3 c0)) (4 + 3 * q) (upd ((gd_rI (gd_rI w (4 + 3 * q) (upd (w.1 (4 + 3 * q)) 2 n)) (4 + 3 * q) (upd ((gd_rI w (4 + 3 * q) (upd (w.1 (4 + 3 * q)) 2 n)).1 (4 + 3 * q)) 3 c0)).1 (4 + 3 * q)) 4 1)) (4 + 3 * q) (upd ((gd_rI (gd_rI (gd_rI w (4 + 3 * q) (upd (w.1 (4 + 3 * q)) 2 n)) (4 + 3 * q) (upd ((gd_rI w (4 + 3 * q) (upd (w.1 (4 + 3 * q)) 2 n)).1 (4 + 3 * q)) 3 c0)) (4 + 3 * q) (upd ((gd_rI (gd_rI w (4 + 3 * q) (upd (w.1 (4 + 3 * q)) 2 n)) (4 + 3 * q) (upd ((gd_rI w (4 + 3 * q) (upd (w.1 (4 + 3 * q)) 2 n)).1 (4 + 3 * q)) 3 c0)).1 (4 + 3 * q)) 4 1)).1 (4 + 3 * q)) 6 0)).1 (4 + 3 * q)) 7 0)).1 (4 + 3 * q)) 8 (-1))) (4 + 3 * q) (upd ((gd_rI (gd_rI (gd_rI (gd_rI (gd_rI (gd_rI w (4 + 3 * q) (upd (w.1 (4 + 3 * q)) 2 n)) (4 + 3 * q) (upd ((gd_rI w (4 + 3 * q) (upd (w.1 (4 + 3 * q)) 2 n)).1 (4 + 3 * q)) 3 c0)) (4 + 3 * q) (upd ((gd_rI (gd_rI w (4 + 3 * q) (upd (w.1 (4 + 3 * q)) 2 n)) (4 + 3 * q) (upd ((gd_rI w (4 + 3 * q) (upd (w.1 (4 + 3 * q)) 2 n)).1 (4 + 3 * q)) 3 c0)).1 (4 + 3 * q)) 4 1)) (4 + 3 * q) (upd ((gd_rI (gd_rI (gd_rI w (4 + 3 * q) (upd (w.1 (4 + 3 * q)) 2 n)) (4 + 3 * q) (upd ((gd_rI w (4 + 3 * q) (upd (w.1 (4 + 3 * q)) 2 n)).1 (4 + 3 * q)) 3 c0)) (4 + 3 * q) (upd ((gd_rI (gd_rI w (4 + 3 * q) (upd (w.1 (4 + 3 * q)) 2 n)) (4 + 3 * q) (upd ((gd_rI w (4 + 3 * q) (upd (w.1 (4 + 3 * q)) 2 n)).1 (4 + 3 * q)) 3 c0)).1 (4 + 3 * q)) 4 1)).1 (4 + 3 * q)) 6 0)) (4 + 3 * q) (upd ((gd_rI (gd_rI (gd_rI (gd_rI w (4 + 3 * q) (upd (w.1 (4 + 3 * q)) 2 n)) (4 + 3 * q) (upd ((gd_rI w (4 + 3 * q) (upd (w.1 (4 + 3 * q)) 2 n)).1 (4 + 3 * q)) 3 c0)) (4 + 3 * q) (upd ((gd_rI (gd_rI w (4 + 3 * q) (upd (w.1 (4 + 3 * q)) 2 n)) (4 + 3 * q) (upd ((gd_rI w (4 + 3 * q) (upd (w.1 (4 + 3 * q)) 2 n)).1 (4 + 3 * q)) 3 c0)).1 (4 + 3 * q)) 4 1)) (4 + 3 * q) (upd ((gd_rI (gd_rI (gd_rI w (4 + 3 * q) (upd (w.1 (4 + 3 * q)) 2 n)) (4 + 3 * q) (upd ((gd_rI w (4 + 3 * q) (upd (w.1 (4 + 3 * q)) 2 n)).1 (4 + 3 * q)) 3 c0)) (4 + 3 * q) (upd ((gd_rI (gd_rI w (4 + 3 * q) (upd (w.1 (4 + 3 * q)) 2 n)) (4 + 3 * q) (upd ((gd_rI w (4 + 3 * q) (upd (w.1 (4 + 3 * q)) 2 n)).1 (4 + 3 * q)) 3 c0)).1 (4 + 3 * q)) 4 1)).1 (4 + 3 * q)) 6 0)).1 (4 + 3 * q)) 7 0)) (4 + 3 * q) (upd ((gd_rI (gd_rI (gd_rI (gd_rI (gd_rI w (4 + 3 * q) (upd (w.1 (4 + 3 * q)) 2 n)) (4 + 3 * q) (upd ((gd_rI w (4 + 3 * q) (upd (w.1 (4 + 3 * q)) 2 n)).1 (4 + 3 * q)) 3 c0)) (4 + 3 * q) (upd ((gd_rI (gd_rI w (4 + 3 * q) (upd (w.1 (4 + 3 * q)) 2 n)) (4 + 3 * q) (upd ((gd_rI w (4 + 3 * q) (upd (w.1 (4 + 3 * q)) 2 n)).1 (4 + 3 * q)) 3 c0)).1 (4 + 3 * q)) 4 1)) (4 + 3 * q) (upd ((gd_rI (gd_rI (gd_rI w (4 + 3 * q) (upd (w.1 (4 + 3 * q)) 2 n)) (4 + 3 * q) (upd ((gd_rI w (4 + 3 * q) (upd (w.1 (4 + 3 * q)) 2 n)).1 (4 + 3 * q)) 3 c0)) (4 + 3 * q) (upd ((gd_rI (gd_rI w (4 + 3 * q) (upd (w.1 (4 + 3 * q)) 2 n)) (4 + 3 * q) (upd ((gd_rI w (4 + 3 * q) (upd (w.1 (4 + 3 * q)) 2 n)).1 (4 + 3 * q)) 3 c0)).1 (4 + 3 * q)) 4 1)).1 (4 + 3 * q)) 6 0)) (4 + 3 * q) (upd ((gd_rI (gd_rI (gd_rI (gd_rI w (4 + 3 * q) (upd (w.1 (4 + 3 * q)) 2 n)) (4 + 3 * q) (upd ((gd_rI w (4 + 3 * q) (upd (w.1 (4 + 3 * q)) 2 n)).1 (4 + 3 * q)) 3 c0)) (4 + 3 * q) (upd ((gd_rI (gd_rI w (4 + 3 * q) (upd (w.1 (4 + 3 * q)) 2 n)) (4 + 3 * q) (upd ((gd_rI w (4 + 3 * q) (upd (w.1 (4 + 3 * q)) 2 n)).1 (4 + 3 * q)) 3 c0)).1 (4 + 3 * q)) 4 1)) (4 + 3 * q) (upd ((gd_rI (gd_rI (gd_rI w (4 + 3 * q) (upd (w.1 (4 + 3 * q)) 2 n)) (4 + 3 * q) (upd ((gd_rI w (4 + 3 * q) (upd (w.1 (4 + 3 * q)) 2 n)).1 (4 + 3 * q)) 3 c0)) (4 + 3 * q) (upd ((gd_rI (gd_rI w (4 + 3 * q) (upd (w.1 (4 + 3 * q)) 2 n)) (4 + 3 * q) (upd ((gd_rI w (4 + 3 * q) (upd (w.1 (4 + 3 * q)) 2 n)).1 (4 + 3 * q)) 3 c0)).1 (4 + 3 * q)) 4 1)).1 (4 + 3 * q)) 6 0)).1 (4 + 3 * q)) 7 0)).1 (4 + 3 * q)) 8 (-1))).1 (4 + 3 * q)) 9 (-1))) rfl ?_
  refine gd_putdz E K (K.1 37 (.putfield 44, 0) rfl).1 rfl (by omega) (gd_shd hq) rfl (by decide) ?_
  exact gd_vretp E hr hlk (K.1 40 (.return_, 0) rfl).1 (⟨rfl, by simp only [gd_rI_s]; unfold gc_new; simp only [gd_rI_rI _ _ _ _ rfl]⟩)
set_option maxRecDepth 100000 in
theorem c3_makeMove {l : Launch} {D : va_G} {tC : FieldType → ClassId} {ad : Nat → Nat} (hinj : ∀ i j, ad i = ad j → i = j) {S : gs_T} {A : Nat → Option Nat} {E0 : Nat} (w : gd_W) (q : Nat) (hq : q < 6) (d : Nat) (hD : gr_E w S A q d E0) (hv : gv_way S d) : gd_Cp l D tC ad 45 2 44 y_D_makeMove c_D_makeMove 1 none [.ref (4 + 3 * q)] w (fun r w' => r = none ∧ (∀ a, a ≠ 4 + 3 * q → w'.1 a = w.1 a) ∧ w'.2 = w.2 ∧ (∀ j, j ≠ 3 → j ≠ 7 → j ≠ 10 → w'.1 (4 + 3 * q) j = w.1 (4 + 3 * q) j) ∧ w'.1 (4 + 3 * q) 3 = nI (if 0 < gs_l S d then (gm_mv (gs_c S d) (gs_m S d 0)).getD 0 else gs_c S d) ∧ w'.1 (4 + 3 * q) 7 = nI (if 0 < gs_l S d then E0 + 1 else E0) ∧ w'.1 (4 + 3 * q) 10 = gs_b (decide (0 < gs_l S d ∧ gs_m S d 0 ≠ 0))) := by
  refine gd_Cp_of rfl hinj (Nat.le_of_ble_eq_true rfl) ?_
  intro p e s m args below meth c E hr hlk
  have K := k_D_makeMove
  have hA : ∀ q, gd_A ad 45 s.heap.size q → gd_A ad 45 s.heap.size q := fun _ h => h
  obtain ⟨⟨h2, hd6⟩, ⟨h3, hc⟩, ⟨h4, hu⟩, ⟨h5, hp⟩, ⟨h6, hE⟩, h7, ⟨h8, hi⟩, ⟨h9, ha⟩, hm, hn⟩ := hD
  refine gd_r E K 2 (pc' := 2) (lv' := [(0, .ref (4 + 3 * q))]) (st' := [.int 0, .ref (4 + 3 * q)]) (w' := w) rfl ?_
  refine gd_putdz E K (K.1 2 (.putfield 44, 0) rfl).1 rfl (by omega) (gd_shd hq) rfl (by decide) ?_
  refine gd_r E K 1 (pc' := 6) (lv' := [(0, .ref (4 + 3 * q))]) (st' := [.ref (4 + 3 * q)]) (w' := gd_rI w (4 + 3 * q) (upd (w.1 (4 + 3 * q)) 10 0)) rfl ?_
  refine gd_getd E K (K.1 6 (.getfield 35, 0) rfl).1 rfl (by omega) (gd_shd hq) rfl (v := .int (nI E0)) (by show Value.int _ = Value.int _; rw [gd_rI_s, gd_u_n (by decide), h7]) ?_
  refine gd_r E K 1 (pc' := 10) (lv' := [(0, .ref (4 + 3 * q))]) (st' := [.ref (4 + 3 * q), .int (nI E0)]) (w' := gd_rI w (4 + 3 * q) (upd (w.1 (4 + 3 * q)) 10 0)) rfl ?_
  refine gd_getd E K (K.1 10 (.getfield 32, 0) rfl).1 rfl (by omega) (gd_shd hq) rfl (v := .int (nI (E0 + gs_l S d))) (by show Value.int _ = Value.int _; rw [gd_rI_s, gd_u_n (by decide), h6]) ?_
  by_cases h1 : gs_l S d = 0
  · refine gd_r E K 1 (pc' := if (nI (E0 + gs_l S d)) ≤ (nI E0) then 67 else 16) (lv' := [(0, .ref (4 + 3 * q))]) (st' := []) (w' := gd_rI w (4 + 3 * q) (upd (w.1 (4 + 3 * q)) 10 0)) rfl ?_
    refine gd_it (by rw [h1]; exact nI_le (by omega) (by omega)) ?_
    have n1 : ¬ 0 < gs_l S d := by omega
    exact gd_vretp E hr hlk (K.1 67 (.return_, 0) rfl).1 (⟨rfl, fun a ha => gd_rI_n ha, rfl, fun j _ _ hj => by rw [gd_rI_s, gd_u_n hj], by rw [gd_rI_s, gd_u_n (by decide), if_neg n1, h3], by rw [gd_rI_s, gd_u_n (by decide), if_neg n1, h7], by rw [gd_rI_s, gd_u_s]; simp [n1, gs_b]⟩)
  · refine gd_r E K 1 (pc' := if (nI (E0 + gs_l S d)) ≤ (nI E0) then 67 else 16) (lv' := [(0, .ref (4 + 3 * q))]) (st' := []) (w' := gd_rI w (4 + 3 * q) (upd (w.1 (4 + 3 * q)) 10 0)) rfl ?_
    refine gd_if (nI_ge (by omega) (by omega)) ?_
    have n1 : 0 < gs_l S d := by omega
    obtain ⟨m1, m2⟩ := hm 0 n1
    obtain ⟨y, hy, hw2⟩ := hv 1 (by omega)
    have hmv : gm_mv (gs_c S d) (gs_m S d 0) = some y := by rw [← hw2]; rfl
    refine gd_r E K 2 (pc' := 18) (lv' := [(0, .ref (4 + 3 * q))]) (st' := [.ref (4 + 3 * q), .ref (4 + 3 * q)]) (w' := gd_rI w (4 + 3 * q) (upd (w.1 (4 + 3 * q)) 10 0)) rfl ?_
    refine gd_getd E K (K.1 18 (.getfield 9, 0) rfl).1 rfl (by omega) (gd_shd hq) rfl (v := .ref (5 + 3 * q)) (gd_avd0 _ hq) ?_
    refine gd_r E K 1 (pc' := 22) (lv' := [(0, .ref (4 + 3 * q))]) (st' := [.ref (4 + 3 * q), .ref (5 + 3 * q), .ref (4 + 3 * q)]) (w' := gd_rI w (4 + 3 * q) (upd (w.1 (4 + 3 * q)) 10 0)) rfl ?_
    refine gd_getd E K (K.1 22 (.getfield 35, 0) rfl).1 rfl (by omega) (gd_shd hq) rfl (v := .int (nI E0)) (by show Value.int _ = Value.int _; rw [gd_rI_s, gd_u_n (by decide), h7]) ?_
    have m3 : w.1 (5 + 3 * q) E0 = nI (gs_m S d 0) := m1
    refine gd_ialdv E (K.1 25 (.iaload, 0) rfl).1 (j := E0) (by omega) (gd_shd0 hq) (rfl) (by omega) (by decide) (v := nI (gs_m S d 0)) (by rw [gd_rI_n (by omega)]; exact m3) ?_
    by_cases h0 : gs_m S d 0 = 0
    · refine gd_r E K 1 (pc' := if (nI (gs_m S d 0)) = 0 then 33 else 29) (lv' := [(0, .ref (4 + 3 * q))]) (st' := [.ref (4 + 3 * q)]) (w' := gd_rI w (4 + 3 * q) (upd (w.1 (4 + 3 * q)) 10 0)) rfl ?_
      refine gd_it (by rw [h0]; rfl) ?_
      refine gd_r E K 1 (pc' := 34) (lv' := [(0, .ref (4 + 3 * q))]) (st' := [.int 0, .ref (4 + 3 * q)]) (w' := gd_rI w (4 + 3 * q) (upd (w.1 (4 + 3 * q)) 10 0)) rfl ?_
      refine gd_putdz E K (K.1 34 (.putfield 44, 0) rfl).1 rfl (by omega) (gd_shd hq) rfl (by decide) ?_
      refine gd_r E K 2 (pc' := 39) (lv' := [(0, .ref (4 + 3 * q))]) (st' := [.ref (4 + 3 * q), .ref (4 + 3 * q)]) (w' := gd_rI (gd_rI w (4 + 3 * q) (upd (w.1 (4 + 3 * q)) 10 0)) (4 + 3 * q) (upd ((gd_rI w (4 + 3 * q) (upd (w.1 (4 + 3 * q)) 10 0)).1 (4 + 3 * q)) 10 0)) rfl ?_
      refine gd_getd E K (K.1 39 (.getfield 23, 0) rfl).1 rfl (by omega) (gd_shd hq) rfl (v := .int (nI (gs_c S d))) (by show Value.int _ = Value.int _; rw [gd_rI_s, gd_u_n (by decide), gd_rI_s, gd_u_n (by decide), h3]) ?_
      refine gd_r E K 1 (pc' := 43) (lv' := [(0, .ref (4 + 3 * q))]) (st' := [.ref (4 + 3 * q), .int (nI (gs_c S d)), .ref (4 + 3 * q)]) (w' := gd_rI (gd_rI w (4 + 3 * q) (upd (w.1 (4 + 3 * q)) 10 0)) (4 + 3 * q) (upd ((gd_rI w (4 + 3 * q) (upd (w.1 (4 + 3 * q)) 10 0)).1 (4 + 3 * q)) 10 0)) rfl ?_
      refine gd_getd E K (K.1 43 (.getfield 9, 0) rfl).1 rfl (by omega) (gd_shd hq) rfl (v := .ref (5 + 3 * q)) (gd_avd0 _ hq) ?_
      refine gd_r E K 1 (pc' := 47) (lv' := [(0, .ref (4 + 3 * q))]) (st' := [.ref (4 + 3 * q), .ref (5 + 3 * q), .int (nI (gs_c S d)), .ref (4 + 3 * q)]) (w' := gd_rI (gd_rI w (4 + 3 * q) (upd (w.1 (4 + 3 * q)) 10 0)) (4 + 3 * q) (upd ((gd_rI w (4 + 3 * q) (upd (w.1 (4 + 3 * q)) 10 0)).1 (4 + 3 * q)) 10 0)) rfl ?_
      refine gd_getd E K (K.1 47 (.getfield 35, 0) rfl).1 rfl (by omega) (gd_shd hq) rfl (v := .int (nI E0)) (by show Value.int _ = Value.int _; rw [gd_rI_s, gd_u_n (by decide), gd_rI_s, gd_u_n (by decide), h7]) ?_
      refine gd_ialdv E (K.1 50 (.iaload, 0) rfl).1 (j := E0) (by omega) (gd_shd0 hq) (rfl) (by omega) (by decide) (v := nI (gs_m S d 0)) (by rw [gd_rI_n (by omega), gd_rI_n (by omega)]; exact m3) ?_
      refine gd_cS E hA (av := [.int (nI (gs_c S d)), .int (nI (gs_m S d 0))]) (rest := [.ref (4 + 3 * q)]) (c2_after hinj (gs_c S d) (gs_m S d 0) hc m2 _) (K.1 51 (.invokestatic 64, 0) rfl).1 ml_D_64 cv_S_after ⟨Nat.le_of_ble_eq_true rfl, Nat.le_of_ble_eq_true rfl⟩ ⟨Nat.zero_le _, Nat.zero_le _⟩ rfl (Nat.le_of_ble_eq_true rfl) ?_
      refine gd_cg (lv' := [(0, .ref (4 + 3 * q))]) (st' := [.int (nI y), .ref (4 + 3 * q)]) (w' := gd_rI (gd_rI w (4 + 3 * q) (upd (w.1 (4 + 3 * q)) 10 0)) (4 + 3 * q) (upd ((gd_rI w (4 + 3 * q) (upd (w.1 (4 + 3 * q)) 10 0)).1 (4 + 3 * q)) 10 0)) ?_ (rfl) (by rw [hmv]; rfl) (rfl)
      refine gd_putd E K (K.1 54 (.putfield 23, 0) rfl).1 rfl (by omega) (gd_shd hq) rfl ?_
      refine gd_r E K 2 (pc' := 59) (lv' := [(0, .ref (4 + 3 * q))]) (st' := [.ref (4 + 3 * q), .ref (4 + 3 * q)]) (w' := gd_rI (gd_rI (gd_rI w (4 + 3 * q) (upd (w.1 (4 + 3 * q)) 10 0)) (4 + 3 * q) (upd ((gd_rI w (4 + 3 * q) (upd (w.1 (4 + 3 * q)) 10 0)).1 (4 + 3 * q)) 10 0)) (4 + 3 * q) (upd ((gd_rI (gd_rI w (4 + 3 * q) (upd (w.1 (4 + 3 * q)) 10 0)) (4 + 3 * q) (upd ((gd_rI w (4 + 3 * q) (upd (w.1 (4 + 3 * q)) 10 0)).1 (4 + 3 * q)) 10 0)).1 (4 + 3 * q)) 3 (nI y))) rfl ?_
      refine gd_getd E K (K.1 59 (.getfield 35, 0) rfl).1 rfl (by omega) (gd_shd hq) rfl (v := .int (nI E0)) (by show Value.int _ = Value.int _; rw [gd_rI_s, gd_u_n (by decide), gd_rI_s, gd_u_n (by decide), gd_rI_s, gd_u_n (by decide), h7]) ?_
      refine gd_r E K 2 (pc' := 64) (lv' := [(0, .ref (4 + 3 * q))]) (st' := [.int ((nI E0) + 1), .ref (4 + 3 * q)]) (w' := gd_rI (gd_rI (gd_rI w (4 + 3 * q) (upd (w.1 (4 + 3 * q)) 10 0)) (4 + 3 * q) (upd ((gd_rI w (4 + 3 * q) (upd (w.1 (4 + 3 * q)) 10 0)).1 (4 + 3 * q)) 10 0)) (4 + 3 * q) (upd ((gd_rI (gd_rI w (4 + 3 * q) (upd (w.1 (4 + 3 * q)) 10 0)) (4 + 3 * q) (upd ((gd_rI w (4 + 3 * q) (upd (w.1 (4 + 3 * q)) 10 0)).1 (4 + 3 * q)) 10 0)).1 (4 + 3 * q)) 3 (nI y))) rfl ?_
      refine gd_putd E K (K.1 64 (.putfield 35, 0) rfl).1 rfl (by omega) (gd_shd hq) rfl ?_
      exact gd_vretp E hr hlk (K.1 67 (.return_, 0) rfl).1 (⟨rfl, fun a ha => by rw [gd_rI_n ha, gd_rI_n ha, gd_rI_n ha, gd_rI_n ha], rfl, fun j j1 j2 j3 => by simp only [gd_rI_s]; rw [gd_u_n j2, gd_u_n j1, gd_u_n j3, gd_u_n j3], by simp only [gd_rI_s]; rw [gd_u_n (by decide), gd_u_s, if_pos n1, hmv]; rfl, by simp only [gd_rI_s]; rw [gd_u_s, if_pos n1, nI_1], by simp only [gd_rI_s]; rw [gd_u_n (by decide), gd_u_n (by decide), gd_u_s]; simp [n1, h0, gs_b]⟩)
    · refine gd_r E K 1 (pc' := if (nI (gs_m S d 0)) = 0 then 33 else 29) (lv' := [(0, .ref (4 + 3 * q))]) (st' := [.ref (4 + 3 * q)]) (w' := gd_rI w (4 + 3 * q) (upd (w.1 (4 + 3 * q)) 10 0)) rfl ?_
      refine gd_if (nI_ne0 (by omega) (by omega)) ?_
      refine gd_r E K 2 (pc' := 34) (lv' := [(0, .ref (4 + 3 * q))]) (st' := [.int 1, .ref (4 + 3 * q)]) (w' := gd_rI w (4 + 3 * q) (upd (w.1 (4 + 3 * q)) 10 0)) rfl ?_
      refine gd_putdz E K (K.1 34 (.putfield 44, 0) rfl).1 rfl (by omega) (gd_shd hq) rfl (by decide) ?_
      refine gd_r E K 2 (pc' := 39) (lv' := [(0, .ref (4 + 3 * q))]) (st' := [.ref (4 + 3 * q), .ref (4 + 3 * q)]) (w' := gd_rI (gd_rI w (4 + 3 * q) (upd (w.1 (4 + 3 * q)) 10 0)) (4 + 3 * q) (upd ((gd_rI w (4 + 3 * q) (upd (w.1 (4 + 3 * q)) 10 0)).1 (4 + 3 * q)) 10 1)) rfl ?_
      refine gd_getd E K (K.1 39 (.getfield 23, 0) rfl).1 rfl (by omega) (gd_shd hq) rfl (v := .int (nI (gs_c S d))) (by show Value.int _ = Value.int _; rw [gd_rI_s, gd_u_n (by decide), gd_rI_s, gd_u_n (by decide), h3]) ?_
      refine gd_r E K 1 (pc' := 43) (lv' := [(0, .ref (4 + 3 * q))]) (st' := [.ref (4 + 3 * q), .int (nI (gs_c S d)), .ref (4 + 3 * q)]) (w' := gd_rI (gd_rI w (4 + 3 * q) (upd (w.1 (4 + 3 * q)) 10 0)) (4 + 3 * q) (upd ((gd_rI w (4 + 3 * q) (upd (w.1 (4 + 3 * q)) 10 0)).1 (4 + 3 * q)) 10 1)) rfl ?_
      refine gd_getd E K (K.1 43 (.getfield 9, 0) rfl).1 rfl (by omega) (gd_shd hq) rfl (v := .ref (5 + 3 * q)) (gd_avd0 _ hq) ?_
      refine gd_r E K 1 (pc' := 47) (lv' := [(0, .ref (4 + 3 * q))]) (st' := [.ref (4 + 3 * q), .ref (5 + 3 * q), .int (nI (gs_c S d)), .ref (4 + 3 * q)]) (w' := gd_rI (gd_rI w (4 + 3 * q) (upd (w.1 (4 + 3 * q)) 10 0)) (4 + 3 * q) (upd ((gd_rI w (4 + 3 * q) (upd (w.1 (4 + 3 * q)) 10 0)).1 (4 + 3 * q)) 10 1)) rfl ?_
      refine gd_getd E K (K.1 47 (.getfield 35, 0) rfl).1 rfl (by omega) (gd_shd hq) rfl (v := .int (nI E0)) (by show Value.int _ = Value.int _; rw [gd_rI_s, gd_u_n (by decide), gd_rI_s, gd_u_n (by decide), h7]) ?_
      refine gd_ialdv E (K.1 50 (.iaload, 0) rfl).1 (j := E0) (by omega) (gd_shd0 hq) (rfl) (by omega) (by decide) (v := nI (gs_m S d 0)) (by rw [gd_rI_n (by omega), gd_rI_n (by omega)]; exact m3) ?_
      refine gd_cS E hA (av := [.int (nI (gs_c S d)), .int (nI (gs_m S d 0))]) (rest := [.ref (4 + 3 * q)]) (c2_after hinj (gs_c S d) (gs_m S d 0) hc m2 _) (K.1 51 (.invokestatic 64, 0) rfl).1 ml_D_64 cv_S_after ⟨Nat.le_of_ble_eq_true rfl, Nat.le_of_ble_eq_true rfl⟩ ⟨Nat.zero_le _, Nat.zero_le _⟩ rfl (Nat.le_of_ble_eq_true rfl) ?_
      refine gd_cg (lv' := [(0, .ref (4 + 3 * q))]) (st' := [.int (nI y), .ref (4 + 3 * q)]) (w' := gd_rI (gd_rI w (4 + 3 * q) (upd (w.1 (4 + 3 * q)) 10 0)) (4 + 3 * q) (upd ((gd_rI w (4 + 3 * q) (upd (w.1 (4 + 3 * q)) 10 0)).1 (4 + 3 * q)) 10 1)) ?_ (rfl) (by rw [hmv]; rfl) (rfl)
      refine gd_putd E K (K.1 54 (.putfield 23, 0) rfl).1 rfl (by omega) (gd_shd hq) rfl ?_
      refine gd_r E K 2 (pc' := 59) (lv' := [(0, .ref (4 + 3 * q))]) (st' := [.ref (4 + 3 * q), .ref (4 + 3 * q)]) (w' := gd_rI (gd_rI (gd_rI w (4 + 3 * q) (upd (w.1 (4 + 3 * q)) 10 0)) (4 + 3 * q) (upd ((gd_rI w (4 + 3 * q) (upd (w.1 (4 + 3 * q)) 10 0)).1 (4 + 3 * q)) 10 1)) (4 + 3 * q) (upd ((gd_rI (gd_rI w (4 + 3 * q) (upd (w.1 (4 + 3 * q)) 10 0)) (4 + 3 * q) (upd ((gd_rI w (4 + 3 * q) (upd (w.1 (4 + 3 * q)) 10 0)).1 (4 + 3 * q)) 10 1)).1 (4 + 3 * q)) 3 (nI y))) rfl ?_
      refine gd_getd E K (K.1 59 (.getfield 35, 0) rfl).1 rfl (by omega) (gd_shd hq) rfl (v := .int (nI E0)) (by show Value.int _ = Value.int _; rw [gd_rI_s, gd_u_n (by decide), gd_rI_s, gd_u_n (by decide), gd_rI_s, gd_u_n (by decide), h7]) ?_
      refine gd_r E K 2 (pc' := 64) (lv' := [(0, .ref (4 + 3 * q))]) (st' := [.int ((nI E0) + 1), .ref (4 + 3 * q)]) (w' := gd_rI (gd_rI (gd_rI w (4 + 3 * q) (upd (w.1 (4 + 3 * q)) 10 0)) (4 + 3 * q) (upd ((gd_rI w (4 + 3 * q) (upd (w.1 (4 + 3 * q)) 10 0)).1 (4 + 3 * q)) 10 1)) (4 + 3 * q) (upd ((gd_rI (gd_rI w (4 + 3 * q) (upd (w.1 (4 + 3 * q)) 10 0)) (4 + 3 * q) (upd ((gd_rI w (4 + 3 * q) (upd (w.1 (4 + 3 * q)) 10 0)).1 (4 + 3 * q)) 10 1)).1 (4 + 3 * q)) 3 (nI y))) rfl ?_
      refine gd_putd E K (K.1 64 (.putfield 35, 0) rfl).1 rfl (by omega) (gd_shd hq) rfl ?_
      exact gd_vretp E hr hlk (K.1 67 (.return_, 0) rfl).1 (⟨rfl, fun a ha => by rw [gd_rI_n ha, gd_rI_n ha, gd_rI_n ha, gd_rI_n ha], rfl, fun j j1 j2 j3 => by simp only [gd_rI_s]; rw [gd_u_n j2, gd_u_n j1, gd_u_n j3, gd_u_n j3], by simp only [gd_rI_s]; rw [gd_u_n (by decide), gd_u_s, if_pos n1, hmv]; rfl, by simp only [gd_rI_s]; rw [gd_u_s, if_pos n1, nI_1], by simp only [gd_rI_s]; rw [gd_u_n (by decide), gd_u_n (by decide), gd_u_s]; simp [n1, h0, gs_b]⟩)
set_option maxRecDepth 100000 in
theorem c3_placeAfter {l : Launch} {D : va_G} {tC : FieldType → ClassId} {ad : Nat → Nat} (hinj : ∀ i j, ad i = ad j → i = j) {S : gs_T} {A : Nat → Option Nat} {E0 : Nat} (w : gd_W) (q : Nat) (hq : q < 6) (d : Nat) (hD : gr_E w S A q d E0) (hv : gv_way S d) (n : Nat) (hn2 : n < 2 ^ 31) : gd_Ct l D tC ad 45 2 44 y_D_placeAfter c_D_placeAfter 5 (some .int) [.ref (4 + 3 * q), .int (nI n)] w (some (.int (gm_nO (gs_pos S d n)))) w := by
  refine gd_Ct_of rfl hinj (Nat.le_of_ble_eq_true rfl) ?_
  intro p e s m args below meth c E hr hlk
  have K := k_D_placeAfter
  have hA : ∀ q, gd_A ad 45 s.heap.size q → gd_A ad 45 s.heap.size q := fun _ h => h
  have hD0 := hD
  obtain ⟨⟨h2, hd6⟩, ⟨h3, hc⟩, ⟨h4, hu⟩, ⟨h5, hp⟩, ⟨h6, hE⟩, h7, ⟨h8, hi⟩, ⟨h9, ha⟩, hm, hn⟩ := hD
  have loop : ¬ (0 < gs_i S d ∧ gs_l S d ≤ n) → ∀ j k x, k + j = min n (gs_l S d) → x < 64 → gs_wk (gs_c S d) (gs_m S d) k = some x → gd_G p l e (gd_rm 2 44) s m args below meth c D tC ad (gd_A ad 45 s.heap.size) 45 5 0 0 (MQ below (gd_Q D tC ad 45 s.heap.size (some (.int (gm_nO (gs_pos S d n)))) w) args s 0 0 (gd_A ad 45 s.heap.size)) 28 [(0, .ref (4 + 3 * q)), (1, .int (nI n)), (2, .int (nI (gs_l S d))), (3, .int (nI x)), (4, .int (nI k))] [] w := by
    intro hni j
    induction j with
    | zero =>
      intro k x hk hx hw
      have hres : gm_nO (gs_pos S d n) = nI x := by rw [gs_pos, if_neg hni, ← hk, Nat.add_zero, hw]; rfl
      refine gd_r E K 2 (pc' := 31) (lv' := [(0, .ref (4 + 3 * q)), (1, .int (nI n)), (2, .int (nI (gs_l S d))), (3, .int (nI x)), (4, .int (nI k))]) (st' := [.int (nI (gs_l S d)), .int (nI k)]) (w' := w) rfl ?_
      by_cases h1 : gs_l S d ≤ k
      · refine gd_r E K 1 (pc' := if (nI (gs_l S d)) ≤ (nI k) then 63 else 34) (lv' := [(0, .ref (4 + 3 * q)), (1, .int (nI n)), (2, .int (nI (gs_l S d))), (3, .int (nI x)), (4, .int (nI k))]) (st' := []) (w' := w) rfl ?_
        refine gd_it (nI_le h1 (by omega)) ?_
        refine gd_r E K 1 (pc' := 64) (lv' := [(0, .ref (4 + 3 * q)), (1, .int (nI n)), (2, .int (nI (gs_l S d))), (3, .int (nI x)), (4, .int (nI k))]) (st' := [.int (nI x)]) (w' := w) rfl ?_
        exact gd_iretq E hr hlk (K.1 64 (.ireturn, 0) rfl).1 (hres) (rfl)
      · refine gd_r E K 1 (pc' := if (nI (gs_l S d)) ≤ (nI k) then 63 else 34) (lv' := [(0, .ref (4 + 3 * q)), (1, .int (nI n)), (2, .int (nI (gs_l S d))), (3, .int (nI x)), (4, .int (nI k))]) (st' := []) (w' := w) rfl ?_
        refine gd_if (nI_ge (by omega) (by omega)) ?_
        refine gd_r E K 2 (pc' := 37) (lv' := [(0, .ref (4 + 3 * q)), (1, .int (nI n)), (2, .int (nI (gs_l S d))), (3, .int (nI x)), (4, .int (nI k))]) (st' := [.int (nI n), .int (nI k)]) (w' := w) rfl ?_
        refine gd_r E K 1 (pc' := if (nI n) ≤ (nI k) then 63 else 40) (lv' := [(0, .ref (4 + 3 * q)), (1, .int (nI n)), (2, .int (nI (gs_l S d))), (3, .int (nI x)), (4, .int (nI k))]) (st' := []) (w' := w) rfl ?_
        refine gd_it (nI_le (by omega) (by omega)) ?_
        refine gd_r E K 1 (pc' := 64) (lv' := [(0, .ref (4 + 3 * q)), (1, .int (nI n)), (2, .int (nI (gs_l S d))), (3, .int (nI x)), (4, .int (nI k))]) (st' := [.int (nI x)]) (w' := w) rfl ?_
        exact gd_iretq E hr hlk (K.1 64 (.ireturn, 0) rfl).1 (hres) (rfl)
    | succ j ih =>
      intro k x hk hx hw
      refine gd_r E K 2 (pc' := 31) (lv' := [(0, .ref (4 + 3 * q)), (1, .int (nI n)), (2, .int (nI (gs_l S d))), (3, .int (nI x)), (4, .int (nI k))]) (st' := [.int (nI (gs_l S d)), .int (nI k)]) (w' := w) rfl ?_
      refine gd_r E K 1 (pc' := if (nI (gs_l S d)) ≤ (nI k) then 63 else 34) (lv' := [(0, .ref (4 + 3 * q)), (1, .int (nI n)), (2, .int (nI (gs_l S d))), (3, .int (nI x)), (4, .int (nI k))]) (st' := []) (w' := w) rfl ?_
      refine gd_if (nI_ge (by omega) (by omega)) ?_
      refine gd_r E K 2 (pc' := 37) (lv' := [(0, .ref (4 + 3 * q)), (1, .int (nI n)), (2, .int (nI (gs_l S d))), (3, .int (nI x)), (4, .int (nI k))]) (st' := [.int (nI n), .int (nI k)]) (w' := w) rfl ?_
      refine gd_r E K 1 (pc' := if (nI n) ≤ (nI k) then 63 else 40) (lv' := [(0, .ref (4 + 3 * q)), (1, .int (nI n)), (2, .int (nI (gs_l S d))), (3, .int (nI x)), (4, .int (nI k))]) (st' := []) (w' := w) rfl ?_
      refine gd_if (nI_ge (by omega) (by omega)) ?_
      obtain ⟨r1, r2⟩ := hm k (by omega)
      refine gd_r E K 2 (pc' := 42) (lv' := [(0, .ref (4 + 3 * q)), (1, .int (nI n)), (2, .int (nI (gs_l S d))), (3, .int (nI x)), (4, .int (nI k))]) (st' := [.ref (4 + 3 * q), .int (nI x)]) (w' := w) rfl ?_
      refine gd_getd E K (K.1 42 (.getfield 9, 0) rfl).1 rfl (by omega) (gd_shd hq) rfl (v := .ref (5 + 3 * q)) (gd_avd0 _ hq) ?_
      refine gd_r E K 1 (pc' := 46) (lv' := [(0, .ref (4 + 3 * q)), (1, .int (nI n)), (2, .int (nI (gs_l S d))), (3, .int (nI x)), (4, .int (nI k))]) (st' := [.ref (4 + 3 * q), .ref (5 + 3 * q), .int (nI x)]) (w' := w) rfl ?_
      refine gd_getd E K (K.1 46 (.getfield 35, 0) rfl).1 rfl (by omega) (gd_shd hq) rfl (v := .int (nI E0)) (by show Value.int _ = Value.int _; rw [h7]) ?_
      refine gd_r E K 2 (pc' := 52) (lv' := [(0, .ref (4 + 3 * q)), (1, .int (nI n)), (2, .int (nI (gs_l S d))), (3, .int (nI x)), (4, .int (nI k))]) (st' := [.int ((nI E0) + (nI k)), .ref (5 + 3 * q), .int (nI x)]) (w' := w) rfl ?_
      refine gd_ialdv E (K.1 52 (.iaload, 0) rfl).1 (j := E0 + k) (by omega) (gd_shd0 hq) (by rw [nI_add]) (by omega) (by decide) (v := nI (gs_m S d k)) (r1) ?_
      obtain ⟨y, hy, hw2⟩ := hv (k + 1) (by omega)
      have hmv : gm_mv x (gs_m S d k) = some y := by rw [← gs_wk_s hw]; exact hw2
      refine gd_cS E hA (av := [.int (nI x), .int (nI (gs_m S d k))]) (rest := []) (c2_after hinj x (gs_m S d k) hx r2 w) (K.1 53 (.invokestatic 64, 0) rfl).1 ml_D_64 cv_S_after ⟨Nat.le_of_ble_eq_true rfl, Nat.le_of_ble_eq_true rfl⟩ ⟨Nat.zero_le _, Nat.zero_le _⟩ rfl (Nat.le_of_ble_eq_true rfl) ?_
      refine gd_r E K 3 (pc' := 28) (lv' := [(0, .ref (4 + 3 * q)), (1, .int (nI n)), (2, .int (nI (gs_l S d))), (3, .int (gm_nO (gm_mv x (gs_m S d k)))), (4, .int ((nI k) + 1))]) (st' := []) (w' := w) rfl ?_
      exact gd_cg (ih (k + 1) y (by omega) hy hw2) (by simp only [hmv, gm_nO, nI_1]) rfl rfl
  refine gd_r E K 1 (pc' := 1) (lv' := [(0, .ref (4 + 3 * q)), (1, .int (nI n))]) (st' := [.ref (4 + 3 * q)]) (w' := w) rfl ?_
  refine gd_cV E hA (av := []) (rest := []) (c3_left hinj w q hq d hD0) (K.1 1 (.invokevirtual 60, 0) rfl).1 ml_D_60 cv_D_movesLeft (by omega) (gd_shd hq) ⟨Nat.le_of_ble_eq_true rfl, Nat.le_of_ble_eq_true rfl⟩ ⟨Nat.zero_le _, Nat.zero_le _⟩ rfl (Nat.le_of_ble_eq_true rfl) ?_
  refine gd_r E K 2 (pc' := 6) (lv' := [(0, .ref (4 + 3 * q)), (1, .int (nI n)), (2, .int (nI (gs_l S d)))]) (st' := [.ref (4 + 3 * q)]) (w' := w) rfl ?_
  refine gd_getd E K (K.1 6 (.getfield 38, 0) rfl).1 rfl (by omega) (gd_shd hq) rfl (v := .int (gs_pr (gs_i S d))) (by show Value.int _ = Value.int _; rw [h8]) ?_
  refine gd_r E K 1 (pc' := 10) (lv' := [(0, .ref (4 + 3 * q)), (1, .int (nI n)), (2, .int (nI (gs_l S d)))]) (st' := [.int (-1), .int (gs_pr (gs_i S d))]) (w' := w) rfl ?_
  by_cases h0 : gs_i S d = 0
  · refine gd_r E K 1 (pc' := if (gs_pr (gs_i S d)) = (-1) then 20 else 13) (lv' := [(0, .ref (4 + 3 * q)), (1, .int (nI n)), (2, .int (nI (gs_l S d)))]) (st' := []) (w' := w) rfl ?_
    refine gd_it ((gs_pr_m1 (by omega)).mpr h0) ?_
    refine gd_r E K 1 (pc' := 21) (lv' := [(0, .ref (4 + 3 * q)), (1, .int (nI n)), (2, .int (nI (gs_l S d)))]) (st' := [.ref (4 + 3 * q)]) (w' := w) rfl ?_
    refine gd_getd E K (K.1 21 (.getfield 23, 0) rfl).1 rfl (by omega) (gd_shd hq) rfl (v := .int (nI (gs_c S d))) (by show Value.int _ = Value.int _; rw [h3]) ?_
    refine gd_r E K 3 (pc' := 28) (lv' := [(0, .ref (4 + 3 * q)), (1, .int (nI n)), (2, .int (nI (gs_l S d))), (3, .int (nI (gs_c S d))), (4, .int 0)]) (st' := []) (w' := w) rfl ?_
    exact gd_cg (loop (by omega) (min n (gs_l S d)) 0 (gs_c S d) (by omega) hc rfl) rfl rfl rfl
  · refine gd_r E K 1 (pc' := if (gs_pr (gs_i S d)) = (-1) then 20 else 13) (lv' := [(0, .ref (4 + 3 * q)), (1, .int (nI n)), (2, .int (nI (gs_l S d)))]) (st' := []) (w' := w) rfl ?_
    refine gd_if (fun x => h0 ((gs_pr_m1 (by omega)).mp x)) ?_
    refine gd_r E K 2 (pc' := 15) (lv' := [(0, .ref (4 + 3 * q)), (1, .int (nI n)), (2, .int (nI (gs_l S d)))]) (st' := [.int (nI (gs_l S d)), .int (nI n)]) (w' := w) rfl ?_
    by_cases h1 : n < gs_l S d
    · refine gd_r E K 1 (pc' := if (nI n) < (nI (gs_l S d)) then 20 else 18) (lv' := [(0, .ref (4 + 3 * q)), (1, .int (nI n)), (2, .int (nI (gs_l S d)))]) (st' := []) (w' := w) rfl ?_
      refine gd_it (nI_lt h1 (by omega)) ?_
      refine gd_r E K 1 (pc' := 21) (lv' := [(0, .ref (4 + 3 * q)), (1, .int (nI n)), (2, .int (nI (gs_l S d)))]) (st' := [.ref (4 + 3 * q)]) (w' := w) rfl ?_
      refine gd_getd E K (K.1 21 (.getfield 23, 0) rfl).1 rfl (by omega) (gd_shd hq) rfl (v := .int (nI (gs_c S d))) (by show Value.int _ = Value.int _; rw [h3]) ?_
      refine gd_r E K 3 (pc' := 28) (lv' := [(0, .ref (4 + 3 * q)), (1, .int (nI n)), (2, .int (nI (gs_l S d))), (3, .int (nI (gs_c S d))), (4, .int 0)]) (st' := []) (w' := w) rfl ?_
      exact gd_cg (loop (by omega) (min n (gs_l S d)) 0 (gs_c S d) (by omega) hc rfl) rfl rfl rfl
    · refine gd_r E K 1 (pc' := if (nI n) < (nI (gs_l S d)) then 20 else 18) (lv' := [(0, .ref (4 + 3 * q)), (1, .int (nI n)), (2, .int (nI (gs_l S d)))]) (st' := []) (w' := w) rfl ?_
      refine gd_if (nI_nlt (by omega) (by omega)) ?_
      refine gd_r E K 1 (pc' := 19) (lv' := [(0, .ref (4 + 3 * q)), (1, .int (nI n)), (2, .int (nI (gs_l S d)))]) (st' := [.int (-1)]) (w' := w) rfl ?_
      exact gd_iretq E hr hlk (K.1 19 (.ireturn, 0) rfl).1 (by rw [gs_pos, if_pos ⟨by omega, by omega⟩]; rfl) (rfl)
