theorem gd_lt0 {n : Nat} (hn : n < 2 ^ 31) : ¬ nI n < 0 := nI_pos hn
theorem gm_nO_neg : gm_nO none < 0 := by decide
theorem gm_nO_some {a : Nat} (h : a < 2 ^ 31) : ¬ gm_nO (some a) < 0 := nI_pos h
/-- what the reference's arrays hold -/
def gr_M (w : gd_W) (s : gs_T) (G : Nat → Nat) : Prop :=
  (w.1 27 3 = nI (gs_made s) ∧ gs_made s ≤ 60) ∧ (∀ d, d < 60 → w.1 29 d = nI (gs_u s d) ∧ gs_u s d ≤ 2) ∧ (∀ d, d < 60 → w.1 30 d = nI (gs_c s d) ∧ gs_c s d < 64) ∧
  (∀ d, d < 60 → w.1 34 d = nI (G d + gs_l s d) ∧ w.1 35 d = nI (G d) ∧ G d + gs_l s d ≤ 60) ∧ (∀ d, d < 60 → ∀ k, k < gs_l s d → w.1 33 (60 * d + G d + k) = nI (gs_m s d k) ∧ gs_m s d k < 5) ∧
  (∀ d, d < 60 → w.1 36 d = nI (gs_i s d) ∧ gs_i s d ≤ 60) ∧ (∀ c, c < 64 → w.1 28 c = nI (gs_k s c) ∧ gs_k s c < 8) ∧
  (∀ d, d < 60 → ∀ k, k < 4 → w.2.1 31 (4 * d + k) = gs_sh s d k) ∧ (∀ d, d < 60 → w.1 32 d = nI (gs_p s d) ∧ gs_p s d ≤ 60) ∧
  w.1 27 1 = gs_time s ∧ (w.1 27 12 = nI (gs_out s) ∧ gs_out s ≤ 60) ∧ (w.1 27 13 = nI (gs_thr s) ∧ gs_thr s ≤ 60) ∧ (w.1 27 14 = nI (gs_rd s).length ∧ (gs_rd s).length ≤ 50) ∧
  ∀ j r, (gs_rd s)[j]? = some r → w.1 37 j = nI r.1 ∧ w.1 38 j = r.2.1 ∧ w.1 39 j = nI r.2.2.1 ∧ w.1 40 j = nI r.2.2.2
theorem gr_M.U {w : gd_W} {s : gs_T} {G : Nat → Nat} (h : gr_M w s G) : gs_UU w (gs_made s) (gs_u s) := ⟨h.1.1, h.1.2, fun d hd => h.2.1 d (by have := h.1.2; omega)⟩
theorem gr_M.J {w : gd_W} {s : gs_T} {G : Nat → Nat} (h : gr_M w s G) : ∀ k, k < gs_made s → w.1 36 k = nI (gs_i s k) ∧ gs_i s k ≤ 60 := fun k hk => h.2.2.2.2.2.1 k (by have := h.1.2; omega)
/-- every way stays on the grid -/
def gv_way (s : gs_T) (d : Nat) : Prop := ∀ k, k ≤ gs_l s d → ∃ x, x < 64 ∧ gs_wk (gs_c s d) (gs_m s d) k = some x
set_option maxRecDepth 100000 in
theorem c2_comer {l : Launch} {D : va_G} {tC : FieldType → ClassId} {ad : Nat → Nat} (hinj : ∀ i j, ad i = ad j → i = j) {N : Nat} {U J : Nat → Nat} (w : gd_W) (hU : gs_UU w N U) (hJ : ∀ k, k < N → w.1 36 k = nI (J k) ∧ J k ≤ 60) (d : Nat) (hd : d < 60) : gd_Ct l D tC ad 45 0 0 y_M_comer c_M_comer 4 (some .int) [.ref 27, .int (nI d)] w (some (.int (gm_nO (gs_com U J d N)))) w := by
  refine gd_Ct_of rfl hinj (Nat.le_of_ble_eq_true rfl) ?_
  intro p e s m args below meth c E hr hlk
  have K := k_M_comer
  have hA : ∀ q, gd_A ad 45 s.heap.size q → gd_A ad 45 s.heap.size q := fun _ h => h
  obtain ⟨hm, hN, hu⟩ := hU
  have loop : ∀ j k, k + j = N → gd_G p l e (gd_rm 0 0) s m args below meth c D tC ad (gd_A ad 45 s.heap.size) 45 4 0 0 (MQ below (gd_Q D tC ad 45 s.heap.size (some (.int (gm_nO (gs_com U J d N)))) w) args s 0 0 (gd_A ad 45 s.heap.size)) 4 [(0, .ref 27), (1, .int (nI d)), (2, .int (gm_nO (gs_com U J d k))), (3, .int (nI k))] [] w := by
    intro j
    induction j with
    | zero =>
      intro k hk
      refine gd_r E K 3 (pc' := 9) (lv' := [(0, .ref 27), (1, .int (nI d)), (2, .int (gm_nO (gs_com U J d k))), (3, .int (nI k))]) (st' := [.int (w.1 27 3), .int (nI k)]) (w' := w) rfl ?_
      refine gd_cg (lv' := [(0, .ref 27), (1, .int (nI d)), (2, .int (gm_nO (gs_com U J d k))), (3, .int (nI k))]) (st' := [.int (nI N), .int (nI k)]) (w' := w) ?_ (rfl) (by simp only [hm]) rfl
      refine gd_r E K 1 (pc' := if (nI N) ≤ (nI k) then 45 else 12) (lv' := [(0, .ref 27), (1, .int (nI d)), (2, .int (gm_nO (gs_com U J d k))), (3, .int (nI k))]) (st' := []) (w' := w) rfl ?_
      refine gd_it (nI_le (by omega) (by omega)) ?_
      refine gd_r E K 1 (pc' := 46) (lv' := [(0, .ref 27), (1, .int (nI d)), (2, .int (gm_nO (gs_com U J d k))), (3, .int (nI k))]) (st' := [.int (gm_nO (gs_com U J d k))]) (w' := w) rfl ?_
      exact gd_iretq E hr hlk (K.1 46 (.ireturn, 0) rfl).1 (by rw [show k = N by omega]) (rfl)
    | succ j ih =>
      intro k hk
      refine gd_r E K 3 (pc' := 9) (lv' := [(0, .ref 27), (1, .int (nI d)), (2, .int (gm_nO (gs_com U J d k))), (3, .int (nI k))]) (st' := [.int (w.1 27 3), .int (nI k)]) (w' := w) rfl ?_
      refine gd_cg (lv' := [(0, .ref 27), (1, .int (nI d)), (2, .int (gm_nO (gs_com U J d k))), (3, .int (nI k))]) (st' := [.int (nI N), .int (nI k)]) (w' := w) ?_ (rfl) (by simp only [hm]) rfl
      refine gd_r E K 1 (pc' := if (nI N) ≤ (nI k) then 45 else 12) (lv' := [(0, .ref 27), (1, .int (nI d)), (2, .int (gm_nO (gs_com U J d k))), (3, .int (nI k))]) (st' := []) (w' := w) rfl ?_
      refine gd_if (nI_ge (by omega) (by omega)) ?_
      refine gd_r E K 3 (pc' := 17) (lv' := [(0, .ref 27), (1, .int (nI d)), (2, .int (gm_nO (gs_com U J d k))), (3, .int (nI k))]) (st' := [.int (nI k), .ref 29]) (w' := w) rfl ?_
      refine gd_ialdv E (K.1 17 (.iaload, 0) rfl).1 (j := k) (by decide) (rfl) (rfl) (by omega) (by decide) (v := nI (U k)) ((hu k (by omega)).1) ?_
      have hu2 := (hu k (by omega)).2
      have hj2 := (hJ k (by omega)).2
      rcases Nat.eq_zero_or_pos (U k) with h0 | h0
      · refine gd_r E K 1 (pc' := if (nI (U k)) ≤ 0 then 37 else 21) (lv' := [(0, .ref 27), (1, .int (nI d)), (2, .int (gm_nO (gs_com U J d k))), (3, .int (nI k))]) (st' := []) (w' := w) rfl ?_
        refine gd_it ((gd_le0 (by omega)).mpr h0) ?_
        refine gd_r E K 4 (pc' := 4) (lv' := [(0, .ref 27), (1, .int (nI d)), (2, .int (gm_nO (gs_com U J d k))), (3, .int ((nI k) + 1))]) (st' := []) (w' := w) rfl ?_
        exact gd_cg (ih (k + 1) (by omega)) (by simp only [gs_com, if_neg (show ¬ (0 < U k ∧ J k = d + 1) by omega), nI_1]) rfl rfl
      · refine gd_r E K 1 (pc' := if (nI (U k)) ≤ 0 then 37 else 21) (lv' := [(0, .ref 27), (1, .int (nI d)), (2, .int (gm_nO (gs_com U J d k))), (3, .int (nI k))]) (st' := []) (w' := w) rfl ?_
        refine gd_if (fun q => absurd ((gd_le0 (by omega)).mp q) (by omega)) ?_
        refine gd_r E K 3 (pc' := 26) (lv' := [(0, .ref 27), (1, .int (nI d)), (2, .int (gm_nO (gs_com U J d k))), (3, .int (nI k))]) (st' := [.int (nI k), .ref 36]) (w' := w) rfl ?_
        refine gd_ialdv E (K.1 26 (.iaload, 0) rfl).1 (j := k) (by decide) (rfl) (rfl) (by omega) (by decide) (v := nI (J k)) ((hJ k (by omega)).1) ?_
        refine gd_r E K 3 (pc' := 30) (lv' := [(0, .ref 27), (1, .int (nI d)), (2, .int (gm_nO (gs_com U J d k))), (3, .int (nI k))]) (st' := [.int ((nI d) + 1), .int (nI (J k))]) (w' := w) rfl ?_
        by_cases h1 : J k = d + 1
        · refine gd_r E K 1 (pc' := if (nI (J k)) = ((nI d) + 1) then 33 else 37) (lv' := [(0, .ref 27), (1, .int (nI d)), (2, .int (gm_nO (gs_com U J d k))), (3, .int (nI k))]) (st' := []) (w' := w) rfl ?_
          refine gd_it (by rw [nI_1, h1]) ?_
          refine gd_r E K 5 (pc' := 4) (lv' := [(0, .ref 27), (1, .int (nI d)), (2, .int (nI k)), (3, .int ((nI k) + 1))]) (st' := []) (w' := w) rfl ?_
          exact gd_cg (ih (k + 1) (by omega)) (by simp only [gs_com, if_pos (And.intro h0 h1), nI_1, gm_nO]) rfl rfl
        · refine gd_r E K 1 (pc' := if (nI (J k)) = ((nI d) + 1) then 33 else 37) (lv' := [(0, .ref 27), (1, .int (nI d)), (2, .int (gm_nO (gs_com U J d k))), (3, .int (nI k))]) (st' := []) (w' := w) rfl ?_
          refine gd_if (by rw [nI_1, nI_eq (by omega) (by omega)]; exact h1) ?_
          refine gd_r E K 4 (pc' := 4) (lv' := [(0, .ref 27), (1, .int (nI d)), (2, .int (gm_nO (gs_com U J d k))), (3, .int ((nI k) + 1))]) (st' := []) (w' := w) rfl ?_
          exact gd_cg (ih (k + 1) (by omega)) (by simp only [gs_com, if_neg (fun z : 0 < U k ∧ J k = d + 1 => h1 z.2), nI_1]) rfl rfl
  refine gd_r E K 4 (pc' := 4) (lv' := [(0, .ref 27), (1, .int (nI d)), (2, .int (-1)), (3, .int 0)]) (st' := []) (w' := w) rfl ?_
  exact gd_cg (loop N 0 (by omega)) rfl rfl rfl
set_option maxRecDepth 100000 in
theorem c2_left {l : Launch} {D : va_G} {tC : FieldType → ClassId} {ad : Nat → Nat} (hinj : ∀ i j, ad i = ad j → i = j) {S : gs_T} {G : Nat → Nat} (w : gd_W) (hR : gr_M w S G) (d : Nat) (hd : d < gs_made S) : gd_Ct l D tC ad 45 0 0 y_M_left c_M_left 2 (some .int) [.ref 27, .int (nI d)] w (some (.int (nI (gs_l S d)))) w := by
  refine gd_Ct_of rfl hinj (Nat.le_of_ble_eq_true rfl) ?_
  intro p e s m args below meth c E hr hlk
  have K := k_M_left
  have hA : ∀ q, gd_A ad 45 s.heap.size q → gd_A ad 45 s.heap.size q := fun _ h => h
  obtain ⟨⟨hm, hN⟩, hu, hc, hl, -⟩ := hR
  obtain ⟨g1, g2, g3⟩ := hl d (by omega)
  refine gd_r E K 3 (pc' := 5) (lv' := [(0, .ref 27), (1, .int (nI d))]) (st' := [.int (nI d), .ref 34]) (w' := w) rfl ?_
  refine gd_ialdv E (K.1 5 (.iaload, 0) rfl).1 (j := d) (by decide) (rfl) (rfl) (by omega) (by decide) (v := nI (G d + gs_l S d)) (g1) ?_
  refine gd_r E K 3 (pc' := 11) (lv' := [(0, .ref 27), (1, .int (nI d))]) (st' := [.int (nI d), .ref 35, .int (nI (G d + gs_l S d))]) (w' := w) rfl ?_
  refine gd_ialdv E (K.1 11 (.iaload, 0) rfl).1 (j := d) (by decide) (rfl) (rfl) (by omega) (by decide) (v := nI (G d)) (g2) ?_
  refine gd_r E K 1 (pc' := 13) (lv' := [(0, .ref 27), (1, .int (nI d))]) (st' := [.int ((nI (G d + gs_l S d)) - (nI (G d)))]) (w' := w) rfl ?_
  exact gd_iretq E hr hlk (K.1 13 (.ireturn, 0) rfl).1 (by rw [pk_sub (by omega)]; congr 1; omega) (rfl)
def gs_free (S : gs_T) (d : Nat) : Bool := decide (gs_l S d = 0) && (gs_com (gs_u S) (gs_i S) d (gs_made S)).isNone
theorem gs_com_lt {U J : Nat → Nat} {d : Nat} : ∀ {n k : Nat}, gs_com U J d n = some k → k < n
  | 0, k, h => by cases h
  | n + 1, k, h => by
    rw [gs_com] at h
    split at h
    · cases h; omega
    · have := gs_com_lt h; omega
set_option maxRecDepth 100000 in
theorem c2_isFree {l : Launch} {D : va_G} {tC : FieldType → ClassId} {ad : Nat → Nat} (hinj : ∀ i j, ad i = ad j → i = j) {S : gs_T} {G : Nat → Nat} (w : gd_W) (hR : gr_M w S G) (d : Nat) (hd : d < gs_made S) : gd_Ct l D tC ad 45 1 23 y_M_isFree c_M_isFree 2 (some .boolean) [.ref 27, .int (nI d)] w (some (.int (gs_b (gs_free S d)))) w := by
  refine gd_Ct_of rfl hinj (Nat.le_of_ble_eq_true rfl) ?_
  intro p e s m args below meth c E hr hlk
  have K := k_M_isFree
  have hA : ∀ q, gd_A ad 45 s.heap.size q → gd_A ad 45 s.heap.size q := fun _ h => h
  have hN := hR.1.2
  have hl := (hR.2.2.2.1 d (by omega)).2.2
  refine gd_r E K 2 (pc' := 2) (lv' := [(0, .ref 27), (1, .int (nI d))]) (st' := [.int (nI d), .ref 27]) (w' := w) rfl ?_
  refine gd_cV E hA (av := [.int (nI d)]) (rest := []) (c2_left hinj w hR d hd) (K.1 2 (.invokevirtual 75, 0) rfl).1 ml_M_75 cv_M_left (by decide) (rfl) ⟨Nat.le_of_ble_eq_true rfl, Nat.le_of_ble_eq_true rfl⟩ ⟨Nat.zero_le _, Nat.zero_le _⟩ rfl (Nat.le_of_ble_eq_true rfl) ?_
  by_cases h1 : gs_l S d = 0
  · refine gd_r E K 1 (pc' := if (nI (gs_l S d)) = 0 then 8 else 20) (lv' := [(0, .ref 27), (1, .int (nI d))]) (st' := []) (w' := w) rfl ?_
    refine gd_it (by rw [h1]; rfl) ?_
    refine gd_r E K 2 (pc' := 10) (lv' := [(0, .ref 27), (1, .int (nI d))]) (st' := [.int (nI d), .ref 27]) (w' := w) rfl ?_
    refine gd_cV E hA (av := [.int (nI d)]) (rest := []) (c2_comer hinj w hR.U hR.J d (by omega)) (K.1 10 (.invokevirtual 79, 0) rfl).1 ml_M_79 cv_M_comer (by decide) (rfl) ⟨Nat.le_of_ble_eq_true rfl, Nat.le_of_ble_eq_true rfl⟩ ⟨Nat.zero_le _, Nat.zero_le _⟩ rfl (Nat.le_of_ble_eq_true rfl) ?_
    cases hcm : gs_com (gs_u S) (gs_i S) d (gs_made S) with
    | none =>
      refine gd_r E K 1 (pc' := if 0 ≤ (gm_nO none) then 20 else 16) (lv' := [(0, .ref 27), (1, .int (nI d))]) (st' := []) (w' := w) rfl ?_
      refine gd_if (by decide) ?_
      refine gd_r E K 2 (pc' := 21) (lv' := [(0, .ref 27), (1, .int (nI d))]) (st' := [.int 1]) (w' := w) rfl ?_
      exact gd_zretq E hr hlk (K.1 21 (.ireturn, 0) rfl).1 (by decide) (by simp [gs_free, h1, hcm, gs_b]) (rfl)
    | some k =>
      have hk := gs_com_lt hcm
      refine gd_r E K 1 (pc' := if 0 ≤ (gm_nO (some k)) then 20 else 16) (lv' := [(0, .ref 27), (1, .int (nI d))]) (st' := []) (w' := w) rfl ?_
      refine gd_it (nI_pos' (by omega)) ?_
      refine gd_r E K 1 (pc' := 21) (lv' := [(0, .ref 27), (1, .int (nI d))]) (st' := [.int 0]) (w' := w) rfl ?_
      exact gd_zretq E hr hlk (K.1 21 (.ireturn, 0) rfl).1 (by decide) (by simp [gs_free, hcm, gs_b]) (rfl)
  · refine gd_r E K 1 (pc' := if (nI (gs_l S d)) = 0 then 8 else 20) (lv' := [(0, .ref 27), (1, .int (nI d))]) (st' := []) (w' := w) rfl ?_
    refine gd_if (nI_ne0 (by omega) (by omega)) ?_
    refine gd_r E K 1 (pc' := 21) (lv' := [(0, .ref 27), (1, .int (nI d))]) (st' := [.int 0]) (w' := w) rfl ?_
    exact gd_zretq E hr hlk (K.1 21 (.ireturn, 0) rfl).1 (by decide) (by simp [gs_free, h1, gs_b]) (rfl)
theorem gs_wk_s {c : Nat} {ms : Nat → Nat} {n x : Nat} (h : gs_wk c ms n = some x) : gs_wk c ms (n + 1) = gm_mv x (ms n) := by rw [gs_wk, h]
set_option maxRecDepth 100000 in
theorem c2_placeAfter {l : Launch} {D : va_G} {tC : FieldType → ClassId} {ad : Nat → Nat} (hinj : ∀ i j, ad i = ad j → i = j) {S : gs_T} {G : Nat → Nat} (w : gd_W) (hR : gr_M w S G) (d : Nat) (hd : d < gs_made S) (hv : gv_way S d) (n : Nat) (hn : n < 2 ^ 31) : gd_Ct l D tC ad 45 2 44 y_M_placeAfter c_M_placeAfter 5 (some .int) [.ref 27, .int (nI d), .int (nI n)] w (some (.int (gm_nO (gs_pos S d n)))) w := by
  refine gd_Ct_of rfl hinj (Nat.le_of_ble_eq_true rfl) ?_
  intro p e s m args below meth c E hr hlk
  have K := k_M_placeAfter
  have hA : ∀ q, gd_A ad 45 s.heap.size q → gd_A ad 45 s.heap.size q := fun _ h => h
  have hN := hR.1.2
  obtain ⟨g1, g2, g3⟩ := hR.2.2.2.1 d (by omega)
  obtain ⟨i1, i2⟩ := hR.2.2.2.2.2.1 d (by omega)
  have hro := hR.2.2.2.2.1 d (by omega)
  obtain ⟨c1, c2⟩ := hR.2.2.1 d (by omega)
  have loop : ¬ (0 < gs_i S d ∧ gs_l S d ≤ n) → ∀ j k x, k + j = min n (gs_l S d) → x < 64 → gs_wk (gs_c S d) (gs_m S d) k = some x → gd_G p l e (gd_rm 2 44) s m args below meth c D tC ad (gd_A ad 45 s.heap.size) 45 5 0 0 (MQ below (gd_Q D tC ad 45 s.heap.size (some (.int (gm_nO (gs_pos S d n)))) w) args s 0 0 (gd_A ad 45 s.heap.size)) 30 [(0, .ref 27), (1, .int (nI d)), (2, .int (nI n)), (3, .int (nI x)), (4, .int (nI k))] [] w := by
    intro hni j
    induction j with
    | zero =>
      intro k x hk hx hw
      have hres : gm_nO (gs_pos S d n) = nI x := by rw [gs_pos, if_neg hni, ← hk, Nat.add_zero, hw]; rfl
      refine gd_r E K 2 (pc' := 33) (lv' := [(0, .ref 27), (1, .int (nI d)), (2, .int (nI n)), (3, .int (nI x)), (4, .int (nI k))]) (st' := [.int (nI n), .int (nI k)]) (w' := w) rfl ?_
      by_cases h1 : n ≤ k
      · refine gd_r E K 1 (pc' := if (nI n) ≤ (nI k) then 76 else 36) (lv' := [(0, .ref 27), (1, .int (nI d)), (2, .int (nI n)), (3, .int (nI x)), (4, .int (nI k))]) (st' := []) (w' := w) rfl ?_
        refine gd_it (nI_le h1 (by omega)) ?_
        refine gd_r E K 1 (pc' := 77) (lv' := [(0, .ref 27), (1, .int (nI d)), (2, .int (nI n)), (3, .int (nI x)), (4, .int (nI k))]) (st' := [.int (nI x)]) (w' := w) rfl ?_
        exact gd_iretq E hr hlk (K.1 77 (.ireturn, 0) rfl).1 (hres) (rfl)
      · refine gd_r E K 1 (pc' := if (nI n) ≤ (nI k) then 76 else 36) (lv' := [(0, .ref 27), (1, .int (nI d)), (2, .int (nI n)), (3, .int (nI x)), (4, .int (nI k))]) (st' := []) (w' := w) rfl ?_
        refine gd_if (nI_ge (by omega) (by omega)) ?_
        refine gd_r E K 3 (pc' := 40) (lv' := [(0, .ref 27), (1, .int (nI d)), (2, .int (nI n)), (3, .int (nI x)), (4, .int (nI k))]) (st' := [.int (nI d), .ref 27, .int (nI k)]) (w' := w) rfl ?_
        refine gd_cV E hA (av := [.int (nI d)]) (rest := [.int (nI k)]) (c2_left hinj w hR d hd) (K.1 40 (.invokevirtual 75, 0) rfl).1 ml_M_75 cv_M_left (by decide) (rfl) ⟨Nat.le_of_ble_eq_true rfl, Nat.le_of_ble_eq_true rfl⟩ ⟨Nat.zero_le _, Nat.zero_le _⟩ rfl (Nat.le_of_ble_eq_true rfl) ?_
        refine gd_r E K 1 (pc' := if (nI (gs_l S d)) ≤ (nI k) then 76 else 46) (lv' := [(0, .ref 27), (1, .int (nI d)), (2, .int (nI n)), (3, .int (nI x)), (4, .int (nI k))]) (st' := []) (w' := w) rfl ?_
        refine gd_it (nI_le (by omega) (by omega)) ?_
        refine gd_r E K 1 (pc' := 77) (lv' := [(0, .ref 27), (1, .int (nI d)), (2, .int (nI n)), (3, .int (nI x)), (4, .int (nI k))]) (st' := [.int (nI x)]) (w' := w) rfl ?_
        exact gd_iretq E hr hlk (K.1 77 (.ireturn, 0) rfl).1 (hres) (rfl)
    | succ j ih =>
      intro k x hk hx hw
      refine gd_r E K 2 (pc' := 33) (lv' := [(0, .ref 27), (1, .int (nI d)), (2, .int (nI n)), (3, .int (nI x)), (4, .int (nI k))]) (st' := [.int (nI n), .int (nI k)]) (w' := w) rfl ?_
      refine gd_r E K 1 (pc' := if (nI n) ≤ (nI k) then 76 else 36) (lv' := [(0, .ref 27), (1, .int (nI d)), (2, .int (nI n)), (3, .int (nI x)), (4, .int (nI k))]) (st' := []) (w' := w) rfl ?_
      refine gd_if (nI_ge (by omega) (by omega)) ?_
      refine gd_r E K 3 (pc' := 40) (lv' := [(0, .ref 27), (1, .int (nI d)), (2, .int (nI n)), (3, .int (nI x)), (4, .int (nI k))]) (st' := [.int (nI d), .ref 27, .int (nI k)]) (w' := w) rfl ?_
      refine gd_cV E hA (av := [.int (nI d)]) (rest := [.int (nI k)]) (c2_left hinj w hR d hd) (K.1 40 (.invokevirtual 75, 0) rfl).1 ml_M_75 cv_M_left (by decide) (rfl) ⟨Nat.le_of_ble_eq_true rfl, Nat.le_of_ble_eq_true rfl⟩ ⟨Nat.zero_le _, Nat.zero_le _⟩ rfl (Nat.le_of_ble_eq_true rfl) ?_
      refine gd_r E K 1 (pc' := if (nI (gs_l S d)) ≤ (nI k) then 76 else 46) (lv' := [(0, .ref 27), (1, .int (nI d)), (2, .int (nI n)), (3, .int (nI x)), (4, .int (nI k))]) (st' := []) (w' := w) rfl ?_
      refine gd_if (nI_ge (by omega) (by omega)) ?_
      refine gd_r E K 9 (pc' := 60) (lv' := [(0, .ref 27), (1, .int (nI d)), (2, .int (nI n)), (3, .int (nI x)), (4, .int (nI k))]) (st' := [.int (nI d), .ref 35, .int (60 * (nI d)), .ref 33, .int (nI x)]) (w' := w) rfl ?_
      obtain ⟨r1, r2⟩ := hro k (by omega)
      refine gd_ialdv E (K.1 60 (.iaload, 0) rfl).1 (j := d) (by decide) (rfl) (rfl) (by omega) (by decide) (v := nI (G d)) (g2) ?_
      refine gd_r E K 3 (pc' := 65) (lv' := [(0, .ref 27), (1, .int (nI d)), (2, .int (nI n)), (3, .int (nI x)), (4, .int (nI k))]) (st' := [.int (((60 * (nI d)) + (nI (G d))) + (nI k)), .ref 33, .int (nI x)]) (w' := w) rfl ?_
      refine gd_ialdv E (K.1 65 (.iaload, 0) rfl).1 (j := 60 * d + G d + k) (by decide) (rfl) (by rw [show (60 : Int32) = nI 60 from rfl, pk_mul, nI_add, nI_add]) (by omega) (by decide) (v := nI (gs_m S d k)) (r1) ?_
      obtain ⟨y, hy, hw2⟩ := hv (k + 1) (by omega)
      have hmv : gm_mv x (gs_m S d k) = some y := by rw [← gs_wk_s hw]; exact hw2
      refine gd_cS E hA (av := [.int (nI x), .int (nI (gs_m S d k))]) (rest := []) (c2_moved hinj x (gs_m S d k) hx r2 w) (K.1 66 (.invokestatic 82, 0) rfl).1 ml_M_82 cv_M_moved ⟨Nat.le_of_ble_eq_true rfl, Nat.le_of_ble_eq_true rfl⟩ ⟨Nat.zero_le _, Nat.zero_le _⟩ rfl (Nat.le_of_ble_eq_true rfl) ?_
      refine gd_r E K 3 (pc' := 30) (lv' := [(0, .ref 27), (1, .int (nI d)), (2, .int (nI n)), (3, .int (gm_nO (gm_mv x (gs_m S d k)))), (4, .int ((nI k) + 1))]) (st' := []) (w' := w) rfl ?_
      exact gd_cg (ih (k + 1) y (by omega) hy hw2) (by simp only [hmv, gm_nO, nI_1]) rfl rfl
  refine gd_r E K 3 (pc' := 5) (lv' := [(0, .ref 27), (1, .int (nI d)), (2, .int (nI n))]) (st' := [.int (nI d), .ref 36]) (w' := w) rfl ?_
  refine gd_ialdv E (K.1 5 (.iaload, 0) rfl).1 (j := d) (by decide) (rfl) (rfl) (by omega) (by decide) (v := nI (gs_i S d)) (i1) ?_
  by_cases h0 : gs_i S d = 0
  · refine gd_r E K 1 (pc' := if (nI (gs_i S d)) ≤ 0 then 20 else 9) (lv' := [(0, .ref 27), (1, .int (nI d)), (2, .int (nI n))]) (st' := []) (w' := w) rfl ?_
    refine gd_it ((gd_le0 (by omega)).mpr h0) ?_
    refine gd_r E K 3 (pc' := 25) (lv' := [(0, .ref 27), (1, .int (nI d)), (2, .int (nI n))]) (st' := [.int (nI d), .ref 30]) (w' := w) rfl ?_
    refine gd_ialdv E (K.1 25 (.iaload, 0) rfl).1 (j := d) (by decide) (rfl) (rfl) (by omega) (by decide) (v := nI (gs_c S d)) (c1) ?_
    refine gd_r E K 3 (pc' := 30) (lv' := [(0, .ref 27), (1, .int (nI d)), (2, .int (nI n)), (3, .int (nI (gs_c S d))), (4, .int 0)]) (st' := []) (w' := w) rfl ?_
    exact gd_cg (loop (by omega) (min n (gs_l S d)) 0 (gs_c S d) (by omega) c2 rfl) rfl rfl rfl
  · refine gd_r E K 1 (pc' := if (nI (gs_i S d)) ≤ 0 then 20 else 9) (lv' := [(0, .ref 27), (1, .int (nI d)), (2, .int (nI n))]) (st' := []) (w' := w) rfl ?_
    refine gd_if (fun q => absurd ((gd_le0 (by omega)).mp q) h0) ?_
    refine gd_r E K 3 (pc' := 12) (lv' := [(0, .ref 27), (1, .int (nI d)), (2, .int (nI n))]) (st' := [.int (nI d), .ref 27, .int (nI n)]) (w' := w) rfl ?_
    refine gd_cV E hA (av := [.int (nI d)]) (rest := [.int (nI n)]) (c2_left hinj w hR d hd) (K.1 12 (.invokevirtual 75, 0) rfl).1 ml_M_75 cv_M_left (by decide) (rfl) ⟨Nat.le_of_ble_eq_true rfl, Nat.le_of_ble_eq_true rfl⟩ ⟨Nat.zero_le _, Nat.zero_le _⟩ rfl (Nat.le_of_ble_eq_true rfl) ?_
    by_cases h1 : n < gs_l S d
    · refine gd_r E K 1 (pc' := if (nI n) < (nI (gs_l S d)) then 20 else 18) (lv' := [(0, .ref 27), (1, .int (nI d)), (2, .int (nI n))]) (st' := []) (w' := w) rfl ?_
      refine gd_it (nI_lt h1 (by omega)) ?_
      refine gd_r E K 3 (pc' := 25) (lv' := [(0, .ref 27), (1, .int (nI d)), (2, .int (nI n))]) (st' := [.int (nI d), .ref 30]) (w' := w) rfl ?_
      refine gd_ialdv E (K.1 25 (.iaload, 0) rfl).1 (j := d) (by decide) (rfl) (rfl) (by omega) (by decide) (v := nI (gs_c S d)) (c1) ?_
      refine gd_r E K 3 (pc' := 30) (lv' := [(0, .ref 27), (1, .int (nI d)), (2, .int (nI n)), (3, .int (nI (gs_c S d))), (4, .int 0)]) (st' := []) (w' := w) rfl ?_
      exact gd_cg (loop (by omega) (min n (gs_l S d)) 0 (gs_c S d) (by omega) c2 rfl) rfl rfl rfl
    · refine gd_r E K 1 (pc' := if (nI n) < (nI (gs_l S d)) then 20 else 18) (lv' := [(0, .ref 27), (1, .int (nI d)), (2, .int (nI n))]) (st' := []) (w' := w) rfl ?_
      refine gd_if (nI_nlt (by omega) (by omega)) ?_
      refine gd_r E K 1 (pc' := 19) (lv' := [(0, .ref 27), (1, .int (nI d)), (2, .int (nI n))]) (st' := [.int (-1)]) (w' := w) rfl ?_
      exact gd_iretq E hr hlk (K.1 19 (.ireturn, 0) rfl).1 (by rw [gs_pos, if_pos ⟨by omega, by omega⟩]; rfl) (rfl)
