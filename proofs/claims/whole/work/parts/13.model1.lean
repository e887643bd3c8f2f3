def gs_b (b : Bool) : Int32 := if b then 1 else 0
theorem gs_b_01 (b : Bool) : gs_b b = 0 ∨ gs_b b = 1 := by cases b; exact Or.inl rfl; exact Or.inr rfl
theorem gs_b_0 (b : Bool) : gs_b b = 0 ↔ b = false := by cases b <;> decide
theorem gd_le0 {n : Nat} (hn : n < 2 ^ 31) : nI n ≤ 0 ↔ n = 0 := by
  constructor
  · intro h
    cases n with
    | zero => rfl
    | succ k => exact absurd h (nI_nle (Nat.succ_pos k) hn)
  · rintro rfl
    decide
def gs_cnt (U : Nat → Nat) : Nat → Nat
  | 0 => 0
  | n + 1 => if 0 < U n then gs_cnt U n + 1 else gs_cnt U n
theorem gs_cnt_le (U : Nat → Nat) : ∀ n, gs_cnt U n ≤ n
  | 0 => Nat.le_refl _
  | n + 1 => by
    have := gs_cnt_le U n
    rw [gs_cnt]
    split <;> omega
/-- the comer of d among the first n: the last k with units whose into is d + 1 -/
def gs_com (U I : Nat → Nat) (d : Nat) : Nat → Option Nat
  | 0 => none
  | n + 1 => if 0 < U n ∧ I n = d + 1 then some n else gs_com U I d n
def gs_any (f : Nat → Bool) : Nat → Bool
  | 0 => false
  | n + 1 => gs_any f n || f n
/-- the droplets' number and units, as the reference has them -/
def gs_UU (w : gd_W) (N : Nat) (U : Nat → Nat) : Prop := w.1 27 3 = nI N ∧ N ≤ 60 ∧ ∀ d, d < N → w.1 29 d = nI (U d) ∧ U d ≤ 2
set_option maxRecDepth 100000 in
theorem c2_count {l : Launch} {D : va_G} {tC : FieldType → ClassId} {ad : Nat → Nat} (hinj : ∀ i j, ad i = ad j → i = j) {N : Nat} {U : Nat → Nat} (w : gd_W) (hU : gs_UU w N U) : gd_Ct l D tC ad 45 0 0 y_M_count c_M_count 3 (some .int) [.ref 27] w (some (.int (nI (gs_cnt U N)))) w := by
  refine gd_Ct_of rfl hinj (Nat.le_of_ble_eq_true rfl) ?_
  intro p e s m args below meth c E hr hlk
  have K := k_M_count
  have hA : ∀ q, gd_A ad 45 s.heap.size q → gd_A ad 45 s.heap.size q := fun _ h => h
  obtain ⟨hm, hN, hu⟩ := hU
  have loop : ∀ j d, d + j = N → gd_G p l e (gd_rm 0 0) s m args below meth c D tC ad (gd_A ad 45 s.heap.size) 45 3 0 0 (MQ below (gd_Q D tC ad 45 s.heap.size (some (.int (nI (gs_cnt U N)))) w) args s 0 0 (gd_A ad 45 s.heap.size)) 4 [(0, .ref 27), (1, .int (nI (gs_cnt U d))), (2, .int (nI d))] [] w := by
    intro j
    induction j with
    | zero =>
      intro d hd
      refine gd_r E K 3 (pc' := 9) (lv' := [(0, .ref 27), (1, .int (nI (gs_cnt U d))), (2, .int (nI d))]) (st' := [.int (w.1 27 3), .int (nI d)]) (w' := w) rfl ?_
      refine gd_cg (lv' := [(0, .ref 27), (1, .int (nI (gs_cnt U d))), (2, .int (nI d))]) (st' := [.int (nI N), .int (nI d)]) (w' := w) ?_ (rfl) (by simp only [hm]) rfl
      refine gd_r E K 1 (pc' := if (nI N) ≤ (nI d) then 35 else 12) (lv' := [(0, .ref 27), (1, .int (nI (gs_cnt U d))), (2, .int (nI d))]) (st' := []) (w' := w) rfl ?_
      refine gd_it (nI_le (by omega) (by omega)) ?_
      refine gd_r E K 1 (pc' := 36) (lv' := [(0, .ref 27), (1, .int (nI (gs_cnt U d))), (2, .int (nI d))]) (st' := [.int (nI (gs_cnt U d))]) (w' := w) rfl ?_
      exact gd_iretq E hr hlk (K.1 36 (.ireturn, 0) rfl).1 (by rw [show d = N by omega]) (rfl)
    | succ j ih =>
      intro d hd
      refine gd_r E K 3 (pc' := 9) (lv' := [(0, .ref 27), (1, .int (nI (gs_cnt U d))), (2, .int (nI d))]) (st' := [.int (w.1 27 3), .int (nI d)]) (w' := w) rfl ?_
      refine gd_cg (lv' := [(0, .ref 27), (1, .int (nI (gs_cnt U d))), (2, .int (nI d))]) (st' := [.int (nI N), .int (nI d)]) (w' := w) ?_ (rfl) (by simp only [hm]) rfl
      refine gd_r E K 1 (pc' := if (nI N) ≤ (nI d) then 35 else 12) (lv' := [(0, .ref 27), (1, .int (nI (gs_cnt U d))), (2, .int (nI d))]) (st' := []) (w' := w) rfl ?_
      refine gd_if (nI_ge (by omega) (by omega)) ?_
      refine gd_r E K 3 (pc' := 17) (lv' := [(0, .ref 27), (1, .int (nI (gs_cnt U d))), (2, .int (nI d))]) (st' := [.int (nI d), .ref 29]) (w' := w) rfl ?_
      refine gd_ialdv E (K.1 17 (.iaload, 0) rfl).1 (j := d) (by decide) (rfl) (rfl) (by omega) (by decide) (v := nI (U d)) ((hu d (by omega)).1) ?_
      have hu2 := (hu d (by omega)).2
      rcases Nat.eq_zero_or_pos (U d) with h0 | h0
      · refine gd_r E K 1 (pc' := if (nI (U d)) ≤ 0 then 27 else 21) (lv' := [(0, .ref 27), (1, .int (nI (gs_cnt U d))), (2, .int (nI d))]) (st' := []) (w' := w) rfl ?_
        refine gd_it ((gd_le0 (by omega)).mpr h0) ?_
        refine gd_r E K 4 (pc' := 4) (lv' := [(0, .ref 27), (1, .int (nI (gs_cnt U d))), (2, .int ((nI d) + 1))]) (st' := []) (w' := w) rfl ?_
        exact gd_cg (ih (d + 1) (by omega)) (by simp only [gs_cnt, if_neg (show ¬ 0 < U d by omega), nI_1]) rfl rfl
      · refine gd_r E K 1 (pc' := if (nI (U d)) ≤ 0 then 27 else 21) (lv' := [(0, .ref 27), (1, .int (nI (gs_cnt U d))), (2, .int (nI d))]) (st' := []) (w' := w) rfl ?_
        refine gd_if (fun q => absurd ((gd_le0 (by omega)).mp q) (by omega)) ?_
        refine gd_r E K 7 (pc' := 4) (lv' := [(0, .ref 27), (1, .int ((nI (gs_cnt U d)) + 1)), (2, .int ((nI d) + 1))]) (st' := []) (w' := w) rfl ?_
        exact gd_cg (ih (d + 1) (by omega)) (by simp only [gs_cnt, if_pos h0, nI_1]) rfl rfl
  refine gd_r E K 4 (pc' := 4) (lv' := [(0, .ref 27), (1, .int 0), (2, .int 0)]) (st' := []) (w' := w) rfl ?_
  exact gd_cg (loop N 0 (by omega)) rfl rfl rfl
set_option maxRecDepth 100000 in
theorem c2_isDrop {l : Launch} {D : va_G} {tC : FieldType → ClassId} {ad : Nat → Nat} (hinj : ∀ i j, ad i = ad j → i = j) {N : Nat} {U : Nat → Nat} (w : gd_W) (hU : gs_UU w N U) (d : Int32) : gd_Ct l D tC ad 45 0 0 y_M_isDrop c_M_isDrop 2 (some .boolean) [.ref 27, .int d] w (some (.int (gs_b (decide (0 ≤ d ∧ d < nI N ∧ 0 < U d.toNatClampNeg))))) w := by
  refine gd_Ct_of rfl hinj (Nat.le_of_ble_eq_true rfl) ?_
  intro p e s m args below meth c E hr hlk
  have K := k_M_isDrop
  have hA : ∀ q, gd_A ad 45 s.heap.size q → gd_A ad 45 s.heap.size q := fun _ h => h
  obtain ⟨hm, hN, hu⟩ := hU
  refine gd_r E K 1 (pc' := 1) (lv' := [(0, .ref 27), (1, .int d)]) (st' := [.int d]) (w' := w) rfl ?_
  refine gd_r E K 1 (pc' := if d < 0 then 25 else 4) (lv' := [(0, .ref 27), (1, .int d)]) (st' := []) (w' := w) rfl ?_
  refine gd_ite (fun h1 => ?_) (fun h1 => ?_)
  · refine gd_r E K 1 (pc' := 26) (lv' := [(0, .ref 27), (1, .int d)]) (st' := [.int 0]) (w' := w) rfl ?_
    exact gd_zretq E hr hlk (K.1 26 (.ireturn, 0) rfl).1 (by decide) (by rw [decide_eq_false (fun h => absurd h1 (Int32.not_lt.mpr h.1))]; rfl) (rfl)
  · refine gd_r E K 3 (pc' := 9) (lv' := [(0, .ref 27), (1, .int d)]) (st' := [.int (w.1 27 3), .int d]) (w' := w) rfl ?_
    refine gd_cg (lv' := [(0, .ref 27), (1, .int d)]) (st' := [.int (nI N), .int d]) (w' := w) ?_ (rfl) (by simp only [hm]) rfl
    refine gd_r E K 1 (pc' := if (nI N) ≤ d then 25 else 12) (lv' := [(0, .ref 27), (1, .int d)]) (st' := []) (w' := w) rfl ?_
    refine gd_ite (fun h2 => ?_) (fun h2 => ?_)
    · refine gd_r E K 1 (pc' := 26) (lv' := [(0, .ref 27), (1, .int d)]) (st' := [.int 0]) (w' := w) rfl ?_
      exact gd_zretq E hr hlk (K.1 26 (.ireturn, 0) rfl).1 (by decide) (by rw [decide_eq_false (fun h => absurd h.2.1 (Int32.not_lt.mpr h2))]; rfl) (rfl)
    · obtain ⟨k, hk, rfl⟩ := nI_of h1
      have hkN : k < N := by rw [nI_leI (by omega) hk] at h2; omega
      rw [nI_clamp hk]
      have hu2 := (hu k hkN).2
      refine gd_r E K 3 (pc' := 17) (lv' := [(0, .ref 27), (1, .int (nI k))]) (st' := [.int (nI k), .ref 29]) (w' := w) rfl ?_
      refine gd_ialdv E (K.1 17 (.iaload, 0) rfl).1 (j := k) (by decide) (rfl) (rfl) (by omega) (by decide) (v := nI (U k)) ((hu k hkN).1) ?_
      rcases Nat.eq_zero_or_pos (U k) with h0 | h0
      · refine gd_r E K 1 (pc' := if (nI (U k)) ≤ 0 then 25 else 21) (lv' := [(0, .ref 27), (1, .int (nI k))]) (st' := []) (w' := w) rfl ?_
        refine gd_it ((gd_le0 (by omega)).mpr h0) ?_
        refine gd_r E K 1 (pc' := 26) (lv' := [(0, .ref 27), (1, .int (nI k))]) (st' := [.int 0]) (w' := w) rfl ?_
        exact gd_zretq E hr hlk (K.1 26 (.ireturn, 0) rfl).1 (by decide) (by rw [decide_eq_false (fun h => absurd h.2.2 (by omega))]; rfl) (rfl)
      · refine gd_r E K 1 (pc' := if (nI (U k)) ≤ 0 then 25 else 21) (lv' := [(0, .ref 27), (1, .int (nI k))]) (st' := []) (w' := w) rfl ?_
        refine gd_if (fun q => absurd ((gd_le0 (by omega)).mp q) (by omega)) ?_
        refine gd_r E K 2 (pc' := 26) (lv' := [(0, .ref 27), (1, .int (nI k))]) (st' := [.int 1]) (w' := w) rfl ?_
        exact gd_zretq E hr hlk (K.1 26 (.ireturn, 0) rfl).1 (by decide) (by rw [decide_eq_true ⟨nI_pos' (by omega), nI_lt hkN (by omega), h0⟩]; rfl) (rfl)
