def gs_it (S : gs_T) : Nat → gs_T
  | 0 => S
  | n + 1 => gs_step (gs_it S n)
def gs_its (S : gs_T) : Nat → Nat
  | 0 => 0
  | n + 1 => gs_its S n + gs_stepn (gs_it S n)
def gs_run (S : gs_T) (n : Int32) : Nat × Nat × gs_T := if n < 0 ∨ 100 < n then (1, 0, S) else (0, gs_its S n.toNatClampNeg, gs_it S n.toNatClampNeg)
def gs_okS (S : gs_T) : Prop := (∀ k, gs_alive S k → gv_way S k) ∧ gs_ok2 (gs_s1 S)
set_option maxRecDepth 100000 in
theorem c2_Mrun {l : Launch} {D : va_G} {tC : FieldType → ClassId} {ad : Nat → Nat} (hinj : ∀ i j, ad i = ad j → i = j) {S : gs_T} {G : Nat → Nat} (w : gd_W) (hR : gr_M w S G) (hg : ∀ k, k < 100 → gs_okS (gs_it S k)) (n : Int32) : gd_Cp l D tC ad 45 3 67 y_M_run c_M_run 4 (some .int) [.ref 27, .int n] w (gs_mp (gs_run S n).2.2 (gs_run S n).1 (.int (nI (gs_run S n).2.1)) w) := by
  refine gd_Cp_of rfl hinj (Nat.le_of_ble_eq_true rfl) ?_
  intro p e s m args below meth c E hr hlk
  have K := k_M_run
  have hA : ∀ q, gd_A ad 45 s.heap.size q → gd_A ad 45 s.heap.size q := fun _ h => h
  refine gd_r E K 2 (pc' := 2) (lv' := [(0, .ref 27), (1, .int n)]) (st' := [.int n, .ref 27]) (w' := w) rfl ?_
  refine gd_r E K 1 (pc' := if n < 0 then 15 else 5) (lv' := [(0, .ref 27), (1, .int n)]) (st' := [.ref 27]) (w' := w) rfl ?_
  refine gd_ite (fun h1 => ?_) (fun h1 => ?_)
  · refine gd_r E K 6 (pc' := 27) (lv' := [(0, .ref 27), (1, .int n)]) (st' := [.int 0]) (w' := gd_rI w 27 (upd (w.1 27) 0 1)) rfl ?_
    exact gd_iretp E hr hlk (K.1 27 (.ireturn, 0) rfl).1 (by rw [gs_run, if_pos (Or.inl h1)]; exact gs_mp_code hR 1 rfl rfl)
  · refine gd_r E K 2 (pc' := 8) (lv' := [(0, .ref 27), (1, .int n)]) (st' := [.int 100, .int n, .ref 27]) (w' := w) rfl ?_
    refine gd_r E K 1 (pc' := if 100 < n then 15 else 11) (lv' := [(0, .ref 27), (1, .int n)]) (st' := [.ref 27]) (w' := w) rfl ?_
    refine gd_ite (fun h2 => ?_) (fun h2 => ?_)
    · refine gd_r E K 6 (pc' := 27) (lv' := [(0, .ref 27), (1, .int n)]) (st' := [.int 0]) (w' := gd_rI w 27 (upd (w.1 27) 0 1)) rfl ?_
      exact gd_iretp E hr hlk (K.1 27 (.ireturn, 0) rfl).1 (by rw [gs_run, if_pos (Or.inr h2)]; exact gs_mp_code hR 1 rfl rfl)
    · have hno : ¬ (n < 0 ∨ 100 < n) := fun z => z.elim h1 h2
      obtain ⟨k, hk, rfl⟩ := nI_of h1
      have hk1 : k ≤ 100 := by rw [show (100 : Int32) = nI 100 from rfl, nI_ltI (by decide) hk] at h2; omega
      rw [gs_run, if_neg hno, nI_clamp hk]
      have loop : ∀ j i w1 G1, i + j = k → gr_M w1 (gs_it S i) G1 → gf_m w w1 → w1.1 27 0 = 0 → gd_G p l e (gd_rm 3 67) s m args below meth c D tC ad (gd_A ad 45 s.heap.size) 45 4 0 0 (MQ below (gd_Qp D tC ad 45 s.heap.size (gs_mp (gs_it S k) 0 (.int (nI (gs_its S k))) w)) args s 0 0 (gd_A ad 45 s.heap.size)) 32 [(0, .ref 27), (1, .int (nI k)), (2, .int (nI (gs_its S i))), (3, .int (nI i))] [] w1 := by
        intro j
        induction j with
        | zero =>
          intro i w1 G1 hi hR1 hf1 hc1
          refine gd_r E K 2 (pc' := 34) (lv' := [(0, .ref 27), (1, .int (nI k)), (2, .int (nI (gs_its S i))), (3, .int (nI i))]) (st' := [.int (nI k), .int (nI i)]) (w' := w1) rfl ?_
          refine gd_r E K 1 (pc' := if (nI k) ≤ (nI i) then 50 else 37) (lv' := [(0, .ref 27), (1, .int (nI k)), (2, .int (nI (gs_its S i))), (3, .int (nI i))]) (st' := []) (w' := w1) rfl ?_
          refine gd_it (nI_le (by omega) (by omega)) ?_
          refine gd_r E K 1 (pc' := 51) (lv' := [(0, .ref 27), (1, .int (nI k)), (2, .int (nI (gs_its S i))), (3, .int (nI i))]) (st' := [.int (nI (gs_its S i))]) (w' := w1) rfl ?_
          have hik : i = k := by omega
          subst hik
          exact gd_iretp E hr hlk (K.1 51 (.ireturn, 0) rfl).1 (⟨rfl, hc1, ⟨G1, hR1⟩, hf1⟩)
        | succ j ih =>
          intro i w1 G1 hi hR1 hf1 hc1
          refine gd_r E K 2 (pc' := 34) (lv' := [(0, .ref 27), (1, .int (nI k)), (2, .int (nI (gs_its S i))), (3, .int (nI i))]) (st' := [.int (nI k), .int (nI i)]) (w' := w1) rfl ?_
          refine gd_r E K 1 (pc' := if (nI k) ≤ (nI i) then 50 else 37) (lv' := [(0, .ref 27), (1, .int (nI k)), (2, .int (nI (gs_its S i))), (3, .int (nI i))]) (st' := []) (w' := w1) rfl ?_
          refine gd_if (nI_ge (by omega) (by omega)) ?_
          refine gd_r E K 2 (pc' := 39) (lv' := [(0, .ref 27), (1, .int (nI k)), (2, .int (nI (gs_its S i))), (3, .int (nI i))]) (st' := [.ref 27, .int (nI (gs_its S i))]) (w' := w1) rfl ?_
          refine gd_cVp E hA (av := []) (rest := [.int (nI (gs_its S i))]) (c2_Mstep hinj w1 hR1 (hg i (by omega)).1 (hg i (by omega)).2) (K.1 39 (.invokevirtual 153, 0) rfl).1 ml_M_153 cv_M_step (by decide) (rfl) ⟨Nat.le_of_ble_eq_true rfl, Nat.le_of_ble_eq_true rfl⟩ ⟨Nat.zero_le _, Nat.zero_le _⟩ rfl (Nat.le_of_ble_eq_true rfl) (fun r9 w2 h9 => ?_)
          obtain ⟨rfl, ⟨G2, hR2⟩, hf2, hc2⟩ := h9
          refine gd_r E K 4 (pc' := 32) (lv' := [(0, .ref 27), (1, .int (nI k)), (2, .int ((nI (gs_its S i)) + (nI (gs_stepn (gs_it S i))))), (3, .int ((nI i) + 1))]) (st' := []) (w' := w2) rfl ?_
          exact gd_cg (ih (i + 1) w2 G2 (by omega) hR2 (hf1.trans hf2) (hc2.trans hc1)) (by rw [nI_1, nI_add]; rfl) rfl rfl
      refine gd_r E K 10 (pc' := 32) (lv' := [(0, .ref 27), (1, .int (nI k)), (2, .int 0), (3, .int 0)]) (st' := []) (w' := gd_rI w 27 (upd (w.1 27) 0 0)) rfl ?_
      exact gd_cg (loop k 0 _ G (by omega) (hR.code 0) (gf_m.I w (by decide) _) rfl) rfl rfl rfl
