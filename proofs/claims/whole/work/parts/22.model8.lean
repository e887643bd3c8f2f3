def gs_sum (U : Nat → Nat) : Nat → Nat
  | 0 => 0
  | n + 1 => gs_sum U n + U n
def gs_unitv (S : gs_T) (what : Int32) : Int32 := if what = 0 then nI (gs_out S) else if what = 1 then nI (gs_thr S) else nI (gs_sum (gs_u S) (gs_made S))
set_option maxRecDepth 100000 in
theorem c2_Munits {l : Launch} {D : va_G} {tC : FieldType → ClassId} {ad : Nat → Nat} (hinj : ∀ i j, ad i = ad j → i = j) {S : gs_T} {G : Nat → Nat} (w : gd_W) (hR : gr_M w S G) (what : Int32) : gd_Cp l D tC ad 45 0 0 y_M_units c_M_units 4 (some .int) [.ref 27, .int what] w (gs_mp S 0 (.int (gs_unitv S what)) w) := by
  refine gd_Cp_of rfl hinj (Nat.le_of_ble_eq_true rfl) ?_
  intro p e s m args below meth c E hr hlk
  have K := k_M_units
  have hA : ∀ q, gd_A ad 45 s.heap.size q → gd_A ad 45 s.heap.size q := fun _ h => h
  have hN := hR.1.2
  have hm := hR.1.1
  have loop : ∀ j k, k + j = gs_made S → gd_G p l e (gd_rm 0 0) s m args below meth c D tC ad (gd_A ad 45 s.heap.size) 45 4 0 0 (MQ below (gd_Qp D tC ad 45 s.heap.size (gs_mp S 0 (.int (gs_unitv S what)) w)) args s 0 0 (gd_A ad 45 s.heap.size)) 9 [(0, .ref 27), (1, .int what), (2, .int (nI (gs_sum (gs_u S) k))), (3, .int (nI k))] [] (gd_rI w 27 (upd (w.1 27) 0 0)) := by
    intro j
    induction j with
    | zero =>
      intro k hk
      refine gd_r E K 3 (pc' := 14) (lv' := [(0, .ref 27), (1, .int what), (2, .int (nI (gs_sum (gs_u S) k))), (3, .int (nI k))]) (st' := [.int (w.1 27 3), .int (nI k)]) (w' := gd_rI w 27 (upd (w.1 27) 0 0)) rfl ?_
      refine gd_cg (lv' := [(0, .ref 27), (1, .int what), (2, .int (nI (gs_sum (gs_u S) k))), (3, .int (nI k))]) (st' := [.int (nI (gs_made S)), .int (nI k)]) (w' := gd_rI w 27 (upd (w.1 27) 0 0)) ?_ (rfl) (by simp only [hm]) rfl
      refine gd_r E K 1 (pc' := if (nI (gs_made S)) ≤ (nI k) then 32 else 17) (lv' := [(0, .ref 27), (1, .int what), (2, .int (nI (gs_sum (gs_u S) k))), (3, .int (nI k))]) (st' := []) (w' := gd_rI w 27 (upd (w.1 27) 0 0)) rfl ?_
      refine gd_it (nI_le (by omega) (by omega)) ?_
      refine gd_r E K 1 (pc' := 33) (lv' := [(0, .ref 27), (1, .int what), (2, .int (nI (gs_sum (gs_u S) k))), (3, .int (nI k))]) (st' := [.int what]) (w' := gd_rI w 27 (upd (w.1 27) 0 0)) rfl ?_
      refine gd_r E K 1 (pc' := if what = 0 then 36 else 43) (lv' := [(0, .ref 27), (1, .int what), (2, .int (nI (gs_sum (gs_u S) k))), (3, .int (nI k))]) (st' := []) (w' := gd_rI w 27 (upd (w.1 27) 0 0)) rfl ?_
      refine gd_ite (fun h1 => ?_) (fun h1 => ?_)
      · refine gd_r E K 3 (pc' := 56) (lv' := [(0, .ref 27), (1, .int what), (2, .int (nI (gs_sum (gs_u S) k))), (3, .int (nI k))]) (st' := [.int (w.1 27 12)]) (w' := gd_rI w 27 (upd (w.1 27) 0 0)) rfl ?_
        exact gd_iretp E hr hlk (K.1 56 (.ireturn, 0) rfl).1 (gs_mp_code hR 0 rfl (by rw [gs_unitv, if_pos h1, hR.2.2.2.2.2.2.2.2.2.2.1.1]))
      · refine gd_r E K 2 (pc' := 45) (lv' := [(0, .ref 27), (1, .int what), (2, .int (nI (gs_sum (gs_u S) k))), (3, .int (nI k))]) (st' := [.int 1, .int what]) (w' := gd_rI w 27 (upd (w.1 27) 0 0)) rfl ?_
        refine gd_r E K 1 (pc' := if what = 1 then 48 else 55) (lv' := [(0, .ref 27), (1, .int what), (2, .int (nI (gs_sum (gs_u S) k))), (3, .int (nI k))]) (st' := []) (w' := gd_rI w 27 (upd (w.1 27) 0 0)) rfl ?_
        refine gd_ite (fun h2 => ?_) (fun h2 => ?_)
        · refine gd_r E K 3 (pc' := 56) (lv' := [(0, .ref 27), (1, .int what), (2, .int (nI (gs_sum (gs_u S) k))), (3, .int (nI k))]) (st' := [.int (w.1 27 13)]) (w' := gd_rI w 27 (upd (w.1 27) 0 0)) rfl ?_
          exact gd_iretp E hr hlk (K.1 56 (.ireturn, 0) rfl).1 (gs_mp_code hR 0 rfl (by rw [gs_unitv, if_neg h1, if_pos h2, hR.2.2.2.2.2.2.2.2.2.2.2.1.1]))
        · refine gd_r E K 1 (pc' := 56) (lv' := [(0, .ref 27), (1, .int what), (2, .int (nI (gs_sum (gs_u S) k))), (3, .int (nI k))]) (st' := [.int (nI (gs_sum (gs_u S) k))]) (w' := gd_rI w 27 (upd (w.1 27) 0 0)) rfl ?_
          exact gd_iretp E hr hlk (K.1 56 (.ireturn, 0) rfl).1 (gs_mp_code hR 0 rfl (by rw [gs_unitv, if_neg h1, if_neg h2, show k = gs_made S by omega]))
    | succ j ih =>
      intro k hk
      refine gd_r E K 3 (pc' := 14) (lv' := [(0, .ref 27), (1, .int what), (2, .int (nI (gs_sum (gs_u S) k))), (3, .int (nI k))]) (st' := [.int (w.1 27 3), .int (nI k)]) (w' := gd_rI w 27 (upd (w.1 27) 0 0)) rfl ?_
      refine gd_cg (lv' := [(0, .ref 27), (1, .int what), (2, .int (nI (gs_sum (gs_u S) k))), (3, .int (nI k))]) (st' := [.int (nI (gs_made S)), .int (nI k)]) (w' := gd_rI w 27 (upd (w.1 27) 0 0)) ?_ (rfl) (by simp only [hm]) rfl
      refine gd_r E K 1 (pc' := if (nI (gs_made S)) ≤ (nI k) then 32 else 17) (lv' := [(0, .ref 27), (1, .int what), (2, .int (nI (gs_sum (gs_u S) k))), (3, .int (nI k))]) (st' := []) (w' := gd_rI w 27 (upd (w.1 27) 0 0)) rfl ?_
      refine gd_if (nI_ge (by omega) (by omega)) ?_
      refine gd_r E K 4 (pc' := 23) (lv' := [(0, .ref 27), (1, .int what), (2, .int (nI (gs_sum (gs_u S) k))), (3, .int (nI k))]) (st' := [.int (nI k), .ref 29, .int (nI (gs_sum (gs_u S) k))]) (w' := gd_rI w 27 (upd (w.1 27) 0 0)) rfl ?_
      refine gd_ialdv E (K.1 23 (.iaload, 0) rfl).1 (j := k) (by decide) (rfl) (rfl) (by omega) (by decide) (v := nI (gs_u S k)) (((hR.code 0).2.1 k (by omega)).1) ?_
      refine gd_r E K 4 (pc' := 9) (lv' := [(0, .ref 27), (1, .int what), (2, .int ((nI (gs_sum (gs_u S) k)) + (nI (gs_u S k)))), (3, .int ((nI k) + 1))]) (st' := []) (w' := gd_rI w 27 (upd (w.1 27) 0 0)) rfl ?_
      exact gd_cg (ih (k + 1) (by omega)) (by rw [gs_sum, nI_1, nI_add]) rfl rfl
  refine gd_r E K 7 (pc' := 9) (lv' := [(0, .ref 27), (1, .int what), (2, .int 0), (3, .int 0)]) (st' := []) (w' := gd_rI w 27 (upd (w.1 27) 0 0)) rfl ?_
  exact gd_cg (loop (gs_made S) 0 (by omega)) rfl rfl rfl
def gs_cellv (S : gs_T) (x y kind : Int32) : Bool := decide (gm_has x y ≠ 0 ∧ ¬ kind < 0 ∧ ¬ 7 < kind ∧ gs_cnt (gs_u S) (gs_made S) = 0)
def gs_cellS (S : gs_T) (x y kind : Int32) : gs_T := if gs_cellv S x y kind then gs_kset S (8 * y + x).toNatClampNeg kind.toNatClampNeg else S
set_option maxRecDepth 100000 in
theorem c2_Mcell {l : Launch} {D : va_G} {tC : FieldType → ClassId} {ad : Nat → Nat} (hinj : ∀ i j, ad i = ad j → i = j) {S : gs_T} {G : Nat → Nat} (w : gd_W) (hR : gr_M w S G) (x y kind : Int32) : gd_Cp l D tC ad 45 1 22 y_M_cell c_M_cell 4 (some .boolean) [.ref 27, .int x, .int y, .int kind] w (gs_mp (gs_cellS S x y kind) 0 (.int (gs_b (gs_cellv S x y kind))) w) := by
  refine gd_Cp_of rfl hinj (Nat.le_of_ble_eq_true rfl) ?_
  intro p e s m args below meth c E hr hlk
  have K := k_M_cell
  have hA : ∀ q, gd_A ad 45 s.heap.size q → gd_A ad 45 s.heap.size q := fun _ h => h
  have hN := hR.1.2
  have hcl := gs_cnt_le (gs_u S) (gs_made S)
  refine gd_r E K 5 (pc' := 7) (lv' := [(0, .ref 27), (1, .int x), (2, .int y), (3, .int kind)]) (st' := [.int y, .int x]) (w' := gd_rI w 27 (upd (w.1 27) 0 0)) rfl ?_
  refine gd_cS E hA (av := [.int x, .int y]) (rest := []) (c2_isCell hinj x y _) (K.1 7 (.invokestatic 64, 0) rfl).1 ml_M_64 cv_M_isCell ⟨Nat.le_of_ble_eq_true rfl, Nat.le_of_ble_eq_true rfl⟩ ⟨Nat.zero_le _, Nat.zero_le _⟩ rfl (Nat.le_of_ble_eq_true rfl) ?_
  refine gd_r E K 1 (pc' := if (gm_has x y) = 0 then 30 else 13) (lv' := [(0, .ref 27), (1, .int x), (2, .int y), (3, .int kind)]) (st' := []) (w' := gd_rI w 27 (upd (w.1 27) 0 0)) rfl ?_
  refine gd_ite (fun h1 => ?_) (fun h1 => ?_)
  · refine gd_r E K 1 (pc' := 31) (lv' := [(0, .ref 27), (1, .int x), (2, .int y), (3, .int kind)]) (st' := [.int 0]) (w' := gd_rI w 27 (upd (w.1 27) 0 0)) rfl ?_
    have hcv : gs_cellv S x y kind = false := decide_eq_false (fun z => z.1 h1)
    exact gd_zretp E hr hlk (K.1 31 (.ireturn, 0) rfl).1 (by decide) (by rw [gs_cellS, hcv]; exact gs_mp_code hR 0 rfl rfl)
  · refine gd_r E K 1 (pc' := 14) (lv' := [(0, .ref 27), (1, .int x), (2, .int y), (3, .int kind)]) (st' := [.int kind]) (w' := gd_rI w 27 (upd (w.1 27) 0 0)) rfl ?_
    refine gd_r E K 1 (pc' := if kind < 0 then 30 else 17) (lv' := [(0, .ref 27), (1, .int x), (2, .int y), (3, .int kind)]) (st' := []) (w' := gd_rI w 27 (upd (w.1 27) 0 0)) rfl ?_
    refine gd_ite (fun h2 => ?_) (fun h2 => ?_)
    · refine gd_r E K 1 (pc' := 31) (lv' := [(0, .ref 27), (1, .int x), (2, .int y), (3, .int kind)]) (st' := [.int 0]) (w' := gd_rI w 27 (upd (w.1 27) 0 0)) rfl ?_
      have hcv : gs_cellv S x y kind = false := decide_eq_false (fun z => z.2.1 h2)
      exact gd_zretp E hr hlk (K.1 31 (.ireturn, 0) rfl).1 (by decide) (by rw [gs_cellS, hcv]; exact gs_mp_code hR 0 rfl rfl)
    · refine gd_r E K 2 (pc' := 20) (lv' := [(0, .ref 27), (1, .int x), (2, .int y), (3, .int kind)]) (st' := [.int 7, .int kind]) (w' := gd_rI w 27 (upd (w.1 27) 0 0)) rfl ?_
      refine gd_r E K 1 (pc' := if 7 < kind then 30 else 23) (lv' := [(0, .ref 27), (1, .int x), (2, .int y), (3, .int kind)]) (st' := []) (w' := gd_rI w 27 (upd (w.1 27) 0 0)) rfl ?_
      refine gd_ite (fun h3 => ?_) (fun h3 => ?_)
      · refine gd_r E K 1 (pc' := 31) (lv' := [(0, .ref 27), (1, .int x), (2, .int y), (3, .int kind)]) (st' := [.int 0]) (w' := gd_rI w 27 (upd (w.1 27) 0 0)) rfl ?_
        have hcv : gs_cellv S x y kind = false := decide_eq_false (fun z => z.2.2.1 h3)
        exact gd_zretp E hr hlk (K.1 31 (.ireturn, 0) rfl).1 (by decide) (by rw [gs_cellS, hcv]; exact gs_mp_code hR 0 rfl rfl)
      · refine gd_r E K 1 (pc' := 24) (lv' := [(0, .ref 27), (1, .int x), (2, .int y), (3, .int kind)]) (st' := [.ref 27]) (w' := gd_rI w 27 (upd (w.1 27) 0 0)) rfl ?_
        refine gd_cV E hA (av := []) (rest := []) (c2_count hinj _ (hR.code 0).U) (K.1 24 (.invokevirtual 71, 0) rfl).1 ml_M_71 cv_M_count (by decide) (rfl) ⟨Nat.le_of_ble_eq_true rfl, Nat.le_of_ble_eq_true rfl⟩ ⟨Nat.zero_le _, Nat.zero_le _⟩ rfl (Nat.le_of_ble_eq_true rfl) ?_
        by_cases h4 : gs_cnt (gs_u S) (gs_made S) = 0
        · refine gd_r E K 1 (pc' := if (nI (gs_cnt (gs_u S) (gs_made S))) ≤ 0 then 32 else 30) (lv' := [(0, .ref 27), (1, .int x), (2, .int y), (3, .int kind)]) (st' := []) (w' := gd_rI w 27 (upd (w.1 27) 0 0)) rfl ?_
          refine gd_it ((gd_le0 (by omega)).mpr h4) ?_
          have hcv : gs_cellv S x y kind = true := decide_eq_true ⟨h1, h2, h3, h4⟩
          obtain ⟨a, b, ha, hb, rfl, rfl⟩ := gm_has_1 h1
          obtain ⟨k, hk, rfl⟩ := nI_of h2
          have hk8 : k < 8 := by rw [show (7 : Int32) = nI 7 from rfl, nI_ltI (by decide) hk] at h3; omega
          refine gd_r E K 8 (pc' := 43) (lv' := [(0, .ref 27), (1, .int (nI a)), (2, .int (nI b)), (3, .int (nI k))]) (st' := [.int (nI k), .int ((8 * (nI b)) + (nI a)), .ref 28]) (w' := gd_rI w 27 (upd (w.1 27) 0 0)) rfl ?_
          refine gd_iast E (K.1 43 (.iastore, 0) rfl).1 (j := 8 * b + a) (by decide) (rfl) (gm_at_eq a b) (by omega) (by decide) ?_
          refine gd_r E K 1 (pc' := 45) (lv' := [(0, .ref 27), (1, .int (nI a)), (2, .int (nI b)), (3, .int (nI k))]) (st' := [.int 1]) (w' := gd_rI (gd_rI w 27 (upd (w.1 27) 0 0)) 28 (upd ((gd_rI w 27 (upd (w.1 27) 0 0)).1 28) (8 * b + a) (nI k))) rfl ?_
          exact gd_zretp E hr hlk (K.1 45 (.ireturn, 0) rfl).1 (by decide) (by rw [gs_cellS, hcv, if_pos rfl, gm_at_eq, nI_clamp (by omega), nI_clamp hk]; exact ⟨rfl, rfl, ⟨G, (hR.code 0).kset (8 * b + a) k hk8⟩, (gf_m.I w (by decide) _).trans (gf_m.I _ (by decide) _)⟩)
        · refine gd_r E K 1 (pc' := if (nI (gs_cnt (gs_u S) (gs_made S))) ≤ 0 then 32 else 30) (lv' := [(0, .ref 27), (1, .int x), (2, .int y), (3, .int kind)]) (st' := []) (w' := gd_rI w 27 (upd (w.1 27) 0 0)) rfl ?_
          refine gd_if (fun q => absurd ((gd_le0 (by omega)).mp q) h4) ?_
          refine gd_r E K 1 (pc' := 31) (lv' := [(0, .ref 27), (1, .int x), (2, .int y), (3, .int kind)]) (st' := [.int 0]) (w' := gd_rI w 27 (upd (w.1 27) 0 0)) rfl ?_
          have hcv : gs_cellv S x y kind = false := decide_eq_false (fun z => h4 z.2.2.2)
          exact gd_zretp E hr hlk (K.1 31 (.ireturn, 0) rfl).1 (by decide) (by rw [gs_cellS, hcv]; exact gs_mp_code hR 0 rfl rfl)
def gs_discc (S : gs_T) (d : Int32) : Nat := if gs_isd S d = false then 1 else if gs_free S d.toNatClampNeg = true ∧ gs_k S (gs_c S d.toNatClampNeg) = 2 then 0 else 2
def gs_discv (S : gs_T) (d : Int32) : Nat := if gs_discc S d = 0 then gs_u S d.toNatClampNeg else 0
def gs_discS (S : gs_T) (d : Int32) : gs_T := if gs_discc S d = 0 then gs_fd (gs_sc S 2 (gs_thr S + gs_u S d.toNatClampNeg)) 0 d.toNatClampNeg 0 else S
set_option maxRecDepth 100000 in
theorem c2_Mdiscard {l : Launch} {D : va_G} {tC : FieldType → ClassId} {ad : Nat → Nat} (hinj : ∀ i j, ad i = ad j → i = j) {S : gs_T} {G : Nat → Nat} (w : gd_W) (hR : gr_M w S G) (hthr : ∀ d, d < gs_made S → gs_thr S + gs_u S d ≤ 60) (d : Int32) : gd_Cp l D tC ad 45 2 44 y_M_discard c_M_discard 3 (some .int) [.ref 27, .int d] w (gs_mp (gs_discS S d) (gs_discc S d) (.int (nI (gs_discv S d))) w) := by
  refine gd_Cp_of rfl hinj (Nat.le_of_ble_eq_true rfl) ?_
  intro p e s m args below meth c E hr hlk
  have K := k_M_discard
  have hA : ∀ q, gd_A ad 45 s.heap.size q → gd_A ad 45 s.heap.size q := fun _ h => h
  have hN := hR.1.2
  refine gd_r E K 3 (pc' := 3) (lv' := [(0, .ref 27), (1, .int d)]) (st' := [.int d, .ref 27, .ref 27]) (w' := w) rfl ?_
  refine gd_cV E hA (av := [.int d]) (rest := [.ref 27]) (c2_isD hinj _ hR d) (K.1 3 (.invokevirtual 125, 0) rfl).1 ml_M_125 cv_M_isDrop (by decide) (rfl) ⟨Nat.le_of_ble_eq_true rfl, Nat.le_of_ble_eq_true rfl⟩ ⟨Nat.zero_le _, Nat.zero_le _⟩ rfl (Nat.le_of_ble_eq_true rfl) ?_
  cases hb : gs_isd S d with
  | true =>
    refine gd_r E K 1 (pc' := if (gs_b (true)) = 0 then 9 else 13) (lv' := [(0, .ref 27), (1, .int d)]) (st' := [.ref 27]) (w' := w) rfl ?_
    refine gd_if (by decide) ?_
    obtain ⟨k, hk, rfl, hu⟩ := gs_isd_t hN hb
    have hcl : (nI k).toNatClampNeg = k := nI_clamp (by omega)
    refine gd_r E K 2 (pc' := 15) (lv' := [(0, .ref 27), (1, .int (nI k))]) (st' := [.int (nI k), .ref 27, .ref 27]) (w' := w) rfl ?_
    refine gd_cV E hA (av := [.int (nI k)]) (rest := [.ref 27]) (c2_isFree hinj _ hR k hk) (K.1 15 (.invokevirtual 129, 0) rfl).1 ml_M_129 cv_M_isFree (by decide) (rfl) ⟨Nat.le_of_ble_eq_true rfl, Nat.le_of_ble_eq_true rfl⟩ ⟨Nat.zero_le _, Nat.zero_le _⟩ rfl (Nat.le_of_ble_eq_true rfl) ?_
    cases hfr : gs_free S k with
    | true =>
      refine gd_r E K 1 (pc' := if (gs_b (true)) = 0 then 40 else 21) (lv' := [(0, .ref 27), (1, .int (nI k))]) (st' := [.ref 27]) (w' := w) rfl ?_
      refine gd_if (by decide) ?_
      refine gd_r E K 5 (pc' := 30) (lv' := [(0, .ref 27), (1, .int (nI k))]) (st' := [.int (nI k), .ref 30, .ref 28, .ref 27]) (w' := w) rfl ?_
      obtain ⟨c1, c2⟩ := hR.2.2.1 k (by omega)
      obtain ⟨k1, k2⟩ := hR.2.2.2.2.2.2.1 (gs_c S k) c2
      refine gd_ialdv E (K.1 30 (.iaload, 0) rfl).1 (j := k) (by decide) (rfl) (rfl) (by omega) (by decide) (v := nI (gs_c S k)) (c1) ?_
      refine gd_ialdv E (K.1 31 (.iaload, 0) rfl).1 (j := gs_c S k) (by decide) (rfl) (rfl) (c2) (by decide) (v := nI (gs_k S (gs_c S k))) (k1) ?_
      refine gd_r E K 1 (pc' := 33) (lv' := [(0, .ref 27), (1, .int (nI k))]) (st' := [.int 2, .int (nI (gs_k S (gs_c S k))), .ref 27]) (w' := w) rfl ?_
      by_cases h2 : gs_k S (gs_c S k) = 2
      · refine gd_r E K 1 (pc' := if (nI (gs_k S (gs_c S k))) = 2 then 36 else 40) (lv' := [(0, .ref 27), (1, .int (nI k))]) (st' := [.ref 27]) (w' := w) rfl ?_
        refine gd_it (by rw [h2]; rfl) ?_
        refine gd_r E K 9 (pc' := 58) (lv' := [(0, .ref 27), (1, .int (nI k))]) (st' := [.int (nI k), .ref 29]) (w' := gd_rI w 27 (upd (w.1 27) 0 0)) rfl ?_
        have hcv : gs_discc S (nI k) = 0 := by rw [gs_discc, if_neg (by rw [hb]; decide), hcl, if_pos ⟨hfr, h2⟩]
        obtain ⟨u1, u2⟩ := (hR.code 0).2.1 k (by omega)
        have ht := (hR.2.2.2.2.2.2.2.2.2.2.2.1).1
        refine gd_ialdv E (K.1 58 (.iaload, 0) rfl).1 (j := k) (by decide) (rfl) (rfl) (by omega) (by decide) (v := nI (gs_u S k)) (u1) ?_
        refine gd_r E K 6 (pc' := 67) (lv' := [(0, .ref 27), (1, .int (nI k)), (2, .int (nI (gs_u S k)))]) (st' := [.int ((w.1 27 13) + (nI (gs_u S k))), .ref 27]) (w' := gd_rI w 27 (upd (w.1 27) 0 0)) rfl ?_
        refine gd_cg (lv' := [(0, .ref 27), (1, .int (nI k)), (2, .int (nI (gs_u S k)))]) (st' := [.int ((nI (gs_thr S)) + (nI (gs_u S k))), .ref 27]) (w' := gd_rI w 27 (upd (w.1 27) 0 0)) ?_ (rfl) (by simp only [ht]) rfl
        refine gd_cg (lv' := [(0, .ref 27), (1, .int (nI k)), (2, .int (nI (gs_u S k)))]) (st' := [.int (nI (gs_thr S + gs_u S k)), .ref 27]) (w' := gd_rI w 27 (upd (w.1 27) 0 0)) ?_ (rfl) (by rw [nI_add]) (rfl)
        refine gd_r E K 5 (pc' := 76) (lv' := [(0, .ref 27), (1, .int (nI k)), (2, .int (nI (gs_u S k)))]) (st' := [.int 0, .int (nI k), .ref 29]) (w' := gd_rI (gd_rI w 27 (upd (w.1 27) 0 0)) 27 (upd ((gd_rI w 27 (upd (w.1 27) 0 0)).1 27) 13 (nI (gs_thr S + gs_u S k)))) rfl ?_
        refine gd_iast E (K.1 76 (.iastore, 0) rfl).1 (j := k) (by decide) (rfl) (rfl) (by omega) (by decide) ?_
        refine gd_r E K 1 (pc' := 78) (lv' := [(0, .ref 27), (1, .int (nI k)), (2, .int (nI (gs_u S k)))]) (st' := [.int (nI (gs_u S k))]) (w' := gd_rI (gd_rI (gd_rI w 27 (upd (w.1 27) 0 0)) 27 (upd ((gd_rI w 27 (upd (w.1 27) 0 0)).1 27) 13 (nI (gs_thr S + gs_u S k)))) 29 (upd ((gd_rI (gd_rI w 27 (upd (w.1 27) 0 0)) 27 (upd ((gd_rI w 27 (upd (w.1 27) 0 0)).1 27) 13 (nI (gs_thr S + gs_u S k)))).1 29) k 0)) rfl ?_
        exact gd_iretp E hr hlk (K.1 78 (.ireturn, 0) rfl).1 (by rw [gs_discS, gs_discv, hcv, if_pos rfl, if_pos rfl, hcl]; exact ⟨rfl, rfl, ⟨G, ((hR.code 0).thr (gs_thr S + gs_u S k) (hthr k hk)).f0 k 0 (by decide)⟩, (gf_m.I w (by decide) _).trans ((gf_m.I _ (by decide) _).trans (gf_m.I _ (by decide) _))⟩)
      · refine gd_r E K 1 (pc' := if (nI (gs_k S (gs_c S k))) = 2 then 36 else 40) (lv' := [(0, .ref 27), (1, .int (nI k))]) (st' := [.ref 27]) (w' := w) rfl ?_
        refine gd_if (by rw [show (2 : Int32) = nI 2 from rfl, nI_eq (by omega) (by decide)]; exact h2) ?_
        refine gd_r E K 6 (pc' := 52) (lv' := [(0, .ref 27), (1, .int (nI k))]) (st' := [.int 0]) (w' := gd_rI w 27 (upd (w.1 27) 0 2)) rfl ?_
        have hcv : gs_discc S (nI k) = 2 := by rw [gs_discc, if_neg (by rw [hb]; decide), hcl, if_neg (fun z => h2 z.2)]
        exact gd_iretp E hr hlk (K.1 52 (.ireturn, 0) rfl).1 (by rw [gs_discS, gs_discv, hcv]; exact gs_mp_code hR 2 rfl rfl)
    | false =>
      refine gd_r E K 1 (pc' := if (gs_b (false)) = 0 then 40 else 21) (lv' := [(0, .ref 27), (1, .int (nI k))]) (st' := [.ref 27]) (w' := w) rfl ?_
      refine gd_it (by decide) ?_
      refine gd_r E K 6 (pc' := 52) (lv' := [(0, .ref 27), (1, .int (nI k))]) (st' := [.int 0]) (w' := gd_rI w 27 (upd (w.1 27) 0 2)) rfl ?_
      have hcv : gs_discc S (nI k) = 2 := by rw [gs_discc, if_neg (by rw [hb]; decide), hcl, if_neg (fun z => by rw [hfr] at z; cases z.1)]
      exact gd_iretp E hr hlk (K.1 52 (.ireturn, 0) rfl).1 (by rw [gs_discS, gs_discv, hcv]; exact gs_mp_code hR 2 rfl rfl)
  | false =>
    refine gd_r E K 1 (pc' := if (gs_b (false)) = 0 then 9 else 13) (lv' := [(0, .ref 27), (1, .int d)]) (st' := [.ref 27]) (w' := w) rfl ?_
    refine gd_it (by decide) ?_
    refine gd_r E K 7 (pc' := 52) (lv' := [(0, .ref 27), (1, .int d)]) (st' := [.int 0]) (w' := gd_rI w 27 (upd (w.1 27) 0 1)) rfl ?_
    have hcv : gs_discc S d = 1 := by rw [gs_discc, if_pos hb]
    exact gd_iretp E hr hlk (K.1 52 (.ireturn, 0) rfl).1 (by rw [gs_discS, gs_discv, hcv]; exact gs_mp_code hR 1 rfl rfl)
set_option maxRecDepth 100000 in
theorem c2_Madd {l : Launch} {D : va_G} {tC : FieldType → ClassId} {ad : Nat → Nat} (hinj : ∀ i j, ad i = ad j → i = j) {S : gs_T} {G : Nat → Nat} (w : gd_W) (hR : gr_M w S G) (c0 u : Nat) (hc : c0 < 64) (hu : u ≤ 2) (hN : gs_made S < 60) : gd_Cp l D tC ad 45 0 0 y_M_add c_M_add 3 (some .int) [.ref 27, .int (nI c0), .int (nI u)] w (fun r w' => r = some (.int (nI (gs_made S))) ∧ (∃ G', gr_M w' (gs_add S c0 u) G') ∧ gf_m w w' ∧ w'.1 27 0 = w.1 27 0) := by
  refine gd_Cp_of rfl hinj (Nat.le_of_ble_eq_true rfl) ?_
  intro p e s m args below meth c E hr hlk
  have K := k_M_add
  have hA : ∀ q, gd_A ad 45 s.heap.size q → gd_A ad 45 s.heap.size q := fun _ h => h
  have hm := hR.1.1
  refine gd_r E K 5 (pc' := 9) (lv' := [(0, .ref 27), (1, .int (nI c0)), (2, .int (nI u))]) (st' := [.int (nI u), .int (w.1 27 3), .ref 29]) (w' := w) rfl ?_
  refine gd_cg (lv' := [(0, .ref 27), (1, .int (nI c0)), (2, .int (nI u))]) (st' := [.int (nI u), .int (nI (gs_made S)), .ref 29]) (w' := w) ?_ (rfl) (by simp only [hm]) rfl
  refine gd_iast E (K.1 9 (.iastore, 0) rfl).1 (j := gs_made S) (by decide) (rfl) (rfl) (hN) (by decide) ?_
  refine gd_r E K 5 (pc' := 19) (lv' := [(0, .ref 27), (1, .int (nI c0)), (2, .int (nI u))]) (st' := [.int (nI c0), .int (w.1 27 3), .ref 30]) (w' := gd_rI w 29 (upd (w.1 29) (gs_made S) (nI u))) rfl ?_
  refine gd_cg (lv' := [(0, .ref 27), (1, .int (nI c0)), (2, .int (nI u))]) (st' := [.int (nI c0), .int (nI (gs_made S)), .ref 30]) (w' := gd_rI w 29 (upd (w.1 29) (gs_made S) (nI u))) ?_ (rfl) (by simp only [hm]) rfl
  refine gd_iast E (K.1 19 (.iastore, 0) rfl).1 (j := gs_made S) (by decide) (rfl) (rfl) (hN) (by decide) ?_
  refine gd_r E K 5 (pc' := 29) (lv' := [(0, .ref 27), (1, .int (nI c0)), (2, .int (nI u))]) (st' := [.int 0, .int (w.1 27 3), .ref 34]) (w' := gd_rI (gd_rI w 29 (upd (w.1 29) (gs_made S) (nI u))) 30 (upd ((gd_rI w 29 (upd (w.1 29) (gs_made S) (nI u))).1 30) (gs_made S) (nI c0))) rfl ?_
  refine gd_cg (lv' := [(0, .ref 27), (1, .int (nI c0)), (2, .int (nI u))]) (st' := [.int 0, .int (nI (gs_made S)), .ref 34]) (w' := gd_rI (gd_rI w 29 (upd (w.1 29) (gs_made S) (nI u))) 30 (upd ((gd_rI w 29 (upd (w.1 29) (gs_made S) (nI u))).1 30) (gs_made S) (nI c0))) ?_ (rfl) (by simp only [hm]) rfl
  refine gd_iast E (K.1 29 (.iastore, 0) rfl).1 (j := gs_made S) (by decide) (rfl) (rfl) (hN) (by decide) ?_
  refine gd_r E K 5 (pc' := 39) (lv' := [(0, .ref 27), (1, .int (nI c0)), (2, .int (nI u))]) (st' := [.int 0, .int (w.1 27 3), .ref 35]) (w' := gd_rI (gd_rI (gd_rI w 29 (upd (w.1 29) (gs_made S) (nI u))) 30 (upd ((gd_rI w 29 (upd (w.1 29) (gs_made S) (nI u))).1 30) (gs_made S) (nI c0))) 34 (upd ((gd_rI (gd_rI w 29 (upd (w.1 29) (gs_made S) (nI u))) 30 (upd ((gd_rI w 29 (upd (w.1 29) (gs_made S) (nI u))).1 30) (gs_made S) (nI c0))).1 34) (gs_made S) 0)) rfl ?_
  refine gd_cg (lv' := [(0, .ref 27), (1, .int (nI c0)), (2, .int (nI u))]) (st' := [.int 0, .int (nI (gs_made S)), .ref 35]) (w' := gd_rI (gd_rI (gd_rI w 29 (upd (w.1 29) (gs_made S) (nI u))) 30 (upd ((gd_rI w 29 (upd (w.1 29) (gs_made S) (nI u))).1 30) (gs_made S) (nI c0))) 34 (upd ((gd_rI (gd_rI w 29 (upd (w.1 29) (gs_made S) (nI u))) 30 (upd ((gd_rI w 29 (upd (w.1 29) (gs_made S) (nI u))).1 30) (gs_made S) (nI c0))).1 34) (gs_made S) 0)) ?_ (rfl) (by simp only [hm]) rfl
  refine gd_iast E (K.1 39 (.iastore, 0) rfl).1 (j := gs_made S) (by decide) (rfl) (rfl) (hN) (by decide) ?_
  refine gd_r E K 5 (pc' := 49) (lv' := [(0, .ref 27), (1, .int (nI c0)), (2, .int (nI u))]) (st' := [.int 0, .int (w.1 27 3), .ref 36]) (w' := gd_rI (gd_rI (gd_rI (gd_rI w 29 (upd (w.1 29) (gs_made S) (nI u))) 30 (upd ((gd_rI w 29 (upd (w.1 29) (gs_made S) (nI u))).1 30) (gs_made S) (nI c0))) 34 (upd ((gd_rI (gd_rI w 29 (upd (w.1 29) (gs_made S) (nI u))) 30 (upd ((gd_rI w 29 (upd (w.1 29) (gs_made S) (nI u))).1 30) (gs_made S) (nI c0))).1 34) (gs_made S) 0)) 35 (upd ((gd_rI (gd_rI (gd_rI w 29 (upd (w.1 29) (gs_made S) (nI u))) 30 (upd ((gd_rI w 29 (upd (w.1 29) (gs_made S) (nI u))).1 30) (gs_made S) (nI c0))) 34 (upd ((gd_rI (gd_rI w 29 (upd (w.1 29) (gs_made S) (nI u))) 30 (upd ((gd_rI w 29 (upd (w.1 29) (gs_made S) (nI u))).1 30) (gs_made S) (nI c0))).1 34) (gs_made S) 0)).1 35) (gs_made S) 0)) rfl ?_
  refine gd_cg (lv' := [(0, .ref 27), (1, .int (nI c0)), (2, .int (nI u))]) (st' := [.int 0, .int (nI (gs_made S)), .ref 36]) (w' := gd_rI (gd_rI (gd_rI (gd_rI w 29 (upd (w.1 29) (gs_made S) (nI u))) 30 (upd ((gd_rI w 29 (upd (w.1 29) (gs_made S) (nI u))).1 30) (gs_made S) (nI c0))) 34 (upd ((gd_rI (gd_rI w 29 (upd (w.1 29) (gs_made S) (nI u))) 30 (upd ((gd_rI w 29 (upd (w.1 29) (gs_made S) (nI u))).1 30) (gs_made S) (nI c0))).1 34) (gs_made S) 0)) 35 (upd ((gd_rI (gd_rI (gd_rI w 29 (upd (w.1 29) (gs_made S) (nI u))) 30 (upd ((gd_rI w 29 (upd (w.1 29) (gs_made S) (nI u))).1 30) (gs_made S) (nI c0))) 34 (upd ((gd_rI (gd_rI w 29 (upd (w.1 29) (gs_made S) (nI u))) 30 (upd ((gd_rI w 29 (upd (w.1 29) (gs_made S) (nI u))).1 30) (gs_made S) (nI c0))).1 34) (gs_made S) 0)).1 35) (gs_made S) 0)) ?_ (rfl) (by simp only [hm]) rfl
  refine gd_iast E (K.1 49 (.iastore, 0) rfl).1 (j := gs_made S) (by decide) (rfl) (rfl) (hN) (by decide) ?_
  refine gd_r E K 4 (pc' := 56) (lv' := [(0, .ref 27), (1, .int (nI c0)), (2, .int (nI u))]) (st' := [.int 1, .int (w.1 27 3), .ref 27]) (w' := gd_rI (gd_rI (gd_rI (gd_rI (gd_rI w 29 (upd (w.1 29) (gs_made S) (nI u))) 30 (upd ((gd_rI w 29 (upd (w.1 29) (gs_made S) (nI u))).1 30) (gs_made S) (nI c0))) 34 (upd ((gd_rI (gd_rI w 29 (upd (w.1 29) (gs_made S) (nI u))) 30 (upd ((gd_rI w 29 (upd (w.1 29) (gs_made S) (nI u))).1 30) (gs_made S) (nI c0))).1 34) (gs_made S) 0)) 35 (upd ((gd_rI (gd_rI (gd_rI w 29 (upd (w.1 29) (gs_made S) (nI u))) 30 (upd ((gd_rI w 29 (upd (w.1 29) (gs_made S) (nI u))).1 30) (gs_made S) (nI c0))) 34 (upd ((gd_rI (gd_rI w 29 (upd (w.1 29) (gs_made S) (nI u))) 30 (upd ((gd_rI w 29 (upd (w.1 29) (gs_made S) (nI u))).1 30) (gs_made S) (nI c0))).1 34) (gs_made S) 0)).1 35) (gs_made S) 0)) 36 (upd ((gd_rI (gd_rI (gd_rI (gd_rI w 29 (upd (w.1 29) (gs_made S) (nI u))) 30 (upd ((gd_rI w 29 (upd (w.1 29) (gs_made S) (nI u))).1 30) (gs_made S) (nI c0))) 34 (upd ((gd_rI (gd_rI w 29 (upd (w.1 29) (gs_made S) (nI u))) 30 (upd ((gd_rI w 29 (upd (w.1 29) (gs_made S) (nI u))).1 30) (gs_made S) (nI c0))).1 34) (gs_made S) 0)) 35 (upd ((gd_rI (gd_rI (gd_rI w 29 (upd (w.1 29) (gs_made S) (nI u))) 30 (upd ((gd_rI w 29 (upd (w.1 29) (gs_made S) (nI u))).1 30) (gs_made S) (nI c0))) 34 (upd ((gd_rI (gd_rI w 29 (upd (w.1 29) (gs_made S) (nI u))) 30 (upd ((gd_rI w 29 (upd (w.1 29) (gs_made S) (nI u))).1 30) (gs_made S) (nI c0))).1 34) (gs_made S) 0)).1 35) (gs_made S) 0)).1 36) (gs_made S) 0)) rfl ?_
  refine gd_cg (lv' := [(0, .ref 27), (1, .int (nI c0)), (2, .int (nI u))]) (st' := [.int 1, .int (nI (gs_made S)), .ref 27]) (w' := gd_rI (gd_rI (gd_rI (gd_rI (gd_rI w 29 (upd (w.1 29) (gs_made S) (nI u))) 30 (upd ((gd_rI w 29 (upd (w.1 29) (gs_made S) (nI u))).1 30) (gs_made S) (nI c0))) 34 (upd ((gd_rI (gd_rI w 29 (upd (w.1 29) (gs_made S) (nI u))) 30 (upd ((gd_rI w 29 (upd (w.1 29) (gs_made S) (nI u))).1 30) (gs_made S) (nI c0))).1 34) (gs_made S) 0)) 35 (upd ((gd_rI (gd_rI (gd_rI w 29 (upd (w.1 29) (gs_made S) (nI u))) 30 (upd ((gd_rI w 29 (upd (w.1 29) (gs_made S) (nI u))).1 30) (gs_made S) (nI c0))) 34 (upd ((gd_rI (gd_rI w 29 (upd (w.1 29) (gs_made S) (nI u))) 30 (upd ((gd_rI w 29 (upd (w.1 29) (gs_made S) (nI u))).1 30) (gs_made S) (nI c0))).1 34) (gs_made S) 0)).1 35) (gs_made S) 0)) 36 (upd ((gd_rI (gd_rI (gd_rI (gd_rI w 29 (upd (w.1 29) (gs_made S) (nI u))) 30 (upd ((gd_rI w 29 (upd (w.1 29) (gs_made S) (nI u))).1 30) (gs_made S) (nI c0))) 34 (upd ((gd_rI (gd_rI w 29 (upd (w.1 29) (gs_made S) (nI u))) 30 (upd ((gd_rI w 29 (upd (w.1 29) (gs_made S) (nI u))).1 30) (gs_made S) (nI c0))).1 34) (gs_made S) 0)) 35 (upd ((gd_rI (gd_rI (gd_rI w 29 (upd (w.1 29) (gs_made S) (nI u))) 30 (upd ((gd_rI w 29 (upd (w.1 29) (gs_made S) (nI u))).1 30) (gs_made S) (nI c0))) 34 (upd ((gd_rI (gd_rI w 29 (upd (w.1 29) (gs_made S) (nI u))) 30 (upd ((gd_rI w 29 (upd (w.1 29) (gs_made S) (nI u))).1 30) (gs_made S) (nI c0))).1 34) (gs_made S) 0)).1 35) (gs_made S) 0)).1 36) (gs_made S) 0)) ?_ (rfl) (by simp only [hm]) rfl
  refine gd_r E K 1 (pc' := 57) (lv' := [(0, .ref 27), (1, .int (nI c0)), (2, .int (nI u))]) (st' := [.int ((nI (gs_made S)) + 1), .ref 27]) (w' := gd_rI (gd_rI (gd_rI (gd_rI (gd_rI w 29 (upd (w.1 29) (gs_made S) (nI u))) 30 (upd ((gd_rI w 29 (upd (w.1 29) (gs_made S) (nI u))).1 30) (gs_made S) (nI c0))) 34 (upd ((gd_rI (gd_rI w 29 (upd (w.1 29) (gs_made S) (nI u))) 30 (upd ((gd_rI w 29 (upd (w.1 29) (gs_made S) (nI u))).1 30) (gs_made S) (nI c0))).1 34) (gs_made S) 0)) 35 (upd ((gd_rI (gd_rI (gd_rI w 29 (upd (w.1 29) (gs_made S) (nI u))) 30 (upd ((gd_rI w 29 (upd (w.1 29) (gs_made S) (nI u))).1 30) (gs_made S) (nI c0))) 34 (upd ((gd_rI (gd_rI w 29 (upd (w.1 29) (gs_made S) (nI u))) 30 (upd ((gd_rI w 29 (upd (w.1 29) (gs_made S) (nI u))).1 30) (gs_made S) (nI c0))).1 34) (gs_made S) 0)).1 35) (gs_made S) 0)) 36 (upd ((gd_rI (gd_rI (gd_rI (gd_rI w 29 (upd (w.1 29) (gs_made S) (nI u))) 30 (upd ((gd_rI w 29 (upd (w.1 29) (gs_made S) (nI u))).1 30) (gs_made S) (nI c0))) 34 (upd ((gd_rI (gd_rI w 29 (upd (w.1 29) (gs_made S) (nI u))) 30 (upd ((gd_rI w 29 (upd (w.1 29) (gs_made S) (nI u))).1 30) (gs_made S) (nI c0))).1 34) (gs_made S) 0)) 35 (upd ((gd_rI (gd_rI (gd_rI w 29 (upd (w.1 29) (gs_made S) (nI u))) 30 (upd ((gd_rI w 29 (upd (w.1 29) (gs_made S) (nI u))).1 30) (gs_made S) (nI c0))) 34 (upd ((gd_rI (gd_rI w 29 (upd (w.1 29) (gs_made S) (nI u))) 30 (upd ((gd_rI w 29 (upd (w.1 29) (gs_made S) (nI u))).1 30) (gs_made S) (nI c0))).1 34) (gs_made S) 0)).1 35) (gs_made S) 0)).1 36) (gs_made S) 0)) rfl ?_
  refine gd_cg (lv' := [(0, .ref 27), (1, .int (nI c0)), (2, .int (nI u))]) (st' := [.int (nI (gs_made S + 1)), .ref 27]) (w' := gd_rI (gd_rI (gd_rI (gd_rI (gd_rI w 29 (upd (w.1 29) (gs_made S) (nI u))) 30 (upd ((gd_rI w 29 (upd (w.1 29) (gs_made S) (nI u))).1 30) (gs_made S) (nI c0))) 34 (upd ((gd_rI (gd_rI w 29 (upd (w.1 29) (gs_made S) (nI u))) 30 (upd ((gd_rI w 29 (upd (w.1 29) (gs_made S) (nI u))).1 30) (gs_made S) (nI c0))).1 34) (gs_made S) 0)) 35 (upd ((gd_rI (gd_rI (gd_rI w 29 (upd (w.1 29) (gs_made S) (nI u))) 30 (upd ((gd_rI w 29 (upd (w.1 29) (gs_made S) (nI u))).1 30) (gs_made S) (nI c0))) 34 (upd ((gd_rI (gd_rI w 29 (upd (w.1 29) (gs_made S) (nI u))) 30 (upd ((gd_rI w 29 (upd (w.1 29) (gs_made S) (nI u))).1 30) (gs_made S) (nI c0))).1 34) (gs_made S) 0)).1 35) (gs_made S) 0)) 36 (upd ((gd_rI (gd_rI (gd_rI (gd_rI w 29 (upd (w.1 29) (gs_made S) (nI u))) 30 (upd ((gd_rI w 29 (upd (w.1 29) (gs_made S) (nI u))).1 30) (gs_made S) (nI c0))) 34 (upd ((gd_rI (gd_rI w 29 (upd (w.1 29) (gs_made S) (nI u))) 30 (upd ((gd_rI w 29 (upd (w.1 29) (gs_made S) (nI u))).1 30) (gs_made S) (nI c0))).1 34) (gs_made S) 0)) 35 (upd ((gd_rI (gd_rI (gd_rI w 29 (upd (w.1 29) (gs_made S) (nI u))) 30 (upd ((gd_rI w 29 (upd (w.1 29) (gs_made S) (nI u))).1 30) (gs_made S) (nI c0))) 34 (upd ((gd_rI (gd_rI w 29 (upd (w.1 29) (gs_made S) (nI u))) 30 (upd ((gd_rI w 29 (upd (w.1 29) (gs_made S) (nI u))).1 30) (gs_made S) (nI c0))).1 34) (gs_made S) 0)).1 35) (gs_made S) 0)).1 36) (gs_made S) 0)) ?_ (rfl) (by rw [nI_1]) (rfl)
  refine gd_r E K 5 (pc' := 66) (lv' := [(0, .ref 27), (1, .int (nI c0)), (2, .int (nI u))]) (st' := [.int ((nI (gs_made S + 1)) - 1)]) (w' := gd_rI (gd_rI (gd_rI (gd_rI (gd_rI (gd_rI w 29 (upd (w.1 29) (gs_made S) (nI u))) 30 (upd ((gd_rI w 29 (upd (w.1 29) (gs_made S) (nI u))).1 30) (gs_made S) (nI c0))) 34 (upd ((gd_rI (gd_rI w 29 (upd (w.1 29) (gs_made S) (nI u))) 30 (upd ((gd_rI w 29 (upd (w.1 29) (gs_made S) (nI u))).1 30) (gs_made S) (nI c0))).1 34) (gs_made S) 0)) 35 (upd ((gd_rI (gd_rI (gd_rI w 29 (upd (w.1 29) (gs_made S) (nI u))) 30 (upd ((gd_rI w 29 (upd (w.1 29) (gs_made S) (nI u))).1 30) (gs_made S) (nI c0))) 34 (upd ((gd_rI (gd_rI w 29 (upd (w.1 29) (gs_made S) (nI u))) 30 (upd ((gd_rI w 29 (upd (w.1 29) (gs_made S) (nI u))).1 30) (gs_made S) (nI c0))).1 34) (gs_made S) 0)).1 35) (gs_made S) 0)) 36 (upd ((gd_rI (gd_rI (gd_rI (gd_rI w 29 (upd (w.1 29) (gs_made S) (nI u))) 30 (upd ((gd_rI w 29 (upd (w.1 29) (gs_made S) (nI u))).1 30) (gs_made S) (nI c0))) 34 (upd ((gd_rI (gd_rI w 29 (upd (w.1 29) (gs_made S) (nI u))) 30 (upd ((gd_rI w 29 (upd (w.1 29) (gs_made S) (nI u))).1 30) (gs_made S) (nI c0))).1 34) (gs_made S) 0)) 35 (upd ((gd_rI (gd_rI (gd_rI w 29 (upd (w.1 29) (gs_made S) (nI u))) 30 (upd ((gd_rI w 29 (upd (w.1 29) (gs_made S) (nI u))).1 30) (gs_made S) (nI c0))) 34 (upd ((gd_rI (gd_rI w 29 (upd (w.1 29) (gs_made S) (nI u))) 30 (upd ((gd_rI w 29 (upd (w.1 29) (gs_made S) (nI u))).1 30) (gs_made S) (nI c0))).1 34) (gs_made S) 0)).1 35) (gs_made S) 0)).1 36) (gs_made S) 0)) 27 (upd ((gd_rI (gd_rI (gd_rI (gd_rI (gd_rI w 29 (upd (w.1 29) (gs_made S) (nI u))) 30 (upd ((gd_rI w 29 (upd (w.1 29) (gs_made S) (nI u))).1 30) (gs_made S) (nI c0))) 34 (upd ((gd_rI (gd_rI w 29 (upd (w.1 29) (gs_made S) (nI u))) 30 (upd ((gd_rI w 29 (upd (w.1 29) (gs_made S) (nI u))).1 30) (gs_made S) (nI c0))).1 34) (gs_made S) 0)) 35 (upd ((gd_rI (gd_rI (gd_rI w 29 (upd (w.1 29) (gs_made S) (nI u))) 30 (upd ((gd_rI w 29 (upd (w.1 29) (gs_made S) (nI u))).1 30) (gs_made S) (nI c0))) 34 (upd ((gd_rI (gd_rI w 29 (upd (w.1 29) (gs_made S) (nI u))) 30 (upd ((gd_rI w 29 (upd (w.1 29) (gs_made S) (nI u))).1 30) (gs_made S) (nI c0))).1 34) (gs_made S) 0)).1 35) (gs_made S) 0)) 36 (upd ((gd_rI (gd_rI (gd_rI (gd_rI w 29 (upd (w.1 29) (gs_made S) (nI u))) 30 (upd ((gd_rI w 29 (upd (w.1 29) (gs_made S) (nI u))).1 30) (gs_made S) (nI c0))) 34 (upd ((gd_rI (gd_rI w 29 (upd (w.1 29) (gs_made S) (nI u))) 30 (upd ((gd_rI w 29 (upd (w.1 29) (gs_made S) (nI u))).1 30) (gs_made S) (nI c0))).1 34) (gs_made S) 0)) 35 (upd ((gd_rI (gd_rI (gd_rI w 29 (upd (w.1 29) (gs_made S) (nI u))) 30 (upd ((gd_rI w 29 (upd (w.1 29) (gs_made S) (nI u))).1 30) (gs_made S) (nI c0))) 34 (upd ((gd_rI (gd_rI w 29 (upd (w.1 29) (gs_made S) (nI u))) 30 (upd ((gd_rI w 29 (upd (w.1 29) (gs_made S) (nI u))).1 30) (gs_made S) (nI c0))).1 34) (gs_made S) 0)).1 35) (gs_made S) 0)).1 36) (gs_made S) 0)).1 27) 3 (nI (gs_made S + 1)))) rfl ?_
  exact gd_iretp E hr hlk (K.1 66 (.ireturn, 0) rfl).1 (⟨by rw [nI_pred], ⟨_, ((((hR.f0 (gs_made S) u hu).f1 (gs_made S) c0 hc).lg (gs_made S)).f4 (gs_made S) 0 (by decide)).made (gs_made S + 1) (by omega)⟩, (gf_m.I w (by decide) _).trans ((gf_m.I _ (by decide) _).trans ((gf_m.I _ (by decide) _).trans ((gf_m.I _ (by decide) _).trans ((gf_m.I _ (by decide) _).trans (gf_m.I _ (by decide) _))))), rfl⟩)
