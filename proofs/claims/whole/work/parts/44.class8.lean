theorem gs_87 (x : Int32) : 8 ≤ x ↔ 7 < x := by
  rw [Int32.lt_iff_toInt_lt, Int32.le_iff_toInt_le]
  have h4 : (8 : Int32).toInt = 8 := by decide
  have h3 : (7 : Int32).toInt = 7 := by decide
  rw [h4, h3]
  omega
theorem gr_C.kset {w : gd_W} {S : gs_T} {o : Nat → Nat} (h : gr_C w S o) {c k : Nat} (hk : k < 8) {w' : gd_W} (h1 : ∀ a, a ≠ 1 → w'.1 a = w.1 a) (h2 : w'.1 1 = upd (w.1 1) c (nI k)) (h3 : ∀ a, a ≠ 0 → w'.2.1 a = w.2.1 a) (h4 : w'.2.2 = w.2.2) (h5 : ∀ b, b < 64 → gm_bit (w'.2.1 0 4) b = if b = c then decide (k = 1) else gm_bit (w.2.1 0 4) b) : gr_C w' (gs_kset S c k) o := by
  obtain ⟨c1, c2, c3, c4, c5, c6, c7, c8⟩ := h
  have cL : gc_L w' S (gs_aw S) (gs_al S) o := by
    refine ⟨by rw [h1 2 (by decide)]; exact c1.1, by rw [h4]; exact c1.2.1, c1.2.2.1, fun i d hi => ?_⟩
    obtain ⟨a1, a2, a3, a4, E, hE⟩ := c1.got hi
    exact ⟨E, hE.m (h1 _ (by omega)) (h1 _ (by omega)) (h3 _ (by omega))⟩
  refine ⟨cL, by rw [h1 2 (by decide)]; exact c2, fun b hb => ?_, fun b hb => ?_, by rw [h1 0 (by decide)]; exact c5, by rw [h1 0 (by decide)]; exact c6, by rw [h1 0 (by decide)]; exact c7, ?_⟩
  · show w'.1 1 b = nI (if b = c then k else gs_k S b) ∧ (if b = c then k else gs_k S b) < 8
    rw [h2]
    by_cases e : b = c
    · subst e; rw [gd_u_s, if_pos rfl]; exact ⟨rfl, hk⟩
    · rw [gd_u_n e, if_neg e]; exact c3 b hb
  · show _ ↔ (if b = c then k else gs_k S b) = 1
    rw [h5 b hb]
    by_cases e : b = c
    · rw [if_pos e, if_pos e, decide_eq_true_iff]
    · rw [if_neg e, if_neg e]; exact c4 b hb
  · show gc_ring w' (gs_rd S)
    unfold gc_ring at c8 ⊢
    rw [h1 25 (by decide), h1 26 (by decide)]
    exact c8
set_option maxRecDepth 100000 in
theorem c3_Gcell {l : Launch} {D : va_G} {tC : FieldType → ClassId} {ad : Nat → Nat} (hinj : ∀ i j, ad i = ad j → i = j) {S : gs_T} {o : Nat → Nat} (w : gd_W) (hC : gr_C w S o) (x y kind : Int32) : gd_Cp l D tC ad 45 1 21 y_G_cell c_G_cell 5 (some .boolean) [.ref 0, .int x, .int y, .int kind] w (gs_cp (gs_cellS S x y kind) (.int (gs_b (gs_cellv S x y kind))) w) := by
  refine gd_Cp_of rfl hinj (Nat.le_of_ble_eq_true rfl) ?_
  intro p e s m args below meth c E hr hlk
  have K := k_G_cell
  have hA : ∀ q, gd_A ad 45 s.heap.size q → gd_A ad 45 s.heap.size q := fun _ h => h
  have hlen : (gs_al S).length = gs_cnt (gs_u S) (gs_made S) := gs_ot_all _ _
  have hl6 := hC.1.1.2
  refine gd_r E K 2 (pc' := 2) (lv' := [(0, .ref 0), (1, .int x), (2, .int y), (3, .int kind)]) (st' := [.int y, .int x]) (w' := w) rfl ?_
  refine gd_cS E hA (av := [.int x, .int y]) (rest := []) (c2_has hinj x y _) (K.1 2 (.invokestatic 48, 0) rfl).1 ml_G_48 cv_S_has ⟨Nat.le_of_ble_eq_true rfl, Nat.le_of_ble_eq_true rfl⟩ ⟨Nat.zero_le _, Nat.zero_le _⟩ rfl (Nat.le_of_ble_eq_true rfl) ?_
  refine gd_r E K 1 (pc' := if (gm_has x y) = 0 then 28 else 8) (lv' := [(0, .ref 0), (1, .int x), (2, .int y), (3, .int kind)]) (st' := []) (w' := w) rfl ?_
  refine gd_ite (fun h1 => ?_) (fun h1 => ?_)
  · refine gd_r E K 1 (pc' := 29) (lv' := [(0, .ref 0), (1, .int x), (2, .int y), (3, .int kind)]) (st' := [.int 0]) (w' := w) rfl ?_
    have hcv : gs_cellv S x y kind = false := decide_eq_false (fun z => z.1 h1)
    exact gd_zretp E hr hlk (K.1 29 (.ireturn, 0) rfl).1 (by decide) (by rw [gs_cellS, hcv]; exact gs_cp_same hC rfl)
  · refine gd_r E K 1 (pc' := 9) (lv' := [(0, .ref 0), (1, .int x), (2, .int y), (3, .int kind)]) (st' := [.int kind]) (w' := w) rfl ?_
    refine gd_r E K 1 (pc' := if kind < 0 then 28 else 12) (lv' := [(0, .ref 0), (1, .int x), (2, .int y), (3, .int kind)]) (st' := []) (w' := w) rfl ?_
    refine gd_ite (fun h2 => ?_) (fun h2 => ?_)
    · refine gd_r E K 1 (pc' := 29) (lv' := [(0, .ref 0), (1, .int x), (2, .int y), (3, .int kind)]) (st' := [.int 0]) (w' := w) rfl ?_
      have hcv : gs_cellv S x y kind = false := decide_eq_false (fun z => z.2.1 h2)
      exact gd_zretp E hr hlk (K.1 29 (.ireturn, 0) rfl).1 (by decide) (by rw [gs_cellS, hcv]; exact gs_cp_same hC rfl)
    · refine gd_r E K 2 (pc' := 15) (lv' := [(0, .ref 0), (1, .int x), (2, .int y), (3, .int kind)]) (st' := [.int 8, .int kind]) (w' := w) rfl ?_
      refine gd_r E K 1 (pc' := if 8 ≤ kind then 28 else 18) (lv' := [(0, .ref 0), (1, .int x), (2, .int y), (3, .int kind)]) (st' := []) (w' := w) rfl ?_
      refine gd_ite (fun h3 => ?_) (fun h3 => ?_)
      · refine gd_r E K 1 (pc' := 29) (lv' := [(0, .ref 0), (1, .int x), (2, .int y), (3, .int kind)]) (st' := [.int 0]) (w' := w) rfl ?_
        have hcv : gs_cellv S x y kind = false := decide_eq_false (fun z => z.2.2.1 ((gs_87 kind).mp h3))
        exact gd_zretp E hr hlk (K.1 29 (.ireturn, 0) rfl).1 (by decide) (by rw [gs_cellS, hcv]; exact gs_cp_same hC rfl)
      · refine gd_r E K 3 (pc' := 25) (lv' := [(0, .ref 0), (1, .int x), (2, .int y), (3, .int kind)]) (st' := [.int (w.1 2 1)]) (w' := w) rfl ?_
        refine gd_cg (lv' := [(0, .ref 0), (1, .int x), (2, .int y), (3, .int kind)]) (st' := [.int (nI (gs_al S).length)]) (w' := w) ?_ (rfl) (by simp only [hC.1.1.1]) rfl
        by_cases h4 : gs_cnt (gs_u S) (gs_made S) = 0
        · refine gd_r E K 1 (pc' := if (nI (gs_al S).length) ≤ 0 then 30 else 28) (lv' := [(0, .ref 0), (1, .int x), (2, .int y), (3, .int kind)]) (st' := []) (w' := w) rfl ?_
          refine gd_it ((gd_le0 (by omega)).mpr (by omega)) ?_
          have hcv : gs_cellv S x y kind = true := decide_eq_true ⟨h1, h2, fun h => h3 ((gs_87 kind).mpr h), h4⟩
          obtain ⟨a, b, ha, hb, rfl, rfl⟩ := gm_has_1 h1
          obtain ⟨k, hk, rfl⟩ := nI_of h2
          have hk8 : k < 8 := by rw [show (8 : Int32) = nI 8 from rfl, nI_leI (by decide) hk] at h3; omega
          refine gd_r E K 2 (pc' := 32) (lv' := [(0, .ref 0), (1, .int (nI a)), (2, .int (nI b)), (3, .int (nI k))]) (st' := [.int (nI b), .int (nI a)]) (w' := w) rfl ?_
          refine gd_cS E hA (av := [.int (nI a), .int (nI b)]) (rest := []) (c2_at hinj (nI a) (nI b) w) (K.1 32 (.invokestatic 57, 0) rfl).1 ml_G_57 cv_S_at ⟨Nat.le_of_ble_eq_true rfl, Nat.le_of_ble_eq_true rfl⟩ ⟨Nat.zero_le _, Nat.zero_le _⟩ rfl (Nat.le_of_ble_eq_true rfl) ?_
          refine gd_cg (lv' := [(0, .ref 0), (1, .int (nI a)), (2, .int (nI b)), (3, .int (nI k))]) (st' := [.int (nI (8 * b + a))]) (w' := w) ?_ (rfl) (by rw [gm_at_eq]; rfl) (rfl)
          refine gd_r E K 5 (pc' := 44) (lv' := [(0, .ref 0), (1, .int (nI a)), (2, .int (nI b)), (3, .int (nI k)), (4, .int (nI (8 * b + a)))]) (st' := [.int (nI k), .int (nI (8 * b + a)), .ref 1]) (w' := w) rfl ?_
          refine gd_iast E (K.1 44 (.iastore, 0) rfl).1 (j := 8 * b + a) (by decide) (rfl) (rfl) (by omega) (by decide) ?_
          refine gd_r E K 3 (pc' := 48) (lv' := [(0, .ref 0), (1, .int (nI a)), (2, .int (nI b)), (3, .int (nI k)), (4, .int (nI (8 * b + a)))]) (st' := [.int 1, .int (nI k), .ref 0]) (w' := gd_rI w 1 (upd (w.1 1) (8 * b + a) (nI k))) rfl ?_
          by_cases hk1 : k = 1
          · refine gd_r E K 1 (pc' := if (nI k) = 1 then 51 else 64) (lv' := [(0, .ref 0), (1, .int (nI a)), (2, .int (nI b)), (3, .int (nI k)), (4, .int (nI (8 * b + a)))]) (st' := [.ref 0]) (w' := gd_rI w 1 (upd (w.1 1) (8 * b + a) (nI k))) rfl ?_
            refine gd_it (by rw [hk1]; rfl) ?_
            refine gd_r E K 3 (pc' := 57) (lv' := [(0, .ref 0), (1, .int (nI a)), (2, .int (nI b)), (3, .int (nI k)), (4, .int (nI (8 * b + a)))]) (st' := [.int (nI (8 * b + a)), .long (w.2.1 0 4), .ref 0]) (w' := gd_rI w 1 (upd (w.1 1) (8 * b + a) (nI k))) rfl ?_
            refine gd_cS E hA (av := [.int (nI (8 * b + a))]) (rest := [.long (w.2.1 0 4), .ref 0]) (c2_only hinj (nI (8 * b + a)) _) (K.1 57 (.invokestatic 61, 0) rfl).1 ml_G_61 cv_S_only ⟨Nat.le_of_ble_eq_true rfl, Nat.le_of_ble_eq_true rfl⟩ ⟨Nat.zero_le _, Nat.zero_le _⟩ rfl (Nat.le_of_ble_eq_true rfl) ?_
            refine gd_r E K 4 (pc' := 82) (lv' := [(0, .ref 0), (1, .int (nI a)), (2, .int (nI b)), (3, .int (nI k)), (4, .int (nI (8 * b + a)))]) (st' := [.int 1]) (w' := gd_rL (gd_rI w 1 (upd (w.1 1) (8 * b + a) (nI k))) 0 (vp_updL ((gd_rI w 1 (upd (w.1 1) (8 * b + a) (nI k))).2.1 0) 4 ((w.2.1 0 4) ||| (gm_one (8 * b + a))))) rfl ?_
            have hg : gr_C (gd_rL (gd_rI w 1 (upd (w.1 1) (8 * b + a) (nI k))) 0 (vp_updL ((gd_rI w 1 (upd (w.1 1) (8 * b + a) (nI k))).2.1 0) 4 ((w.2.1 0 4) ||| (gm_one (8 * b + a))))) (gs_kset S (8 * b + a) k) o := hC.kset hk8 (fun a ha => gd_rI_n ha) (by rw [gd_rL_I, gd_rI_s]) (fun a ha => gd_rL_n ha) rfl (fun z hz => by rw [gd_rL_s, gd_ul_s]; show gm_bit (w.2.1 0 4 ||| gm_one (8 * b + a)) z = _; rw [gm_bit_or, gm_bit_one (by omega) hz]; by_cases e : z = 8 * b + a <;> simp [e, hk1])
            exact gd_zretp E hr hlk (K.1 82 (.ireturn, 0) rfl).1 (by decide) (by rw [gs_cellS, hcv, if_pos rfl, gm_at_eq, nI_clamp (by omega), nI_clamp hk]; exact ⟨rfl, ⟨o, hg⟩, (gf_c.I w (by decide) _).trans (gf_c.L _ (by decide) _)⟩)
          · refine gd_r E K 1 (pc' := if (nI k) = 1 then 51 else 64) (lv' := [(0, .ref 0), (1, .int (nI a)), (2, .int (nI b)), (3, .int (nI k)), (4, .int (nI (8 * b + a)))]) (st' := [.ref 0]) (w' := gd_rI w 1 (upd (w.1 1) (8 * b + a) (nI k))) rfl ?_
            refine gd_if (by rw [show (1 : Int32) = nI 1 from rfl, nI_eq hk (by decide)]; exact hk1) ?_
            refine gd_r E K 3 (pc' := 70) (lv' := [(0, .ref 0), (1, .int (nI a)), (2, .int (nI b)), (3, .int (nI k)), (4, .int (nI (8 * b + a)))]) (st' := [.int (nI (8 * b + a)), .long (w.2.1 0 4), .ref 0]) (w' := gd_rI w 1 (upd (w.1 1) (8 * b + a) (nI k))) rfl ?_
            refine gd_cS E hA (av := [.int (nI (8 * b + a))]) (rest := [.long (w.2.1 0 4), .ref 0]) (c2_only hinj (nI (8 * b + a)) _) (K.1 70 (.invokestatic 61, 0) rfl).1 ml_G_61 cv_S_only ⟨Nat.le_of_ble_eq_true rfl, Nat.le_of_ble_eq_true rfl⟩ ⟨Nat.zero_le _, Nat.zero_le _⟩ rfl (Nat.le_of_ble_eq_true rfl) ?_
            refine gd_r E K 5 (pc' := 82) (lv' := [(0, .ref 0), (1, .int (nI a)), (2, .int (nI b)), (3, .int (nI k)), (4, .int (nI (8 * b + a)))]) (st' := [.int 1]) (w' := gd_rL (gd_rI w 1 (upd (w.1 1) (8 * b + a) (nI k))) 0 (vp_updL ((gd_rI w 1 (upd (w.1 1) (8 * b + a) (nI k))).2.1 0) 4 ((w.2.1 0 4) &&& ((gm_one (8 * b + a)) ^^^ (-1))))) rfl ?_
            have hg : gr_C (gd_rL (gd_rI w 1 (upd (w.1 1) (8 * b + a) (nI k))) 0 (vp_updL ((gd_rI w 1 (upd (w.1 1) (8 * b + a) (nI k))).2.1 0) 4 ((w.2.1 0 4) &&& ((gm_one (8 * b + a)) ^^^ (-1))))) (gs_kset S (8 * b + a) k) o := hC.kset hk8 (fun a ha => gd_rI_n ha) (by rw [gd_rL_I, gd_rI_s]) (fun a ha => gd_rL_n ha) rfl (fun z hz => by rw [gd_rL_s, gd_ul_s]; show gm_bit (w.2.1 0 4 &&& (gm_one (8 * b + a) ^^^ (-1))) z = _; rw [gm_bit_and, gm_bit_not _ hz, gm_bit_one (by omega) hz]; by_cases e : z = 8 * b + a <;> simp [e, hk1])
            exact gd_zretp E hr hlk (K.1 82 (.ireturn, 0) rfl).1 (by decide) (by rw [gs_cellS, hcv, if_pos rfl, gm_at_eq, nI_clamp (by omega), nI_clamp hk]; exact ⟨rfl, ⟨o, hg⟩, (gf_c.I w (by decide) _).trans (gf_c.L _ (by decide) _)⟩)
        · refine gd_r E K 1 (pc' := if (nI (gs_al S).length) ≤ 0 then 30 else 28) (lv' := [(0, .ref 0), (1, .int x), (2, .int y), (3, .int kind)]) (st' := []) (w' := w) rfl ?_
          refine gd_if (fun q => h4 (by rw [← hlen]; exact (gd_le0 (by omega)).mp q)) ?_
          refine gd_r E K 1 (pc' := 29) (lv' := [(0, .ref 0), (1, .int x), (2, .int y), (3, .int kind)]) (st' := [.int 0]) (w' := w) rfl ?_
          have hcv : gs_cellv S x y kind = false := decide_eq_false (fun z => h4 z.2.2.2)
          exact gd_zretp E hr hlk (K.1 29 (.ireturn, 0) rfl).1 (by decide) (by rw [gs_cellS, hcv]; exact gs_cp_same hC rfl)
theorem gc_tk.congr {w : gd_W} {P Q : Nat → Nat → Prop} (h : gc_tk w P) (hq : ∀ t c, P t c ↔ Q t c) : gc_tk w Q := fun t ht c hc => (h t ht c hc).trans (hq t c)
set_option maxRecDepth 100000 in
theorem c3_heed0 {l : Launch} {D : va_G} {tC : FieldType → ClassId} {ad : Nat → Nat} (hinj : ∀ i j, ad i = ad j → i = j) {S : gs_T} {o : Nat → Nat} (w : gd_W) (hC : gr_C w S o) (hw : gs_wys S) : gd_Cp l D tC ad 45 3 69 y_G_heedAllBut c_G_heedAllBut 5 none [.ref 0, .null, .null] w (fun r w' => r = none ∧ gc_f 23 w w' ∧ gc_tk w' (gs_P S none none)) := by
  refine gd_Cp_of rfl hinj (Nat.le_of_ble_eq_true rfl) ?_
  intro p e s m args below meth c E hr hlk
  have K := k_G_heedAllBut
  have hA : ∀ q, gd_A ad 45 s.heap.size q → gd_A ad 45 s.heap.size q := fun _ h => h
  have hl6 := hC.1.1.2
  have loop : ∀ j i w1, i + j = (gs_al S).length → gc_f 23 w w1 → gc_tk w1 (fun t c => ∃ j x, j < i ∧ (gs_al S)[j]? = some x ∧ none ≠ some x ∧ none ≠ some x ∧ gs_pos S x t = some c) → gd_G p l e (gd_rm 3 69) s m args below meth c D tC ad (gd_A ad 45 s.heap.size) 45 5 0 0 (MQ below (gd_Qp D tC ad 45 s.heap.size (fun r w' => r = none ∧ gc_f 23 w w' ∧ gc_tk w' (gs_P S none none))) args s 0 0 (gd_A ad 45 s.heap.size)) 9 [(0, .ref 0), (1, .null), (2, .null), (3, .int (nI i))] [] w1 := by
    intro j
    induction j with
    | zero =>
      intro i w1 hi hf ht
      refine gd_r E K 4 (pc' := 17) (lv' := [(0, .ref 0), (1, .null), (2, .null), (3, .int (nI i))]) (st' := [.int (w1.1 2 1), .int (nI i)]) (w' := w1) rfl ?_
      refine gd_cg (lv' := [(0, .ref 0), (1, .null), (2, .null), (3, .int (nI i))]) (st' := [.int (nI (gs_al S).length), .int (nI i)]) (w' := w1) ?_ (rfl) (by simp only [show w1.1 2 1 = nI (gs_al S).length by rw [hf.1]; exact hC.1.1.1]) rfl
      refine gd_r E K 1 (pc' := if (nI (gs_al S).length) ≤ (nI i) then 58 else 20) (lv' := [(0, .ref 0), (1, .null), (2, .null), (3, .int (nI i))]) (st' := []) (w' := w1) rfl ?_
      refine gd_it (nI_le (by omega) (by omega)) ?_
      exact gd_vretp E hr hlk (K.1 58 (.return_, 0) rfl).1 (⟨rfl, hf, ht.congr (fun t c => ⟨fun ⟨j, x, h1, h2, h3, h4, h5⟩ => ⟨x, gs_al_at h2, h3, h4, h5⟩, fun ⟨x, h2, h3, h4, h5⟩ => by obtain ⟨j, hj⟩ := gs_al_ex h2; exact ⟨j, x, by have := (List.getElem?_eq_some_iff.mp hj).1; omega, hj, h3, h4, h5⟩⟩)⟩)
    | succ j ih =>
      intro i w1 hi hf ht
      have hg := List.getElem?_eq_getElem (show i < (gs_al S).length by omega)
      generalize hx : (gs_al S)[i] = x at hg
      have hC1 := hf.C (by decide) hC
      obtain ⟨l1, l2, l3, l4, E1, hE1⟩ := hC1.1.got hg
      refine gd_r E K 4 (pc' := 17) (lv' := [(0, .ref 0), (1, .null), (2, .null), (3, .int (nI i))]) (st' := [.int (w1.1 2 1), .int (nI i)]) (w' := w1) rfl ?_
      refine gd_cg (lv' := [(0, .ref 0), (1, .null), (2, .null), (3, .int (nI i))]) (st' := [.int (nI (gs_al S).length), .int (nI i)]) (w' := w1) ?_ (rfl) (by simp only [show w1.1 2 1 = nI (gs_al S).length by rw [hf.1]; exact hC.1.1.1]) rfl
      refine gd_r E K 1 (pc' := if (nI (gs_al S).length) ≤ (nI i) then 58 else 20) (lv' := [(0, .ref 0), (1, .null), (2, .null), (3, .int (nI i))]) (st' := []) (w' := w1) rfl ?_
      refine gd_if (nI_ge (by omega) (by omega)) ?_
      refine gd_r E K 4 (pc' := 28) (lv' := [(0, .ref 0), (1, .null), (2, .null), (3, .int (nI i))]) (st' := [.int (nI i), .ref 3]) (w' := w1) rfl ?_
      refine gd_aald E (K.1 28 (.aaload, 0) rfl).1 (j := i) (q := 4 + 3 * (o i)) (by decide) rfl (rfl) (by omega) (by decide) (l4) ?_
      refine gd_r E K 3 (pc' := 34) (lv' := [(0, .ref 0), (1, .null), (2, .null), (3, .int (nI i)), (4, .ref (4 + 3 * (o i)))]) (st' := [.null, .ref (4 + 3 * (o i))]) (w' := w1) rfl ?_
      refine gd_r E K 1 (pc' := if (some (4 + 3 * (o i)) : Option Nat) = (none : Option Nat) then 52 else 37) (lv' := [(0, .ref 0), (1, .null), (2, .null), (3, .int (nI i)), (4, .ref (4 + 3 * (o i)))]) (st' := []) (w' := w1) rfl ?_
      refine gd_if (nofun) ?_
      refine gd_r E K 2 (pc' := 40) (lv' := [(0, .ref 0), (1, .null), (2, .null), (3, .int (nI i)), (4, .ref (4 + 3 * (o i)))]) (st' := [.null, .ref (4 + 3 * (o i))]) (w' := w1) rfl ?_
      refine gd_r E K 1 (pc' := if (some (4 + 3 * (o i)) : Option Nat) = (none : Option Nat) then 52 else 43) (lv' := [(0, .ref 0), (1, .null), (2, .null), (3, .int (nI i)), (4, .ref (4 + 3 * (o i)))]) (st' := []) (w' := w1) rfl ?_
      refine gd_if (nofun) ?_
      refine gd_r E K 3 (pc' := 49) (lv' := [(0, .ref 0), (1, .null), (2, .null), (3, .int (nI i)), (4, .ref (4 + 3 * (o i)))]) (st' := [.ref (4 + 3 * (o i)), .ref 22]) (w' := w1) rfl ?_
      refine gd_cVp E hA (av := [.ref (4 + 3 * (o i))]) (rest := []) (c3_heed hinj w1 _ ht (o i) l3 x hE1 (hw x (gs_al_at hg)).1) (K.1 49 (.invokevirtual 220, 0) rfl).1 ml_G_220 cv_F_heed (by decide) (rfl) ⟨Nat.le_of_ble_eq_true rfl, Nat.le_of_ble_eq_true rfl⟩ ⟨Nat.zero_le _, Nat.zero_le _⟩ rfl (Nat.le_of_ble_eq_true rfl) (fun r9 w2 h9 => ?_)
      obtain ⟨rfl, f2, t2⟩ := h9
      refine gd_r E K 2 (pc' := 9) (lv' := [(0, .ref 0), (1, .null), (2, .null), (3, .int ((nI i) + 1)), (4, .ref (4 + 3 * (o i)))]) (st' := []) (w' := w2) rfl ?_
      refine gd_lvp [0, 1, 2, 3] (lv' := [(0, .ref 0), (1, .null), (2, .null), (3, .int ((nI i) + 1))]) rfl ?_
      exact gd_cg (ih (i + 1) w2 (by omega) (hf.trans f2) (t2.congr (fun t c => ⟨fun h => h.elim (fun ⟨j, y, h1, h2⟩ => ⟨j, y, by omega, h2⟩) (fun h => ⟨i, x, by omega, hg, nofun, nofun, h⟩), fun ⟨j, y, h1, h2, h3, h4, h5⟩ => by by_cases e0 : j = i; (subst e0; rw [hg] at h2; cases h2; exact Or.inr h5); (exact Or.inl ⟨j, y, by omega, h2, h3, h4, h5⟩)⟩))) (by rw [nI_1]) rfl rfl
  refine gd_r E K 2 (pc' := 4) (lv' := [(0, .ref 0), (1, .null), (2, .null)]) (st' := [.ref 22]) (w' := w) rfl ?_
  refine gd_cVp E hA (av := []) (rest := []) (c3_forget hinj w) (K.1 4 (.invokevirtual 213, 0) rfl).1 ml_G_213 cv_F_forget (by decide) (rfl) ⟨Nat.le_of_ble_eq_true rfl, Nat.le_of_ble_eq_true rfl⟩ ⟨Nat.zero_le _, Nat.zero_le _⟩ rfl (Nat.le_of_ble_eq_true rfl) (fun r9 w0 h9 => ?_)
  obtain ⟨rfl, f0, t0⟩ := h9
  refine gd_r E K 2 (pc' := 9) (lv' := [(0, .ref 0), (1, .null), (2, .null), (3, .int 0)]) (st' := []) (w' := w0) rfl ?_
  exact gd_cg (loop _ 0 w0 (Nat.zero_add _) f0 (t0.congr (fun t c => ⟨fun h => h.elim, fun ⟨j, x, h1, _⟩ => by omega⟩))) rfl rfl rfl
set_option maxRecDepth 100000 in
theorem c3_heed1 {l : Launch} {D : va_G} {tC : FieldType → ClassId} {ad : Nat → Nat} (hinj : ∀ i j, ad i = ad j → i = j) {S : gs_T} {o : Nat → Nat} (w : gd_W) (hC : gr_C w S o) (hw : gs_wys S) (i0 x0 : Nat) (hi0 : (gs_al S)[i0]? = some x0) : gd_Cp l D tC ad 45 3 69 y_G_heedAllBut c_G_heedAllBut 5 none [.ref 0, .ref (4 + 3 * (o i0)), .null] w (fun r w' => r = none ∧ gc_f 23 w w' ∧ gc_tk w' (gs_P S (some x0) none)) := by
  refine gd_Cp_of rfl hinj (Nat.le_of_ble_eq_true rfl) ?_
  intro p e s m args below meth c E hr hlk
  have K := k_G_heedAllBut
  have hA : ∀ q, gd_A ad 45 s.heap.size q → gd_A ad 45 s.heap.size q := fun _ h => h
  have hl6 := hC.1.1.2
  obtain ⟨la0, lb0, lc0, -, -⟩ := hC.1.got hi0
  have loop : ∀ j i w1, i + j = (gs_al S).length → gc_f 23 w w1 → gc_tk w1 (fun t c => ∃ j x, j < i ∧ (gs_al S)[j]? = some x ∧ (some x0) ≠ some x ∧ none ≠ some x ∧ gs_pos S x t = some c) → gd_G p l e (gd_rm 3 69) s m args below meth c D tC ad (gd_A ad 45 s.heap.size) 45 5 0 0 (MQ below (gd_Qp D tC ad 45 s.heap.size (fun r w' => r = none ∧ gc_f 23 w w' ∧ gc_tk w' (gs_P S (some x0) none))) args s 0 0 (gd_A ad 45 s.heap.size)) 9 [(0, .ref 0), (1, .ref (4 + 3 * (o i0))), (2, .null), (3, .int (nI i))] [] w1 := by
    intro j
    induction j with
    | zero =>
      intro i w1 hi hf ht
      refine gd_r E K 4 (pc' := 17) (lv' := [(0, .ref 0), (1, .ref (4 + 3 * (o i0))), (2, .null), (3, .int (nI i))]) (st' := [.int (w1.1 2 1), .int (nI i)]) (w' := w1) rfl ?_
      refine gd_cg (lv' := [(0, .ref 0), (1, .ref (4 + 3 * (o i0))), (2, .null), (3, .int (nI i))]) (st' := [.int (nI (gs_al S).length), .int (nI i)]) (w' := w1) ?_ (rfl) (by simp only [show w1.1 2 1 = nI (gs_al S).length by rw [hf.1]; exact hC.1.1.1]) rfl
      refine gd_r E K 1 (pc' := if (nI (gs_al S).length) ≤ (nI i) then 58 else 20) (lv' := [(0, .ref 0), (1, .ref (4 + 3 * (o i0))), (2, .null), (3, .int (nI i))]) (st' := []) (w' := w1) rfl ?_
      refine gd_it (nI_le (by omega) (by omega)) ?_
      exact gd_vretp E hr hlk (K.1 58 (.return_, 0) rfl).1 (⟨rfl, hf, ht.congr (fun t c => ⟨fun ⟨j, x, h1, h2, h3, h4, h5⟩ => ⟨x, gs_al_at h2, h3, h4, h5⟩, fun ⟨x, h2, h3, h4, h5⟩ => by obtain ⟨j, hj⟩ := gs_al_ex h2; exact ⟨j, x, by have := (List.getElem?_eq_some_iff.mp hj).1; omega, hj, h3, h4, h5⟩⟩)⟩)
    | succ j ih =>
      intro i w1 hi hf ht
      have hg := List.getElem?_eq_getElem (show i < (gs_al S).length by omega)
      generalize hx : (gs_al S)[i] = x at hg
      have hC1 := hf.C (by decide) hC
      obtain ⟨l1, l2, l3, l4, E1, hE1⟩ := hC1.1.got hg
      refine gd_r E K 4 (pc' := 17) (lv' := [(0, .ref 0), (1, .ref (4 + 3 * (o i0))), (2, .null), (3, .int (nI i))]) (st' := [.int (w1.1 2 1), .int (nI i)]) (w' := w1) rfl ?_
      refine gd_cg (lv' := [(0, .ref 0), (1, .ref (4 + 3 * (o i0))), (2, .null), (3, .int (nI i))]) (st' := [.int (nI (gs_al S).length), .int (nI i)]) (w' := w1) ?_ (rfl) (by simp only [show w1.1 2 1 = nI (gs_al S).length by rw [hf.1]; exact hC.1.1.1]) rfl
      refine gd_r E K 1 (pc' := if (nI (gs_al S).length) ≤ (nI i) then 58 else 20) (lv' := [(0, .ref 0), (1, .ref (4 + 3 * (o i0))), (2, .null), (3, .int (nI i))]) (st' := []) (w' := w1) rfl ?_
      refine gd_if (nI_ge (by omega) (by omega)) ?_
      refine gd_r E K 4 (pc' := 28) (lv' := [(0, .ref 0), (1, .ref (4 + 3 * (o i0))), (2, .null), (3, .int (nI i))]) (st' := [.int (nI i), .ref 3]) (w' := w1) rfl ?_
      refine gd_aald E (K.1 28 (.aaload, 0) rfl).1 (j := i) (q := 4 + 3 * (o i)) (by decide) rfl (rfl) (by omega) (by decide) (l4) ?_
      refine gd_r E K 3 (pc' := 34) (lv' := [(0, .ref 0), (1, .ref (4 + 3 * (o i0))), (2, .null), (3, .int (nI i)), (4, .ref (4 + 3 * (o i)))]) (st' := [.ref (4 + 3 * (o i0)), .ref (4 + 3 * (o i))]) (w' := w1) rfl ?_
      by_cases ne0 : i = i0
      · refine gd_r E K 1 (pc' := if (some (4 + 3 * (o i)) : Option Nat) = (some (4 + 3 * (o i0)) : Option Nat) then 52 else 37) (lv' := [(0, .ref 0), (1, .ref (4 + 3 * (o i0))), (2, .null), (3, .int (nI i)), (4, .ref (4 + 3 * (o i)))]) (st' := []) (w' := w1) rfl ?_
        refine gd_it (by rw [ne0]) ?_
        have hxk : x = x0 := by rw [ne0, hi0] at hg; exact (Option.some.inj hg).symm
        refine gd_r E K 2 (pc' := 9) (lv' := [(0, .ref 0), (1, .ref (4 + 3 * (o i0))), (2, .null), (3, .int ((nI i) + 1)), (4, .ref (4 + 3 * (o i)))]) (st' := []) (w' := w1) rfl ?_
        refine gd_lvp [0, 1, 2, 3] (lv' := [(0, .ref 0), (1, .ref (4 + 3 * (o i0))), (2, .null), (3, .int ((nI i) + 1))]) rfl ?_
        exact gd_cg (ih (i + 1) w1 (by omega) hf (ht.congr (fun t c => ⟨fun ⟨j, y, h1, h2⟩ => ⟨j, y, by omega, h2⟩, fun ⟨j, y, h1, h2, h3, h4, h5⟩ => by by_cases e0 : j = i; (subst e0; rw [hg] at h2; cases h2; exact absurd (by rw [hxk]) h3); (exact ⟨j, y, by omega, h2, h3, h4, h5⟩)⟩))) (by rw [nI_1]) rfl rfl
      · refine gd_r E K 1 (pc' := if (some (4 + 3 * (o i)) : Option Nat) = (some (4 + 3 * (o i0)) : Option Nat) then 52 else 37) (lv' := [(0, .ref 0), (1, .ref (4 + 3 * (o i0))), (2, .null), (3, .int (nI i)), (4, .ref (4 + 3 * (o i)))]) (st' := []) (w' := w1) rfl ?_
        refine gd_if (fun h => ne0 (hC.1.2.2.1 i i0 l2 lb0 (by have := Option.some.inj h; omega))) ?_
        refine gd_r E K 2 (pc' := 40) (lv' := [(0, .ref 0), (1, .ref (4 + 3 * (o i0))), (2, .null), (3, .int (nI i)), (4, .ref (4 + 3 * (o i)))]) (st' := [.null, .ref (4 + 3 * (o i))]) (w' := w1) rfl ?_
        refine gd_r E K 1 (pc' := if (some (4 + 3 * (o i)) : Option Nat) = (none : Option Nat) then 52 else 43) (lv' := [(0, .ref 0), (1, .ref (4 + 3 * (o i0))), (2, .null), (3, .int (nI i)), (4, .ref (4 + 3 * (o i)))]) (st' := []) (w' := w1) rfl ?_
        refine gd_if (nofun) ?_
        refine gd_r E K 3 (pc' := 49) (lv' := [(0, .ref 0), (1, .ref (4 + 3 * (o i0))), (2, .null), (3, .int (nI i)), (4, .ref (4 + 3 * (o i)))]) (st' := [.ref (4 + 3 * (o i)), .ref 22]) (w' := w1) rfl ?_
        refine gd_cVp E hA (av := [.ref (4 + 3 * (o i))]) (rest := []) (c3_heed hinj w1 _ ht (o i) l3 x hE1 (hw x (gs_al_at hg)).1) (K.1 49 (.invokevirtual 220, 0) rfl).1 ml_G_220 cv_F_heed (by decide) (rfl) ⟨Nat.le_of_ble_eq_true rfl, Nat.le_of_ble_eq_true rfl⟩ ⟨Nat.zero_le _, Nat.zero_le _⟩ rfl (Nat.le_of_ble_eq_true rfl) (fun r9 w2 h9 => ?_)
        obtain ⟨rfl, f2, t2⟩ := h9
        refine gd_r E K 2 (pc' := 9) (lv' := [(0, .ref 0), (1, .ref (4 + 3 * (o i0))), (2, .null), (3, .int ((nI i) + 1)), (4, .ref (4 + 3 * (o i)))]) (st' := []) (w' := w2) rfl ?_
        refine gd_lvp [0, 1, 2, 3] (lv' := [(0, .ref 0), (1, .ref (4 + 3 * (o i0))), (2, .null), (3, .int ((nI i) + 1))]) rfl ?_
        exact gd_cg (ih (i + 1) w2 (by omega) (hf.trans f2) (t2.congr (fun t c => ⟨fun h => h.elim (fun ⟨j, y, h1, h2⟩ => ⟨j, y, by omega, h2⟩) (fun h => ⟨i, x, by omega, hg, fun z => ne0 (gs_al_idx hg (by rw [hi0]; exact z)), nofun, h⟩), fun ⟨j, y, h1, h2, h3, h4, h5⟩ => by by_cases e0 : j = i; (subst e0; rw [hg] at h2; cases h2; exact Or.inr h5); (exact Or.inl ⟨j, y, by omega, h2, h3, h4, h5⟩)⟩))) (by rw [nI_1]) rfl rfl
  refine gd_r E K 2 (pc' := 4) (lv' := [(0, .ref 0), (1, .ref (4 + 3 * (o i0))), (2, .null)]) (st' := [.ref 22]) (w' := w) rfl ?_
  refine gd_cVp E hA (av := []) (rest := []) (c3_forget hinj w) (K.1 4 (.invokevirtual 213, 0) rfl).1 ml_G_213 cv_F_forget (by decide) (rfl) ⟨Nat.le_of_ble_eq_true rfl, Nat.le_of_ble_eq_true rfl⟩ ⟨Nat.zero_le _, Nat.zero_le _⟩ rfl (Nat.le_of_ble_eq_true rfl) (fun r9 w0 h9 => ?_)
  obtain ⟨rfl, f0, t0⟩ := h9
  refine gd_r E K 2 (pc' := 9) (lv' := [(0, .ref 0), (1, .ref (4 + 3 * (o i0))), (2, .null), (3, .int 0)]) (st' := []) (w' := w0) rfl ?_
  exact gd_cg (loop _ 0 w0 (Nat.zero_add _) f0 (t0.congr (fun t c => ⟨fun h => h.elim, fun ⟨j, x, h1, _⟩ => by omega⟩))) rfl rfl rfl
set_option maxRecDepth 100000 in
theorem c3_heed2 {l : Launch} {D : va_G} {tC : FieldType → ClassId} {ad : Nat → Nat} (hinj : ∀ i j, ad i = ad j → i = j) {S : gs_T} {o : Nat → Nat} (w : gd_W) (hC : gr_C w S o) (hw : gs_wys S) (i0 x0 : Nat) (hi0 : (gs_al S)[i0]? = some x0) (i1 x1 : Nat) (hi1 : (gs_al S)[i1]? = some x1) : gd_Cp l D tC ad 45 3 69 y_G_heedAllBut c_G_heedAllBut 5 none [.ref 0, .ref (4 + 3 * (o i0)), .ref (4 + 3 * (o i1))] w (fun r w' => r = none ∧ gc_f 23 w w' ∧ gc_tk w' (gs_P S (some x0) (some x1))) := by
  refine gd_Cp_of rfl hinj (Nat.le_of_ble_eq_true rfl) ?_
  intro p e s m args below meth c E hr hlk
  have K := k_G_heedAllBut
  have hA : ∀ q, gd_A ad 45 s.heap.size q → gd_A ad 45 s.heap.size q := fun _ h => h
  have hl6 := hC.1.1.2
  obtain ⟨la0, lb0, lc0, -, -⟩ := hC.1.got hi0
  obtain ⟨la1, lb1, lc1, -, -⟩ := hC.1.got hi1
  have loop : ∀ j i w1, i + j = (gs_al S).length → gc_f 23 w w1 → gc_tk w1 (fun t c => ∃ j x, j < i ∧ (gs_al S)[j]? = some x ∧ (some x0) ≠ some x ∧ (some x1) ≠ some x ∧ gs_pos S x t = some c) → gd_G p l e (gd_rm 3 69) s m args below meth c D tC ad (gd_A ad 45 s.heap.size) 45 5 0 0 (MQ below (gd_Qp D tC ad 45 s.heap.size (fun r w' => r = none ∧ gc_f 23 w w' ∧ gc_tk w' (gs_P S (some x0) (some x1)))) args s 0 0 (gd_A ad 45 s.heap.size)) 9 [(0, .ref 0), (1, .ref (4 + 3 * (o i0))), (2, .ref (4 + 3 * (o i1))), (3, .int (nI i))] [] w1 := by
    intro j
    induction j with
    | zero =>
      intro i w1 hi hf ht
      refine gd_r E K 4 (pc' := 17) (lv' := [(0, .ref 0), (1, .ref (4 + 3 * (o i0))), (2, .ref (4 + 3 * (o i1))), (3, .int (nI i))]) (st' := [.int (w1.1 2 1), .int (nI i)]) (w' := w1) rfl ?_
      refine gd_cg (lv' := [(0, .ref 0), (1, .ref (4 + 3 * (o i0))), (2, .ref (4 + 3 * (o i1))), (3, .int (nI i))]) (st' := [.int (nI (gs_al S).length), .int (nI i)]) (w' := w1) ?_ (rfl) (by simp only [show w1.1 2 1 = nI (gs_al S).length by rw [hf.1]; exact hC.1.1.1]) rfl
      refine gd_r E K 1 (pc' := if (nI (gs_al S).length) ≤ (nI i) then 58 else 20) (lv' := [(0, .ref 0), (1, .ref (4 + 3 * (o i0))), (2, .ref (4 + 3 * (o i1))), (3, .int (nI i))]) (st' := []) (w' := w1) rfl ?_
      refine gd_it (nI_le (by omega) (by omega)) ?_
      exact gd_vretp E hr hlk (K.1 58 (.return_, 0) rfl).1 (⟨rfl, hf, ht.congr (fun t c => ⟨fun ⟨j, x, h1, h2, h3, h4, h5⟩ => ⟨x, gs_al_at h2, h3, h4, h5⟩, fun ⟨x, h2, h3, h4, h5⟩ => by obtain ⟨j, hj⟩ := gs_al_ex h2; exact ⟨j, x, by have := (List.getElem?_eq_some_iff.mp hj).1; omega, hj, h3, h4, h5⟩⟩)⟩)
    | succ j ih =>
      intro i w1 hi hf ht
      have hg := List.getElem?_eq_getElem (show i < (gs_al S).length by omega)
      generalize hx : (gs_al S)[i] = x at hg
      have hC1 := hf.C (by decide) hC
      obtain ⟨l1, l2, l3, l4, E1, hE1⟩ := hC1.1.got hg
      refine gd_r E K 4 (pc' := 17) (lv' := [(0, .ref 0), (1, .ref (4 + 3 * (o i0))), (2, .ref (4 + 3 * (o i1))), (3, .int (nI i))]) (st' := [.int (w1.1 2 1), .int (nI i)]) (w' := w1) rfl ?_
      refine gd_cg (lv' := [(0, .ref 0), (1, .ref (4 + 3 * (o i0))), (2, .ref (4 + 3 * (o i1))), (3, .int (nI i))]) (st' := [.int (nI (gs_al S).length), .int (nI i)]) (w' := w1) ?_ (rfl) (by simp only [show w1.1 2 1 = nI (gs_al S).length by rw [hf.1]; exact hC.1.1.1]) rfl
      refine gd_r E K 1 (pc' := if (nI (gs_al S).length) ≤ (nI i) then 58 else 20) (lv' := [(0, .ref 0), (1, .ref (4 + 3 * (o i0))), (2, .ref (4 + 3 * (o i1))), (3, .int (nI i))]) (st' := []) (w' := w1) rfl ?_
      refine gd_if (nI_ge (by omega) (by omega)) ?_
      refine gd_r E K 4 (pc' := 28) (lv' := [(0, .ref 0), (1, .ref (4 + 3 * (o i0))), (2, .ref (4 + 3 * (o i1))), (3, .int (nI i))]) (st' := [.int (nI i), .ref 3]) (w' := w1) rfl ?_
      refine gd_aald E (K.1 28 (.aaload, 0) rfl).1 (j := i) (q := 4 + 3 * (o i)) (by decide) rfl (rfl) (by omega) (by decide) (l4) ?_
      refine gd_r E K 3 (pc' := 34) (lv' := [(0, .ref 0), (1, .ref (4 + 3 * (o i0))), (2, .ref (4 + 3 * (o i1))), (3, .int (nI i)), (4, .ref (4 + 3 * (o i)))]) (st' := [.ref (4 + 3 * (o i0)), .ref (4 + 3 * (o i))]) (w' := w1) rfl ?_
      by_cases ne0 : i = i0
      · refine gd_r E K 1 (pc' := if (some (4 + 3 * (o i)) : Option Nat) = (some (4 + 3 * (o i0)) : Option Nat) then 52 else 37) (lv' := [(0, .ref 0), (1, .ref (4 + 3 * (o i0))), (2, .ref (4 + 3 * (o i1))), (3, .int (nI i)), (4, .ref (4 + 3 * (o i)))]) (st' := []) (w' := w1) rfl ?_
        refine gd_it (by rw [ne0]) ?_
        have hxk : x = x0 := by rw [ne0, hi0] at hg; exact (Option.some.inj hg).symm
        refine gd_r E K 2 (pc' := 9) (lv' := [(0, .ref 0), (1, .ref (4 + 3 * (o i0))), (2, .ref (4 + 3 * (o i1))), (3, .int ((nI i) + 1)), (4, .ref (4 + 3 * (o i)))]) (st' := []) (w' := w1) rfl ?_
        refine gd_lvp [0, 1, 2, 3] (lv' := [(0, .ref 0), (1, .ref (4 + 3 * (o i0))), (2, .ref (4 + 3 * (o i1))), (3, .int ((nI i) + 1))]) rfl ?_
        exact gd_cg (ih (i + 1) w1 (by omega) hf (ht.congr (fun t c => ⟨fun ⟨j, y, h1, h2⟩ => ⟨j, y, by omega, h2⟩, fun ⟨j, y, h1, h2, h3, h4, h5⟩ => by by_cases e0 : j = i; (subst e0; rw [hg] at h2; cases h2; exact absurd (by rw [hxk]) h3); (exact ⟨j, y, by omega, h2, h3, h4, h5⟩)⟩))) (by rw [nI_1]) rfl rfl
      · refine gd_r E K 1 (pc' := if (some (4 + 3 * (o i)) : Option Nat) = (some (4 + 3 * (o i0)) : Option Nat) then 52 else 37) (lv' := [(0, .ref 0), (1, .ref (4 + 3 * (o i0))), (2, .ref (4 + 3 * (o i1))), (3, .int (nI i)), (4, .ref (4 + 3 * (o i)))]) (st' := []) (w' := w1) rfl ?_
        refine gd_if (fun h => ne0 (hC.1.2.2.1 i i0 l2 lb0 (by have := Option.some.inj h; omega))) ?_
        refine gd_r E K 2 (pc' := 40) (lv' := [(0, .ref 0), (1, .ref (4 + 3 * (o i0))), (2, .ref (4 + 3 * (o i1))), (3, .int (nI i)), (4, .ref (4 + 3 * (o i)))]) (st' := [.ref (4 + 3 * (o i1)), .ref (4 + 3 * (o i))]) (w' := w1) rfl ?_
        by_cases ne1 : i = i1
        · refine gd_r E K 1 (pc' := if (some (4 + 3 * (o i)) : Option Nat) = (some (4 + 3 * (o i1)) : Option Nat) then 52 else 43) (lv' := [(0, .ref 0), (1, .ref (4 + 3 * (o i0))), (2, .ref (4 + 3 * (o i1))), (3, .int (nI i)), (4, .ref (4 + 3 * (o i)))]) (st' := []) (w' := w1) rfl ?_
          refine gd_it (by rw [ne1]) ?_
          have hxk : x = x1 := by rw [ne1, hi1] at hg; exact (Option.some.inj hg).symm
          refine gd_r E K 2 (pc' := 9) (lv' := [(0, .ref 0), (1, .ref (4 + 3 * (o i0))), (2, .ref (4 + 3 * (o i1))), (3, .int ((nI i) + 1)), (4, .ref (4 + 3 * (o i)))]) (st' := []) (w' := w1) rfl ?_
          refine gd_lvp [0, 1, 2, 3] (lv' := [(0, .ref 0), (1, .ref (4 + 3 * (o i0))), (2, .ref (4 + 3 * (o i1))), (3, .int ((nI i) + 1))]) rfl ?_
          exact gd_cg (ih (i + 1) w1 (by omega) hf (ht.congr (fun t c => ⟨fun ⟨j, y, h1, h2⟩ => ⟨j, y, by omega, h2⟩, fun ⟨j, y, h1, h2, h3, h4, h5⟩ => by by_cases e0 : j = i; (subst e0; rw [hg] at h2; cases h2; exact absurd (by rw [hxk]) h4); (exact ⟨j, y, by omega, h2, h3, h4, h5⟩)⟩))) (by rw [nI_1]) rfl rfl
        · refine gd_r E K 1 (pc' := if (some (4 + 3 * (o i)) : Option Nat) = (some (4 + 3 * (o i1)) : Option Nat) then 52 else 43) (lv' := [(0, .ref 0), (1, .ref (4 + 3 * (o i0))), (2, .ref (4 + 3 * (o i1))), (3, .int (nI i)), (4, .ref (4 + 3 * (o i)))]) (st' := []) (w' := w1) rfl ?_
          refine gd_if (fun h => ne1 (hC.1.2.2.1 i i1 l2 lb1 (by have := Option.some.inj h; omega))) ?_
          refine gd_r E K 3 (pc' := 49) (lv' := [(0, .ref 0), (1, .ref (4 + 3 * (o i0))), (2, .ref (4 + 3 * (o i1))), (3, .int (nI i)), (4, .ref (4 + 3 * (o i)))]) (st' := [.ref (4 + 3 * (o i)), .ref 22]) (w' := w1) rfl ?_
          refine gd_cVp E hA (av := [.ref (4 + 3 * (o i))]) (rest := []) (c3_heed hinj w1 _ ht (o i) l3 x hE1 (hw x (gs_al_at hg)).1) (K.1 49 (.invokevirtual 220, 0) rfl).1 ml_G_220 cv_F_heed (by decide) (rfl) ⟨Nat.le_of_ble_eq_true rfl, Nat.le_of_ble_eq_true rfl⟩ ⟨Nat.zero_le _, Nat.zero_le _⟩ rfl (Nat.le_of_ble_eq_true rfl) (fun r9 w2 h9 => ?_)
          obtain ⟨rfl, f2, t2⟩ := h9
          refine gd_r E K 2 (pc' := 9) (lv' := [(0, .ref 0), (1, .ref (4 + 3 * (o i0))), (2, .ref (4 + 3 * (o i1))), (3, .int ((nI i) + 1)), (4, .ref (4 + 3 * (o i)))]) (st' := []) (w' := w2) rfl ?_
          refine gd_lvp [0, 1, 2, 3] (lv' := [(0, .ref 0), (1, .ref (4 + 3 * (o i0))), (2, .ref (4 + 3 * (o i1))), (3, .int ((nI i) + 1))]) rfl ?_
          exact gd_cg (ih (i + 1) w2 (by omega) (hf.trans f2) (t2.congr (fun t c => ⟨fun h => h.elim (fun ⟨j, y, h1, h2⟩ => ⟨j, y, by omega, h2⟩) (fun h => ⟨i, x, by omega, hg, fun z => ne0 (gs_al_idx hg (by rw [hi0]; exact z)), fun z => ne1 (gs_al_idx hg (by rw [hi1]; exact z)), h⟩), fun ⟨j, y, h1, h2, h3, h4, h5⟩ => by by_cases e0 : j = i; (subst e0; rw [hg] at h2; cases h2; exact Or.inr h5); (exact Or.inl ⟨j, y, by omega, h2, h3, h4, h5⟩)⟩))) (by rw [nI_1]) rfl rfl
  refine gd_r E K 2 (pc' := 4) (lv' := [(0, .ref 0), (1, .ref (4 + 3 * (o i0))), (2, .ref (4 + 3 * (o i1)))]) (st' := [.ref 22]) (w' := w) rfl ?_
  refine gd_cVp E hA (av := []) (rest := []) (c3_forget hinj w) (K.1 4 (.invokevirtual 213, 0) rfl).1 ml_G_213 cv_F_forget (by decide) (rfl) ⟨Nat.le_of_ble_eq_true rfl, Nat.le_of_ble_eq_true rfl⟩ ⟨Nat.zero_le _, Nat.zero_le _⟩ rfl (Nat.le_of_ble_eq_true rfl) (fun r9 w0 h9 => ?_)
  obtain ⟨rfl, f0, t0⟩ := h9
  refine gd_r E K 2 (pc' := 9) (lv' := [(0, .ref 0), (1, .ref (4 + 3 * (o i0))), (2, .ref (4 + 3 * (o i1))), (3, .int 0)]) (st' := []) (w' := w0) rfl ?_
  exact gd_cg (loop _ 0 w0 (Nat.zero_add _) f0 (t0.congr (fun t c => ⟨fun h => h.elim, fun ⟨j, x, h1, _⟩ => by omega⟩))) rfl rfl rfl
def gc_op (y0 : Int64) : Option Nat → Bool
  | none => false
  | some b => !gm_bit y0 b
set_option maxRecDepth 100000 in
theorem c3_isOpen {l : Launch} {D : va_G} {tC : FieldType → ClassId} {ad : Nat → Nat} (hinj : ∀ i j, ad i = ad j → i = j) (w : gd_W) (x : Option Nat) (hx : ∀ b, x = some b → b < 64) (y0 : Int64) : gd_Ct l D tC ad 45 1 20 y_G_isOpen c_G_isOpen 3 (some .boolean) [.int (gm_nO x), .long y0] w (some (.int (gs_b (gc_op y0 x)))) w := by
  refine gd_Ct_of rfl hinj (Nat.le_of_ble_eq_true rfl) ?_
  intro p e s m args below meth c E hr hlk
  have K := k_G_isOpen
  have hA : ∀ q, gd_A ad 45 s.heap.size q → gd_A ad 45 s.heap.size q := fun _ h => h
  refine gd_r E K 2 (pc' := 2) (lv' := [(0, .int (gm_nO x)), (1, .long y0)]) (st' := [.int (-1), .int (gm_nO x)]) (w' := w) rfl ?_
  cases x with
  | none =>
    refine gd_r E K 1 (pc' := if (gm_nO none) = (-1) then 20 else 5) (lv' := [(0, .int (gm_nO none)), (1, .long y0)]) (st' := []) (w' := w) rfl ?_
    refine gd_it (by rfl) ?_
    refine gd_r E K 1 (pc' := 21) (lv' := [(0, .int (gm_nO none)), (1, .long y0)]) (st' := [.int 0]) (w' := w) rfl ?_
    exact gd_zretq E hr hlk (K.1 21 (.ireturn, 0) rfl).1 (by decide) (rfl) (rfl)
  | some b =>
    have hb := hx b rfl
    refine gd_r E K 1 (pc' := if (gm_nO (some b)) = (-1) then 20 else 5) (lv' := [(0, .int (gm_nO (some b))), (1, .long y0)]) (st' := []) (w' := w) rfl ?_
    refine gd_if (fun h => by have := (gm_nO_m1 (x := some b) (fun a h => by cases h; omega)).mp h; cases this) ?_
    refine gd_r E K 2 (pc' := 7) (lv' := [(0, .int (gm_nO (some b))), (1, .long y0)]) (st' := [.int (gm_nO (some b)), .long y0]) (w' := w) rfl ?_
    refine gd_cS E hA (av := [.int (gm_nO (some b))]) (rest := [.long y0]) (c2_only hinj (gm_nO (some b)) w) (K.1 7 (.invokestatic 61, 0) rfl).1 ml_G_61 cv_S_only ⟨Nat.le_of_ble_eq_true rfl, Nat.le_of_ble_eq_true rfl⟩ ⟨Nat.zero_le _, Nat.zero_le _⟩ rfl (Nat.le_of_ble_eq_true rfl) ?_
    refine gd_r E K 3 (pc' := 13) (lv' := [(0, .int (gm_nO (some b))), (1, .long y0)]) (st' := [.int (lg_cmp (y0 &&& (gm_one b)) 0)]) (w' := w) rfl ?_
    cases hgb : gm_bit y0 b with
    | false =>
      refine gd_r E K 1 (pc' := if (lg_cmp (y0 &&& (gm_one b)) 0) = 0 then 16 else 20) (lv' := [(0, .int (gm_nO (some b))), (1, .long y0)]) (st' := []) (w' := w) rfl ?_
      refine gd_it ((lg_cmp_eq _ _).mpr ((gm_and_one hb).mpr hgb)) ?_
      refine gd_r E K 2 (pc' := 21) (lv' := [(0, .int (gm_nO (some b))), (1, .long y0)]) (st' := [.int 1]) (w' := w) rfl ?_
      exact gd_zretq E hr hlk (K.1 21 (.ireturn, 0) rfl).1 (by decide) (by simp [gc_op, hgb, gs_b]) (rfl)
    | true =>
      refine gd_r E K 1 (pc' := if (lg_cmp (y0 &&& (gm_one b)) 0) = 0 then 16 else 20) (lv' := [(0, .int (gm_nO (some b))), (1, .long y0)]) (st' := []) (w' := w) rfl ?_
      refine gd_if (fun h => by have := (gm_and_one hb).mp ((lg_cmp_eq _ _).mp h); rw [hgb] at this; cases this) ?_
      refine gd_r E K 1 (pc' := 21) (lv' := [(0, .int (gm_nO (some b))), (1, .long y0)]) (st' := [.int 0]) (w' := w) rfl ?_
      exact gd_zretq E hr hlk (K.1 21 (.ireturn, 0) rfl).1 (by decide) (by simp [gc_op, hgb, gs_b]) (rfl)
set_option maxRecDepth 100000 in
theorem c3_clearSource {l : Launch} {D : va_G} {tC : FieldType → ClassId} {ad : Nat → Nat} (hinj : ∀ i j, ad i = ad j → i = j) {S : gs_T} {o : Nat → Nat} (w : gd_W) (hC : gr_C w S o) (hw : gs_wys S) (k : Nat) (hk : k < 4) : gd_Cp l D tC ad 45 4 93 y_G_clearSource c_G_clearSource 5 (some .int) [.ref 0, .int (nI k)] w (fun r w' => r = some (.int (gm_nO (gs_src S k))) ∧ gc_f 23 w w') := by
  refine gd_Cp_of rfl hinj (Nat.le_of_ble_eq_true rfl) ?_
  intro p e s m args below meth c E hr hlk
  have K := k_G_clearSource
  have hA : ∀ q, gd_A ad 45 s.heap.size q → gd_A ad 45 s.heap.size q := fun _ h => h
  have loop : ∀ w1 y0, gc_f 23 w w1 → (∀ c, c < 64 → gm_bit y0 c = gs_mtR (gs_T2 S none none) (gs_cn S none none) c 0) → ∀ j i, i + j = 64 → gs_src S k = gs_fst (gs_srcf S k) i j → gd_G p l e (gd_rm 4 93) s m args below meth c D tC ad (gd_A ad 45 s.heap.size) 45 5 0 0 (MQ below (gd_Qp D tC ad 45 s.heap.size (fun r w' => r = some (.int (gm_nO (gs_src S k))) ∧ gc_f 23 w w')) args s 0 0 (gd_A ad 45 s.heap.size)) 17 [(0, .ref 0), (1, .int (nI k)), (2, .long y0), (4, .int (nI i))] [] w1 := by
    intro w1 y0 hf hy j
    induction j with
    | zero =>
      intro i hi he
      refine gd_r E K 2 (pc' := 21) (lv' := [(0, .ref 0), (1, .int (nI k)), (2, .long y0), (4, .int (nI i))]) (st' := [.int 64, .int (nI i)]) (w' := w1) rfl ?_
      refine gd_r E K 1 (pc' := if 64 ≤ (nI i) then 55 else 24) (lv' := [(0, .ref 0), (1, .int (nI k)), (2, .long y0), (4, .int (nI i))]) (st' := []) (w' := w1) rfl ?_
      refine gd_it (nI_le (show 64 ≤ i by omega) (by omega)) ?_
      refine gd_r E K 1 (pc' := 56) (lv' := [(0, .ref 0), (1, .int (nI k)), (2, .long y0), (4, .int (nI i))]) (st' := [.int (-1)]) (w' := w1) rfl ?_
      exact gd_iretp E hr hlk (K.1 56 (.ireturn, 0) rfl).1 (⟨by rw [he]; rfl, hf⟩)
    | succ j ih =>
      intro i hi he
      refine gd_r E K 2 (pc' := 21) (lv' := [(0, .ref 0), (1, .int (nI k)), (2, .long y0), (4, .int (nI i))]) (st' := [.int 64, .int (nI i)]) (w' := w1) rfl ?_
      refine gd_r E K 1 (pc' := if 64 ≤ (nI i) then 55 else 24) (lv' := [(0, .ref 0), (1, .int (nI k)), (2, .long y0), (4, .int (nI i))]) (st' := []) (w' := w1) rfl ?_
      refine gd_if (nI_ge (show i < 64 by omega) (by decide)) ?_
      refine gd_r E K 3 (pc' := 30) (lv' := [(0, .ref 0), (1, .int (nI k)), (2, .long y0), (4, .int (nI i))]) (st' := [.int (nI i), .ref 1]) (w' := w1) rfl ?_
      obtain ⟨k1, k2⟩ := hC.2.2.1 i (by omega)
      refine gd_ialdv E (K.1 30 (.iaload, 0) rfl).1 (j := i) (by decide) (rfl) (rfl) (by omega) (by decide) (v := nI (gs_k S i)) (by rw [hf.1]; exact k1) ?_
      refine gd_r E K 3 (pc' := 34) (lv' := [(0, .ref 0), (1, .int (nI k)), (2, .long y0), (4, .int (nI i))]) (st' := [.int (4 + (nI k)), .int (nI (gs_k S i))]) (w' := w1) rfl ?_
      by_cases hks : gs_k S i = 4 + k
      · refine gd_r E K 1 (pc' := if (nI (gs_k S i)) = (4 + (nI k)) then 37 else 49) (lv' := [(0, .ref 0), (1, .int (nI k)), (2, .long y0), (4, .int (nI i))]) (st' := []) (w' := w1) rfl ?_
        refine gd_it (by rw [hks, show (4 : Int32) = nI 4 from rfl, nI_add]) ?_
        refine gd_r E K 2 (pc' := 40) (lv' := [(0, .ref 0), (1, .int (nI k)), (2, .long y0), (4, .int (nI i))]) (st' := [.long y0, .int (nI i)]) (w' := w1) rfl ?_
        refine gd_cS E hA (av := [.int (nI i), .long y0]) (rest := []) (c3_isOpen hinj w1 (some i) (fun b h => by cases h; omega) y0) (K.1 40 (.invokestatic 159, 0) rfl).1 ml_G_159 cv_G_isOpen ⟨Nat.le_of_ble_eq_true rfl, Nat.le_of_ble_eq_true rfl⟩ ⟨Nat.zero_le _, Nat.zero_le _⟩ rfl (Nat.le_of_ble_eq_true rfl) ?_
        refine gd_cg (lv' := [(0, .ref 0), (1, .int (nI k)), (2, .long y0), (4, .int (nI i))]) (st' := [.int (gs_b (!gm_bit y0 i))]) (w' := w1) ?_ (rfl) (rfl) (rfl)
        cases hb : gm_bit y0 i with
        | true =>
          refine gd_r E K 1 (pc' := if (gs_b (!true)) = 0 then 49 else 46) (lv' := [(0, .ref 0), (1, .int (nI k)), (2, .long y0), (4, .int (nI i))]) (st' := []) (w' := w1) rfl ?_
          refine gd_it (by decide) ?_
          have hF : gs_srcf S k i = false := by unfold gs_srcf; rw [← hy i (by omega), hb]; simp
          refine gd_r E K 2 (pc' := 17) (lv' := [(0, .ref 0), (1, .int (nI k)), (2, .long y0), (4, .int ((nI i) + 1))]) (st' := []) (w' := w1) rfl ?_
          exact gd_cg (ih (i + 1) (by omega) (by rw [he, gs_fst_step hF])) (by rw [nI_1]) rfl rfl
        | false =>
          refine gd_r E K 1 (pc' := if (gs_b (!false)) = 0 then 49 else 46) (lv' := [(0, .ref 0), (1, .int (nI k)), (2, .long y0), (4, .int (nI i))]) (st' := []) (w' := w1) rfl ?_
          refine gd_if (by decide) ?_
          refine gd_r E K 1 (pc' := 48) (lv' := [(0, .ref 0), (1, .int (nI k)), (2, .long y0), (4, .int (nI i))]) (st' := [.int (nI i)]) (w' := w1) rfl ?_
          have hF : gs_srcf S k i = true := by unfold gs_srcf; rw [← hy i (by omega), hb, decide_eq_true hks]; rfl
          exact gd_iretp E hr hlk (K.1 48 (.ireturn, 0) rfl).1 (⟨by rw [he, gs_fst_hit hF]; rfl, hf⟩)
      · refine gd_r E K 1 (pc' := if (nI (gs_k S i)) = (4 + (nI k)) then 37 else 49) (lv' := [(0, .ref 0), (1, .int (nI k)), (2, .long y0), (4, .int (nI i))]) (st' := []) (w' := w1) rfl ?_
        refine gd_if (fun h => hks (by rw [show (4 : Int32) = nI 4 from rfl, nI_add, nI_eq (by omega) (by omega)] at h; exact h)) ?_
        have hF : gs_srcf S k i = false := by unfold gs_srcf; rw [decide_eq_false hks]; rfl
        refine gd_r E K 2 (pc' := 17) (lv' := [(0, .ref 0), (1, .int (nI k)), (2, .long y0), (4, .int ((nI i) + 1))]) (st' := []) (w' := w1) rfl ?_
        exact gd_cg (ih (i + 1) (by omega) (by rw [he, gs_fst_step hF])) (by rw [nI_1]) rfl rfl
  refine gd_r E K 3 (pc' := 3) (lv' := [(0, .ref 0), (1, .int (nI k))]) (st' := [.null, .null, .ref 0]) (w' := w) rfl ?_
  refine gd_cVp E hA (av := [.null, .null]) (rest := []) (c3_heed0 hinj w hC hw) (K.1 3 (.invokevirtual 115, 0) rfl).1 ml_G_115 cv_G_heedAllBut (by decide) (rfl) ⟨Nat.le_of_ble_eq_true rfl, Nat.le_of_ble_eq_true rfl⟩ ⟨Nat.zero_le _, Nat.zero_le _⟩ rfl (Nat.le_of_ble_eq_true rfl) (fun r9 w1 h9 => ?_)
  obtain ⟨rfl, f1, t1⟩ := h9
  refine gd_r E K 2 (pc' := 10) (lv' := [(0, .ref 0), (1, .int (nI k))]) (st' := [.ref 22]) (w' := w1) rfl ?_
  refine gd_cV E hA (av := []) (rest := []) (c3_everShut hinj w1) (K.1 10 (.invokevirtual 155, 0) rfl).1 ml_G_155 cv_F_everShut (by decide) (rfl) ⟨Nat.le_of_ble_eq_true rfl, Nat.le_of_ble_eq_true rfl⟩ ⟨Nat.zero_le _, Nat.zero_le _⟩ rfl (Nat.le_of_ble_eq_true rfl) ?_
  refine gd_r E K 3 (pc' := 17) (lv' := [(0, .ref 0), (1, .int (nI k)), (2, .long (gm_ud (gm_sw (gc_ua (w1.2.1 23) 61)))), (4, .int 0)]) (st' := []) (w' := w1) rfl ?_
  refine gd_cg (loop w1 _ f1 (fun c hc => ?_) 64 0 (by omega) rfl) rfl rfl rfl
  rw [Bool.eq_iff_iff, gc_ua_near t1 hc, gc_shE_iff hw]
