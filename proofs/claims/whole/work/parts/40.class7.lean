theorem gs_43 (x : Int32) : (¬ (4 : Int32) ≤ x) ↔ ¬ 3 < x := by
  rw [Int32.not_le, Int32.not_lt, Int32.lt_iff_toInt_lt, Int32.le_iff_toInt_le]
  have h4 : (4 : Int32).toInt = 4 := by decide
  have h3 : (3 : Int32).toInt = 3 := by decide
  rw [h4, h3]
  omega
set_option maxRecDepth 100000 in
theorem c3_Gtime {l : Launch} {D : va_G} {tC : FieldType → ClassId} {ad : Nat → Nat} (hinj : ∀ i j, ad i = ad j → i = j) {S : gs_T} {o : Nat → Nat} (w : gd_W) (hC : gr_C w S o) : gd_Cp l D tC ad 45 0 0 y_G_time c_G_time 1 (some .int) [.ref 0] w (gs_cp S (.int (gs_time S)) w) := by
  refine gd_Cp_of rfl hinj (Nat.le_of_ble_eq_true rfl) ?_
  intro p e s m args below meth c E hr hlk
  have K := k_G_time
  have hA : ∀ q, gd_A ad 45 s.heap.size q → gd_A ad 45 s.heap.size q := fun _ h => h
  refine gd_r E K 2 (pc' := 4) (lv' := [(0, .ref 0)]) (st' := [.int (w.1 0 5)]) (w' := w) rfl ?_
  exact gd_iretp E hr hlk (K.1 4 (.ireturn, 0) rfl).1 (gs_cp_same hC (by rw [hC.2.2.2.2.1]))
set_option maxRecDepth 100000 in
theorem c3_Gdroplets {l : Launch} {D : va_G} {tC : FieldType → ClassId} {ad : Nat → Nat} (hinj : ∀ i j, ad i = ad j → i = j) {S : gs_T} {o : Nat → Nat} (w : gd_W) (hC : gr_C w S o) : gd_Cp l D tC ad 45 0 0 y_G_droplets c_G_droplets 1 (some .int) [.ref 0] w (gs_cp S (.int (nI (gs_cnt (gs_u S) (gs_made S)))) w) := by
  refine gd_Cp_of rfl hinj (Nat.le_of_ble_eq_true rfl) ?_
  intro p e s m args below meth c E hr hlk
  have K := k_G_droplets
  have hA : ∀ q, gd_A ad 45 s.heap.size q → gd_A ad 45 s.heap.size q := fun _ h => h
  refine gd_r E K 3 (pc' := 7) (lv' := [(0, .ref 0)]) (st' := [.int (w.1 2 1)]) (w' := w) rfl ?_
  exact gd_iretp E hr hlk (K.1 7 (.ireturn, 0) rfl).1 (gs_cp_same hC (by rw [hC.1.1.1, gs_ot_all]))
set_option maxRecDepth 100000 in
theorem c3_Gkind {l : Launch} {D : va_G} {tC : FieldType → ClassId} {ad : Nat → Nat} (hinj : ∀ i j, ad i = ad j → i = j) {S : gs_T} {o : Nat → Nat} (w : gd_W) (hC : gr_C w S o) (x y : Int32) : gd_Cp l D tC ad 45 1 21 y_G_kind c_G_kind 3 (some .int) [.ref 0, .int x, .int y] w (gs_cp S (.int (gs_kindv S x y)) w) := by
  refine gd_Cp_of rfl hinj (Nat.le_of_ble_eq_true rfl) ?_
  intro p e s m args below meth c E hr hlk
  have K := k_G_kind
  have hA : ∀ q, gd_A ad 45 s.heap.size q → gd_A ad 45 s.heap.size q := fun _ h => h
  refine gd_r E K 2 (pc' := 2) (lv' := [(0, .ref 0), (1, .int x), (2, .int y)]) (st' := [.int y, .int x]) (w' := w) rfl ?_
  refine gd_cS E hA (av := [.int x, .int y]) (rest := []) (c2_has hinj x y _) (K.1 2 (.invokestatic 48, 0) rfl).1 ml_G_48 cv_S_has ⟨Nat.le_of_ble_eq_true rfl, Nat.le_of_ble_eq_true rfl⟩ ⟨Nat.zero_le _, Nat.zero_le _⟩ rfl (Nat.le_of_ble_eq_true rfl) ?_
  refine gd_r E K 1 (pc' := if (gm_has x y) = 0 then 21 else 8) (lv' := [(0, .ref 0), (1, .int x), (2, .int y)]) (st' := []) (w' := w) rfl ?_
  refine gd_ite (fun h1 => ?_) (fun h1 => ?_)
  · refine gd_r E K 1 (pc' := 22) (lv' := [(0, .ref 0), (1, .int x), (2, .int y)]) (st' := [.int (-1)]) (w' := w) rfl ?_
    exact gd_iretp E hr hlk (K.1 22 (.ireturn, 0) rfl).1 (gs_cp_same hC (by rw [gs_kindv, if_pos h1]))
  · obtain ⟨a, b, ha, hb, rfl, rfl⟩ := gm_has_1 h1
    refine gd_r E K 4 (pc' := 14) (lv' := [(0, .ref 0), (1, .int (nI a)), (2, .int (nI b))]) (st' := [.int (nI b), .int (nI a), .ref 1]) (w' := w) rfl ?_
    refine gd_cS E hA (av := [.int (nI a), .int (nI b)]) (rest := [.ref 1]) (c2_at hinj (nI a) (nI b) w) (K.1 14 (.invokestatic 57, 0) rfl).1 ml_G_57 cv_S_at ⟨Nat.le_of_ble_eq_true rfl, Nat.le_of_ble_eq_true rfl⟩ ⟨Nat.zero_le _, Nat.zero_le _⟩ rfl (Nat.le_of_ble_eq_true rfl) ?_
    refine gd_ialdv E (K.1 17 (.iaload, 0) rfl).1 (j := 8 * b + a) (by decide) (rfl) (gm_at_eq a b) (by omega) (by decide) (v := nI (gs_k S (8 * b + a))) ((hC.2.2.1 (8 * b + a) (by omega)).1) ?_
    refine gd_r E K 1 (pc' := 22) (lv' := [(0, .ref 0), (1, .int (nI a)), (2, .int (nI b))]) (st' := [.int (nI (gs_k S (8 * b + a)))]) (w' := w) rfl ?_
    exact gd_iretp E hr hlk (K.1 22 (.ireturn, 0) rfl).1 (gs_cp_same hC (by rw [gs_kindv, if_neg h1, gm_at_eq, nI_clamp (by omega)]))
set_option maxRecDepth 100000 in
theorem c3_Gahead {l : Launch} {D : va_G} {tC : FieldType → ClassId} {ad : Nat → Nat} (hinj : ∀ i j, ad i = ad j → i = j) {S : gs_T} {o : Nat → Nat} (w : gd_W) (hC : gr_C w S o) (hv : ∀ k, gs_alive S k → gv_way S k) (d n : Int32) : gd_Cp l D tC ad 45 3 68 y_G_ahead c_G_ahead 4 (some .int) [.ref 0, .int d, .int n] w (gs_cp S (.int (gs_aheadv S d n)) w) := by
  refine gd_Cp_of rfl hinj (Nat.le_of_ble_eq_true rfl) ?_
  intro p e s m args below meth c E hr hlk
  have K := k_G_ahead
  have hA : ∀ q, gd_A ad 45 s.heap.size q → gd_A ad 45 s.heap.size q := fun _ h => h
  refine gd_r E K 3 (pc' := 5) (lv' := [(0, .ref 0), (1, .int d), (2, .int n)]) (st' := [.int d, .ref 2]) (w' := w) rfl ?_
  refine gd_cVp E hA (av := [.int d]) (rest := []) (c3_find hinj w hC.1 d) (K.1 5 (.invokevirtual 104, 0) rfl).1 ml_G_104 cv_L_find (by decide) rfl ⟨Nat.le_of_ble_eq_true rfl, Nat.le_of_ble_eq_true rfl⟩ ⟨Nat.zero_le _, Nat.zero_le _⟩ rfl (Nat.le_of_ble_eq_true rfl) (fun r9 w9 h9 => ?_)
  obtain ⟨rfl, ⟨ix, x, hi, hd, rfl⟩ | ⟨hno, rfl⟩⟩ := h9
  · obtain ⟨hlix, h6ix, hqix, hrix, Eix, hEix⟩ := hC.1.got hi
    have hal := gs_al_at hi
    refine gd_r E K 4 (pc' := 14) (lv' := [(0, .ref 0), (1, .int d), (2, .int n), (3, .ref (4 + 3 * (o ix)))]) (st' := [.int n]) (w' := w) rfl ?_
    refine gd_r E K 1 (pc' := if 0 ≤ n then 19 else 17) (lv' := [(0, .ref 0), (1, .int d), (2, .int n), (3, .ref (4 + 3 * (o ix)))]) (st' := []) (w' := w) rfl ?_
    refine gd_ite (fun h1 => ?_) (fun h1 => ?_)
    · obtain ⟨j, hj, rfl⟩ := nI_of (Int32.not_lt.mpr h1)
      refine gd_r E K 2 (pc' := 21) (lv' := [(0, .ref 0), (1, .int d), (2, .int (nI j)), (3, .ref (4 + 3 * (o ix)))]) (st' := [.int (nI j), .ref (4 + 3 * (o ix))]) (w' := w) rfl ?_
      refine gd_cV E hA (av := [.int (nI j)]) (rest := []) (c3_placeAfter hinj w (o ix) hqix x hEix (hv x hal) j hj) (K.1 21 (.invokevirtual 192, 0) rfl).1 ml_G_192 cv_D_placeAfter (by omega) (gd_shd hqix) ⟨Nat.le_of_ble_eq_true rfl, Nat.le_of_ble_eq_true rfl⟩ ⟨Nat.zero_le _, Nat.zero_le _⟩ rfl (Nat.le_of_ble_eq_true rfl) ?_
      exact gd_iretp E hr hlk (K.1 24 (.ireturn, 0) rfl).1 (gs_cp_same hC (by rw [gs_aheadv, if_pos ⟨by rw [hd]; exact gs_isd_of hC.2.1.2 hal, Int32.not_lt.mpr h1⟩, hd, nI_clamp (by have := hal.1; have := hC.2.1.2; omega), nI_clamp hj]))
    · refine gd_r E K 1 (pc' := 18) (lv' := [(0, .ref 0), (1, .int d), (2, .int n), (3, .ref (4 + 3 * (o ix)))]) (st' := [.int (-1)]) (w' := w) rfl ?_
      exact gd_iretp E hr hlk (K.1 18 (.ireturn, 0) rfl).1 (gs_cp_same hC (by rw [gs_aheadv, if_neg (fun z => h1 (Int32.not_lt.mp z.2))]))
  · have hisd := gs_isd_no hC.2.1.2 hno
    refine gd_r E K 4 (pc' := 18) (lv' := [(0, .ref 0), (1, .int d), (2, .int n), (3, .null)]) (st' := [.int (-1)]) (w' := w) rfl ?_
    exact gd_iretp E hr hlk (K.1 18 (.ireturn, 0) rfl).1 (gs_cp_same hC (by rw [gs_aheadv, if_neg (fun z => by rw [hisd] at z; cases z.1)]))
set_option maxRecDepth 100000 in
theorem c3_Gunits {l : Launch} {D : va_G} {tC : FieldType → ClassId} {ad : Nat → Nat} (hinj : ∀ i j, ad i = ad j → i = j) {S : gs_T} {o : Nat → Nat} (w : gd_W) (hC : gr_C w S o) (hun : gs_out S = gs_thr S + gs_sum (gs_u S) (gs_made S)) (what : Int32) : gd_Cp l D tC ad 45 0 0 y_G_units c_G_units 2 (some .int) [.ref 0, .int what] w (gs_cp S (.int (gs_unitv S what)) w) := by
  refine gd_Cp_of rfl hinj (Nat.le_of_ble_eq_true rfl) ?_
  intro p e s m args below meth c E hr hlk
  have K := k_G_units
  have hA : ∀ q, gd_A ad 45 s.heap.size q → gd_A ad 45 s.heap.size q := fun _ h => h
  refine gd_r E K 1 (pc' := 1) (lv' := [(0, .ref 0), (1, .int what)]) (st' := [.int what]) (w' := w) rfl ?_
  refine gd_r E K 1 (pc' := if what = 0 then 4 else 9) (lv' := [(0, .ref 0), (1, .int what)]) (st' := []) (w' := w) rfl ?_
  refine gd_ite (fun h1 => ?_) (fun h1 => ?_)
  · refine gd_r E K 2 (pc' := 8) (lv' := [(0, .ref 0), (1, .int what)]) (st' := [.int (w.1 0 6)]) (w' := w) rfl ?_
    refine gd_cg (lv' := [(0, .ref 0), (1, .int what)]) (st' := [.int (nI (gs_out S))]) (w' := w) ?_ (rfl) (by simp only [hC.2.2.2.2.2.1]) rfl
    exact gd_iretp E hr hlk (K.1 8 (.ireturn, 0) rfl).1 (gs_cp_same hC (by rw [gs_unitv, if_pos h1]))
  · refine gd_r E K 2 (pc' := 11) (lv' := [(0, .ref 0), (1, .int what)]) (st' := [.int 1, .int what]) (w' := w) rfl ?_
    refine gd_r E K 1 (pc' := if what = 1 then 14 else 21) (lv' := [(0, .ref 0), (1, .int what)]) (st' := []) (w' := w) rfl ?_
    refine gd_ite (fun h2 => ?_) (fun h2 => ?_)
    · refine gd_r E K 3 (pc' := 30) (lv' := [(0, .ref 0), (1, .int what)]) (st' := [.int (w.1 0 7)]) (w' := w) rfl ?_
      refine gd_cg (lv' := [(0, .ref 0), (1, .int what)]) (st' := [.int (nI (gs_thr S))]) (w' := w) ?_ (rfl) (by simp only [hC.2.2.2.2.2.2.1]) rfl
      exact gd_iretp E hr hlk (K.1 30 (.ireturn, 0) rfl).1 (gs_cp_same hC (by rw [gs_unitv, if_neg h1, if_pos h2]))
    · refine gd_r E K 5 (pc' := 30) (lv' := [(0, .ref 0), (1, .int what)]) (st' := [.int ((w.1 0 6) - (w.1 0 7))]) (w' := w) rfl ?_
      refine gd_cg (lv' := [(0, .ref 0), (1, .int what)]) (st' := [.int ((nI (gs_out S)) - (nI (gs_thr S)))]) (w' := w) ?_ (rfl) (by simp only [hC.2.2.2.2.2.1, hC.2.2.2.2.2.2.1]) rfl
      exact gd_iretp E hr hlk (K.1 30 (.ireturn, 0) rfl).1 (gs_cp_same hC (by rw [gs_unitv, if_neg h1, if_neg h2, pk_sub (by omega)]; congr 2; omega))
theorem gs_look_no {S : gs_T} {d what : Int32} (h : ¬ (gs_isd S d = true ∧ ¬ what < 0 ∧ ¬ 4 < what)) : gs_lookc S d what = 1 := by rw [gs_lookc, if_neg h]
theorem gs_look_yes {S : gs_T} {d what : Int32} (h : gs_isd S d = true ∧ ¬ what < 0 ∧ ¬ 4 < what) : gs_lookc S d what = 0 := by rw [gs_lookc, if_pos h]
theorem dsw_G_look : decode c_G_look 24 = .ok (.tableswitch 61 0 4 #[36, 41, 46, 51, 56], 36) := by decide +kernel
set_option maxRecDepth 100000 in
theorem c3_Glook {l : Launch} (hls : l.stackTraces = false) {D : va_G} {tC : FieldType → ClassId} {ad : Nat → Nat} (hinj : ∀ i j, ad i = ad j → i = j) {S : gs_T} {o : Nat → Nat} (w : gd_W) (hC : gr_C w S o) (d what : Int32) : gd_Cx l D tC ad 45 6 82 y_G_look c_G_look 4 (some .int) [.ref 0, .int d, .int what] w (fun r w' => gs_lookc S d what = 0 ∧ gs_cp S (.int (gs_lookv S d what)) w r w') (fun E w' => gs_lookc S d what = 1 ∧ gs_cx S "java/lang/IllegalArgumentException" w E w') := by
  refine gd_Cx_of rfl hinj (Nat.le_of_ble_eq_true rfl) ?_
  intro p e s m args below meth c E X ht hr hlk
  have K := k_G_look
  have hA : ∀ q, gd_A ad 45 s.heap.size q → gd_A ad 45 s.heap.size q := fun _ h => h
  refine gd_r E K 3 (pc' := 5) (lv' := [(0, .ref 0), (1, .int d), (2, .int what)]) (st' := [.int d, .ref 2]) (w' := w) rfl ?_
  refine gd_cVp E hA (av := [.int d]) (rest := []) (c3_find hinj w hC.1 d) (K.1 5 (.invokevirtual 104, 0) rfl).1 ml_G_104 cv_L_find (by decide) rfl ⟨Nat.le_of_ble_eq_true rfl, Nat.le_of_ble_eq_true rfl⟩ ⟨Nat.zero_le _, Nat.zero_le _⟩ rfl (Nat.le_of_ble_eq_true rfl) (fun r9 w9 h9 => ?_)
  obtain ⟨rfl, ⟨ix, x, hi, hd, rfl⟩ | ⟨hno, rfl⟩⟩ := h9
  · obtain ⟨hlix, h6ix, hqix, hrix, Eix, hEix⟩ := hC.1.got hi
    have hal := gs_al_at hi
    refine gd_r E K 4 (pc' := 24) (lv' := [(0, .ref 0), (1, .int d), (2, .int what), (3, .ref (4 + 3 * (o ix)))]) (st' := [.int what]) (w' := w) rfl ?_
    obtain ⟨⟨e2, ed⟩, ⟨e3, ec⟩, ⟨e4, eu⟩, ⟨e5, ep⟩, ⟨e6, eE⟩, e7, ⟨e8, ei⟩, ⟨e9, ea⟩, em, en⟩ := hEix
    have hEix : gr_E w S (gs_aw S) (o ix) x Eix := ⟨⟨e2, ed⟩, ⟨e3, ec⟩, ⟨e4, eu⟩, ⟨e5, ep⟩, ⟨e6, eE⟩, e7, ⟨e8, ei⟩, ⟨e9, ea⟩, em, en⟩
    have hisd : gs_isd S d = true := by rw [hd]; exact gs_isd_of hC.2.1.2 hal
    have hcl : d.toNatClampNeg = x := by rw [hd]; exact nI_clamp (by omega)
    by_cases hw : what < 0 ∨ 4 < what
    · refine gd_tabOut E dsw_G_look (tgt := 85) (by rcases hw with h | h; (left; simpa using Int32.lt_iff_toInt_lt.mp h); (right; simpa using Int32.lt_iff_toInt_lt.mp h)) rfl ?_
      exact gd_thr E X ht hlk hls xa_IAE st_190 (K.1 85 (.new 67, 0) rfl).1 (K.1 88 (.dup, 0) rfl).1 (K.1 89 (.ldc 190, 0) rfl).1 (K.1 91 (.invokespecial 71, 0) rfl).1 (K.1 94 (.athrow, 0) rfl).1 (by decide) (⟨gs_look_no (fun z => hw.elim z.2.1 z.2.2), rfl, ⟨o, hC⟩, gf_c.refl w⟩)
    · have hok : gs_isd S d = true ∧ ¬ what < 0 ∧ ¬ 4 < what := ⟨hisd, fun h => hw (Or.inl h), fun h => hw (Or.inr h)⟩
      obtain ⟨j, hj, rfl⟩ := nI_of hok.2.1
      have hj4 : j ≤ 4 := by have h4 := hok.2.2; rw [show (4 : Int32) = nI 4 from rfl, nI_ltI (by decide) hj] at h4; omega
      rcases (by omega : j = 0 ∨ j = 1 ∨ j = 2 ∨ j = 3 ∨ j = 4) with rfl | rfl | rfl | rfl | rfl
      · refine gd_tabIn E dsw_G_look (tgt := 60) (by decide) (by decide) (off := 36) rfl rfl ?_
        refine gd_r E K 1 (pc' := 61) (lv' := [(0, .ref 0), (1, .int d), (2, .int (nI 0)), (3, .ref (4 + 3 * (o ix)))]) (st' := [.ref (4 + 3 * (o ix))]) (w' := w) rfl ?_
        refine gd_getd E K (K.1 61 (.getfield 119, 0) rfl).1 rfl (by omega) (gd_shd hqix) rfl (v := .int (nI (gs_c S x))) (by show Value.int _ = Value.int _; rw [e3]) ?_
        refine gd_xr ?_
        exact gd_iretp E hr hlk (K.1 64 (.ireturn, 0) rfl).1 (⟨gs_look_yes hok, gs_cp_same hC (by rw [gs_lookv, if_pos hok, hcl]; first | rfl | (rw [gs_pr_sub]; rfl))⟩)
      · refine gd_tabIn E dsw_G_look (tgt := 65) (by decide) (by decide) (off := 41) rfl rfl ?_
        refine gd_r E K 1 (pc' := 66) (lv' := [(0, .ref 0), (1, .int d), (2, .int (nI 1)), (3, .ref (4 + 3 * (o ix)))]) (st' := [.ref (4 + 3 * (o ix))]) (w' := w) rfl ?_
        refine gd_getd E K (K.1 66 (.getfield 137, 0) rfl).1 rfl (by omega) (gd_shd hqix) rfl (v := .int (nI (gs_u S x))) (by show Value.int _ = Value.int _; rw [e4]) ?_
        refine gd_xr ?_
        exact gd_iretp E hr hlk (K.1 69 (.ireturn, 0) rfl).1 (⟨gs_look_yes hok, gs_cp_same hC (by rw [gs_lookv, if_pos hok, hcl]; first | rfl | (rw [gs_pr_sub]; rfl))⟩)
      · refine gd_tabIn E dsw_G_look (tgt := 70) (by decide) (by decide) (off := 46) rfl rfl ?_
        refine gd_r E K 1 (pc' := 71) (lv' := [(0, .ref 0), (1, .int d), (2, .int (nI 2)), (3, .ref (4 + 3 * (o ix)))]) (st' := [.ref (4 + 3 * (o ix))]) (w' := w) rfl ?_
        refine gd_cV E hA (av := []) (rest := []) (c3_left hinj w (o ix) hqix x hEix) (K.1 71 (.invokevirtual 187, 0) rfl).1 ml_G_187 cv_D_movesLeft (by omega) (gd_shd hqix) ⟨Nat.le_of_ble_eq_true rfl, Nat.le_of_ble_eq_true rfl⟩ ⟨Nat.zero_le _, Nat.zero_le _⟩ rfl (Nat.le_of_ble_eq_true rfl) ?_
        refine gd_xr ?_
        exact gd_iretp E hr hlk (K.1 74 (.ireturn, 0) rfl).1 (⟨gs_look_yes hok, gs_cp_same hC (by rw [gs_lookv, if_pos hok, hcl]; first | rfl | (rw [gs_pr_sub]; rfl))⟩)
      · refine gd_tabIn E dsw_G_look (tgt := 75) (by decide) (by decide) (off := 51) rfl rfl ?_
        refine gd_r E K 1 (pc' := 76) (lv' := [(0, .ref 0), (1, .int d), (2, .int (nI 3)), (3, .ref (4 + 3 * (o ix)))]) (st' := [.ref (4 + 3 * (o ix))]) (w' := w) rfl ?_
        refine gd_getd E K (K.1 76 (.getfield 142, 0) rfl).1 rfl (by omega) (gd_shd hqix) rfl (v := .int (gs_pr (gs_i S x))) (by show Value.int _ = Value.int _; rw [e8]) ?_
        refine gd_xr ?_
        exact gd_iretp E hr hlk (K.1 79 (.ireturn, 0) rfl).1 (⟨gs_look_yes hok, gs_cp_same hC (by rw [gs_lookv, if_pos hok, hcl]; first | rfl | (rw [gs_pr_sub]; rfl))⟩)
      · refine gd_tabIn E dsw_G_look (tgt := 80) (by decide) (by decide) (off := 56) rfl rfl ?_
        refine gd_r E K 1 (pc' := 81) (lv' := [(0, .ref 0), (1, .int d), (2, .int (nI 4)), (3, .ref (4 + 3 * (o ix)))]) (st' := [.ref (4 + 3 * (o ix))]) (w' := w) rfl ?_
        refine gd_getd E K (K.1 81 (.getfield 145, 0) rfl).1 rfl (by omega) (gd_shd hqix) rfl (v := .int (gm_nO (gs_aw S x))) (by show Value.int _ = Value.int _; rw [e9]) ?_
        refine gd_xr ?_
        exact gd_iretp E hr hlk (K.1 84 (.ireturn, 0) rfl).1 (⟨gs_look_yes hok, gs_cp_same hC (by rw [gs_lookv, if_pos hok, hcl]; first | rfl | (rw [gs_pr_sub]; rfl))⟩)
  · have hisd := gs_isd_no hC.2.1.2 hno
    refine gd_r E K 3 (pc' := 13) (lv' := [(0, .ref 0), (1, .int d), (2, .int what), (3, .null)]) (st' := []) (w' := w) rfl ?_
    exact gd_thr E X ht hlk hls xa_IAE st_148 (K.1 13 (.new 67, 0) rfl).1 (K.1 16 (.dup, 0) rfl).1 (K.1 17 (.ldc 148, 0) rfl).1 (K.1 19 (.invokespecial 71, 0) rfl).1 (K.1 22 (.athrow, 0) rfl).1 (by decide) (⟨gs_look_no (fun z => by rw [hisd] at z; cases z.1), rfl, ⟨o, hC⟩, gf_c.refl w⟩)
set_option maxRecDepth 100000 in
theorem c3_Gshare {l : Launch} (hls : l.stackTraces = false) {D : va_G} {tC : FieldType → ClassId} {ad : Nat → Nat} (hinj : ∀ i j, ad i = ad j → i = j) {S : gs_T} {o : Nat → Nat} (w : gd_W) (hC : gr_C w S o) (d what : Int32) : gd_Cx l D tC ad 45 6 82 y_G_share c_G_share 4 (some .long) [.ref 0, .int d, .int what] w (fun r w' => gs_lookc S d what = 0 ∧ gs_cp S (.long (gs_sharev S d what)) w r w') (fun E w' => gs_lookc S d what = 1 ∧ gs_cx S "java/lang/IllegalArgumentException" w E w') := by
  refine gd_Cx_of rfl hinj (Nat.le_of_ble_eq_true rfl) ?_
  intro p e s m args below meth c E X ht hr hlk
  have K := k_G_share
  have hA : ∀ q, gd_A ad 45 s.heap.size q → gd_A ad 45 s.heap.size q := fun _ h => h
  refine gd_r E K 3 (pc' := 5) (lv' := [(0, .ref 0), (1, .int d), (2, .int what)]) (st' := [.int d, .ref 2]) (w' := w) rfl ?_
  refine gd_cVp E hA (av := [.int d]) (rest := []) (c3_find hinj w hC.1 d) (K.1 5 (.invokevirtual 104, 0) rfl).1 ml_G_104 cv_L_find (by decide) rfl ⟨Nat.le_of_ble_eq_true rfl, Nat.le_of_ble_eq_true rfl⟩ ⟨Nat.zero_le _, Nat.zero_le _⟩ rfl (Nat.le_of_ble_eq_true rfl) (fun r9 w9 h9 => ?_)
  obtain ⟨rfl, ⟨ix, x, hi, hd, rfl⟩ | ⟨hno, rfl⟩⟩ := h9
  · obtain ⟨hlix, h6ix, hqix, hrix, Eix, hEix⟩ := hC.1.got hi
    have hal := gs_al_at hi
    refine gd_r E K 4 (pc' := 14) (lv' := [(0, .ref 0), (1, .int d), (2, .int what), (3, .ref (4 + 3 * (o ix)))]) (st' := [.int what]) (w' := w) rfl ?_
    have e5 := hEix.2.2.2.1.1
    have en := hEix.2.2.2.2.2.2.2.2.2
    have hisd : gs_isd S d = true := by rw [hd]; exact gs_isd_of hC.2.1.2 hal
    have hcl : d.toNatClampNeg = x := by rw [hd]; exact nI_clamp (by have := hEix.1.2; omega)
    refine gd_r E K 1 (pc' := if what < 0 then 22 else 17) (lv' := [(0, .ref 0), (1, .int d), (2, .int what), (3, .ref (4 + 3 * (o ix)))]) (st' := []) (w' := w) rfl ?_
    refine gd_ite (fun h1 => ?_) (fun h1 => ?_)
    · exact gd_thr E X ht hlk hls xa_IAE st_195 (K.1 22 (.new 67, 0) rfl).1 (K.1 25 (.dup, 0) rfl).1 (K.1 26 (.ldc 195, 0) rfl).1 (K.1 28 (.invokespecial 71, 0) rfl).1 (K.1 31 (.athrow, 0) rfl).1 (by decide) (⟨gs_look_no (fun z => z.2.1 h1), rfl, ⟨o, hC⟩, gf_c.refl w⟩)
    · refine gd_r E K 2 (pc' := 19) (lv' := [(0, .ref 0), (1, .int d), (2, .int what), (3, .ref (4 + 3 * (o ix)))]) (st' := [.int 4, .int what]) (w' := w) rfl ?_
      refine gd_r E K 1 (pc' := if what ≤ 4 then 32 else 22) (lv' := [(0, .ref 0), (1, .int d), (2, .int what), (3, .ref (4 + 3 * (o ix)))]) (st' := []) (w' := w) rfl ?_
      refine gd_ite (fun h2 => ?_) (fun h2 => ?_)
      · have hok : gs_isd S d = true ∧ ¬ what < 0 ∧ ¬ 4 < what := ⟨hisd, h1, Int32.not_lt.mpr h2⟩
        refine gd_r E K 2 (pc' := 34) (lv' := [(0, .ref 0), (1, .int d), (2, .int what), (3, .ref (4 + 3 * (o ix)))]) (st' := [.int 4, .int what]) (w' := w) rfl ?_
        refine gd_r E K 1 (pc' := if what = 4 then 37 else 45) (lv' := [(0, .ref 0), (1, .int d), (2, .int what), (3, .ref (4 + 3 * (o ix)))]) (st' := []) (w' := w) rfl ?_
        refine gd_ite (fun h3 => ?_) (fun h3 => ?_)
        · refine gd_r E K 1 (pc' := 38) (lv' := [(0, .ref 0), (1, .int d), (2, .int what), (3, .ref (4 + 3 * (o ix)))]) (st' := [.ref (4 + 3 * (o ix))]) (w' := w) rfl ?_
          refine gd_getd E K (K.1 38 (.getfield 197, 0) rfl).1 rfl (by omega) (gd_shd hqix) rfl (v := .int (nI (gs_p S x))) (by show Value.int _ = Value.int _; rw [e5]) ?_
          refine gd_r E K 2 (pc' := 51) (lv' := [(0, .ref 0), (1, .int d), (2, .int what), (3, .ref (4 + 3 * (o ix)))]) (st' := [.long ((nI (gs_p S x)).toInt64)]) (w' := w) rfl ?_
          refine gd_xr ?_
          exact gd_lretp E hr hlk (K.1 51 (.lreturn, 0) rfl).1 (⟨gs_look_yes hok, gs_cp_same hC (by rw [gs_sharev, if_pos hok, if_pos h3, hcl])⟩)
        · obtain ⟨j, hj, rfl⟩ := nI_of h1
          have hj4 : j < 4 := by
            have h4 := hok.2.2
            rw [show (4 : Int32) = nI 4 from rfl, nI_ltI (by decide) hj] at h4
            rw [show (4 : Int32) = nI 4 from rfl, nI_eq hj (by decide)] at h3
            omega
          refine gd_r E K 1 (pc' := 46) (lv' := [(0, .ref 0), (1, .int d), (2, .int (nI j)), (3, .ref (4 + 3 * (o ix)))]) (st' := [.ref (4 + 3 * (o ix))]) (w' := w) rfl ?_
          refine gd_getd E K (K.1 46 (.getfield 200, 0) rfl).1 rfl (by omega) (gd_shd hqix) rfl (v := .ref (6 + 3 * (o ix))) (gd_avd1 _ hqix) ?_
          refine gd_r E K 1 (pc' := 50) (lv' := [(0, .ref 0), (1, .int d), (2, .int (nI j)), (3, .ref (4 + 3 * (o ix)))]) (st' := [.int (nI j), .ref (6 + 3 * (o ix))]) (w' := w) rfl ?_
          refine gd_laldv E (K.1 50 (.laload, 0) rfl).1 (j := j) (by omega) (gd_shd1 hqix) (rfl) (hj4) (by decide) (v := gs_sh S x j) (en j hj4) ?_
          refine gd_xr ?_
          exact gd_lretp E hr hlk (K.1 51 (.lreturn, 0) rfl).1 (⟨gs_look_yes hok, gs_cp_same hC (by rw [gs_sharev, if_pos hok, if_neg h3, hcl, nI_clamp hj])⟩)
      · exact gd_thr E X ht hlk hls xa_IAE st_195 (K.1 22 (.new 67, 0) rfl).1 (K.1 25 (.dup, 0) rfl).1 (K.1 26 (.ldc 195, 0) rfl).1 (K.1 28 (.invokespecial 71, 0) rfl).1 (K.1 31 (.athrow, 0) rfl).1 (by decide) (⟨gs_look_no (fun z => h2 (Int32.not_lt.mp z.2.2)), rfl, ⟨o, hC⟩, gf_c.refl w⟩)
  · have hisd := gs_isd_no hC.2.1.2 hno
    refine gd_r E K 3 (pc' := 22) (lv' := [(0, .ref 0), (1, .int d), (2, .int what), (3, .null)]) (st' := []) (w' := w) rfl ?_
    exact gd_thr E X ht hlk hls xa_IAE st_195 (K.1 22 (.new 67, 0) rfl).1 (K.1 25 (.dup, 0) rfl).1 (K.1 26 (.ldc 195, 0) rfl).1 (K.1 28 (.invokespecial 71, 0) rfl).1 (K.1 31 (.athrow, 0) rfl).1 (by decide) (⟨gs_look_no (fun z => by rw [hisd] at z; cases z.1), rfl, ⟨o, hC⟩, gf_c.refl w⟩)
set_option maxRecDepth 100000 in
theorem c3_Greading {l : Launch} (hls : l.stackTraces = false) {D : va_G} {tC : FieldType → ClassId} {ad : Nat → Nat} (hinj : ∀ i j, ad i = ad j → i = j) {S : gs_T} {o : Nat → Nat} (w : gd_W) (hC : gr_C w S o) (i what : Int32) : gd_Cx l D tC ad 45 6 82 y_G_reading c_G_reading 3 (some .int) [.ref 0, .int i, .int what] w (fun r w' => gs_readc S i what = 0 ∧ gs_cp S (.int (gs_readv S i what)) w r w') (fun E w' => gs_readc S i what = 1 ∧ gs_cx S "java/lang/IndexOutOfBoundsException" w E w') := by
  refine gd_Cx_of rfl hinj (Nat.le_of_ble_eq_true rfl) ?_
  intro p e s m args below meth c E X ht hr hlk
  have K := k_G_reading
  have hA : ∀ q, gd_A ad 45 s.heap.size q → gd_A ad 45 s.heap.size q := fun _ h => h
  obtain ⟨⟨r1, r2⟩, h, hh, r3, r4⟩ := hC.2.2.2.2.2.2.2
  refine gd_r E K 4 (pc' := 6) (lv' := [(0, .ref 0), (1, .int i), (2, .int what)]) (st' := [.int what, .int i, .ref 25]) (w' := w) rfl ?_
  refine gd_cV E hA (av := [.int i, .int what]) (rest := []) (c3_has hinj w _ r1 i what) (K.1 6 (.invokevirtual 204, 0) rfl).1 ml_G_204 cv_R_has (by decide) (rfl) ⟨Nat.le_of_ble_eq_true rfl, Nat.le_of_ble_eq_true rfl⟩ ⟨Nat.zero_le _, Nat.zero_le _⟩ rfl (Nat.le_of_ble_eq_true rfl) ?_
  have h43 : (¬ (4 : Int32) ≤ what) ↔ ¬ 3 < what := gs_43 what
  by_cases hb : ¬ i < 0 ∧ ¬ nI (gs_rd S).length ≤ i ∧ ¬ what < 0 ∧ ¬ 4 ≤ what
  · rw [decide_eq_true hb]
    refine gd_r E K 1 (pc' := if (gs_b (true)) = 0 then 12 else 22) (lv' := [(0, .ref 0), (1, .int i), (2, .int what)]) (st' := []) (w' := w) rfl ?_
    refine gd_if (by decide) ?_
    refine gd_r E K 4 (pc' := 28) (lv' := [(0, .ref 0), (1, .int i), (2, .int what)]) (st' := [.int what, .int i, .ref 25]) (w' := w) rfl ?_
    have hok : ¬ i < 0 ∧ ¬ nI (gs_rd S).length ≤ i ∧ ¬ what < 0 ∧ ¬ 3 < what := ⟨hb.1, hb.2.1, hb.2.2.1, h43.mp hb.2.2.2⟩
    obtain ⟨j, hj, rfl⟩ := nI_of hb.1
    obtain ⟨k, hk, rfl⟩ := nI_of hb.2.2.1
    have hjl : j < (gs_rd S).length := by have h2 := hb.2.1; rw [nI_leI (by omega) hj] at h2; omega
    have hk4 : k < 4 := by have h2 := hb.2.2.2; rw [show (4 : Int32) = nI 4 from rfl, nI_leI (by decide) hk] at h2; omega
    have hx := List.getElem?_eq_getElem hjl
    obtain ⟨k1, k2, k3, k4⟩ := r4 j _ hx
    have hget : (gs_rd S).getD j (0, 0, 0, 0) = (gs_rd S)[j] := by rw [List.getD_eq_getElem?_getD, hx]; rfl
    refine gd_cV E hA (av := [.int (nI j), .int (nI k)]) (rest := []) (c3_get hinj w h j k r3 (by omega) (by omega) hk4) (K.1 28 (.invokevirtual 210, 0) rfl).1 ml_G_210 cv_R_get (by decide) (rfl) ⟨Nat.le_of_ble_eq_true rfl, Nat.le_of_ble_eq_true rfl⟩ ⟨Nat.zero_le _, Nat.zero_le _⟩ rfl (Nat.le_of_ble_eq_true rfl) ?_
    refine gd_xr ?_
    refine gd_iretp E hr hlk (K.1 31 (.ireturn, 0) rfl).1 ⟨by rw [gs_readc, if_pos hok], gs_cp_same hC ?_⟩
    rw [gs_readv, if_pos hok, nI_clamp hj, hget]
    dsimp only
    rcases (by omega : k = 0 ∨ k = 1 ∨ k = 2 ∨ k = 3) with rfl | rfl | rfl | rfl
    · rw [if_pos (by decide), ← k1]; rfl
    · rw [if_neg (by decide), if_pos (by decide), ← k2]
    · rw [if_neg (by decide), if_neg (by decide), if_pos (by decide), ← k3]
    · rw [if_neg (by decide), if_neg (by decide), if_neg (by decide), ← k4]
  · rw [decide_eq_false hb]
    refine gd_r E K 1 (pc' := if (gs_b (false)) = 0 then 12 else 22) (lv' := [(0, .ref 0), (1, .int i), (2, .int what)]) (st' := []) (w' := w) rfl ?_
    refine gd_it (by decide) ?_
    exact gd_thr E X ht hlk hls xa_IOB st_207 (K.1 12 (.new 205, 0) rfl).1 (K.1 15 (.dup, 0) rfl).1 (K.1 16 (.ldc 207, 0) rfl).1 (K.1 18 (.invokespecial 209, 0) rfl).1 (K.1 21 (.athrow, 0) rfl).1 (by decide) (⟨by rw [gs_readc, if_neg (fun z => hb ⟨z.1, z.2.1, z.2.2.1, h43.mpr z.2.2.2⟩)], rfl, ⟨o, hC⟩, gf_c.refl w⟩)
