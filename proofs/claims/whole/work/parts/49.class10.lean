set_option maxRecDepth 100000 in
theorem c3_Gsend {l : Launch} (hls : l.stackTraces = false) {D : va_G} {tC : FieldType → ClassId} {ad : Nat → Nat} (hinj : ∀ i j, ad i = ad j → i = j) {S : gs_T} {o : Nat → Nat} (w : gd_W) (hC : gr_C w S o) (hG : gs_Good S) (d x y : Int32) : gd_Cx l D tC ad 45 6 94 y_G_send c_G_send 7 (some .int) [.ref 0, .int d, .int x, .int y] w (fun r w' => (gs_send S d x y).1 = 0 ∧ gs_cp (gs_send S d x y).2.2 (.int (nI (gs_send S d x y).2.1)) w r w') (fun E w' => ((gs_send S d x y).1 = 1 ∧ gs_cx S "java/lang/IllegalArgumentException" w E w') ∨ ((gs_send S d x y).1 = 2 ∧ gs_cx S "java/lang/IllegalStateException" w E w') ∨ ((gs_send S d x y).1 = 3 ∧ gs_cx S "java/util/NoSuchElementException" w E w')) := by
  refine gd_Cx_of rfl hinj (Nat.le_of_ble_eq_true rfl) ?_
  intro p e s m args below meth c E X ht hr hlk
  have K := k_G_send
  have hA : ∀ q, gd_A ad 45 s.heap.size q → gd_A ad 45 s.heap.size q := fun _ h => h
  refine gd_r E K 3 (pc' := 5) (lv' := [(0, .ref 0), (1, .int d), (2, .int x), (3, .int y)]) (st' := [.int d, .ref 2]) (w' := w) rfl ?_
  refine gd_cVp E hA (av := [.int d]) (rest := []) (c3_find hinj w hC.1 d) (K.1 5 (.invokevirtual 104, 0) rfl).1 ml_G_104 cv_L_find (by decide) rfl ⟨Nat.le_of_ble_eq_true rfl, Nat.le_of_ble_eq_true rfl⟩ ⟨Nat.zero_le _, Nat.zero_le _⟩ rfl (Nat.le_of_ble_eq_true rfl) (fun r9 w9 h9 => ?_)
  obtain ⟨rfl, ⟨ix, k, hi, hd, rfl⟩ | ⟨hno, rfl⟩⟩ := h9
  · obtain ⟨hlix, h6ix, hqix, hrix, Eix, hEix⟩ := hC.1.got hi
    have hal := gs_al_at hi
    refine gd_r E K 5 (pc' := 17) (lv' := [(0, .ref 0), (1, .int d), (2, .int x), (3, .int y), (4, .ref (4 + 3 * (o ix)))]) (st' := [.int y, .int x]) (w' := w) rfl ?_
    have hisd : gs_isd S d = true := by rw [hd]; exact gs_isd_of hC.2.1.2 hal
    have hcl : d.toNatClampNeg = k := by rw [hd]; exact nI_clamp (by have := hEix.1.2; omega)
    refine gd_cS E hA (av := [.int x, .int y]) (rest := []) (c2_has hinj x y _) (K.1 17 (.invokestatic 48, 0) rfl).1 ml_G_48 cv_S_has ⟨Nat.le_of_ble_eq_true rfl, Nat.le_of_ble_eq_true rfl⟩ ⟨Nat.zero_le _, Nat.zero_le _⟩ rfl (Nat.le_of_ble_eq_true rfl) ?_
    refine gd_r E K 1 (pc' := if (gm_has x y) = 0 then 23 else 33) (lv' := [(0, .ref 0), (1, .int d), (2, .int x), (3, .int y), (4, .ref (4 + 3 * (o ix)))]) (st' := []) (w' := w) rfl ?_
    refine gd_ite (fun h1 => ?_) (fun h1 => ?_)
    · exact gd_thr E X ht hlk hls xa_IAE st_107 (K.1 23 (.new 67, 0) rfl).1 (K.1 26 (.dup, 0) rfl).1 (K.1 27 (.ldc 107, 0) rfl).1 (K.1 29 (.invokespecial 71, 0) rfl).1 (K.1 32 (.athrow, 0) rfl).1 (by decide) (Or.inl ⟨by rw [gs_send, if_pos (Or.inr h1)], rfl, ⟨o, hC⟩, gf_c.refl w⟩)
    · have hok : ¬ (gs_isd S d = false ∨ gm_has x y = 0) := by rw [hisd]; rintro (h | h); (cases h); (exact h1 h)
      obtain ⟨a, b, ha, hb, rfl, rfl⟩ := gm_has_1 h1
      have hs : gs_send S d (nI a) (nI b) = if gs_free S k = false then (2, 0, S) else match gs_W S k none (8 * b + a) false with | none => (3, 0, S) | some en => (0, en, gs_route S k en (gs_V S k none (8 * b + a) en)) := by rw [gs_send, if_neg hok, hcl, gm_at_eq, nI_clamp (by omega)]; rfl
      refine gd_r E K 1 (pc' := 35) (lv' := [(0, .ref 0), (1, .int d), (2, .int (nI a)), (3, .int (nI b)), (4, .ref (4 + 3 * (o ix)))]) (st' := [.ref (4 + 3 * (o ix))]) (w' := w) rfl ?_
      refine gd_cV E hA (av := []) (rest := []) (c3_isFree hinj w (o ix) hqix k hEix) (K.1 35 (.invokevirtual 109, 0) rfl).1 ml_G_109 cv_D_isFree (by omega) (gd_shd hqix) ⟨Nat.le_of_ble_eq_true rfl, Nat.le_of_ble_eq_true rfl⟩ ⟨Nat.zero_le _, Nat.zero_le _⟩ rfl (Nat.le_of_ble_eq_true rfl) ?_
      refine gd_cg (lv' := [(0, .ref 0), (1, .int d), (2, .int (nI a)), (3, .int (nI b)), (4, .ref (4 + 3 * (o ix)))]) (st' := [.int (gs_b (gs_free S k))]) (w' := w) ?_ (rfl) (rfl) (rfl)
      cases hfr : gs_free S k with
      | false =>
        refine gd_r E K 1 (pc' := if (gs_b (false)) = 0 then 41 else 51) (lv' := [(0, .ref 0), (1, .int d), (2, .int (nI a)), (3, .int (nI b)), (4, .ref (4 + 3 * (o ix)))]) (st' := []) (w' := w) rfl ?_
        refine gd_it (by decide) ?_
        exact gd_thr E X ht hlk hls xa_ISE st_113 (K.1 41 (.new 86, 0) rfl).1 (K.1 44 (.dup, 0) rfl).1 (K.1 45 (.ldc 113, 0) rfl).1 (K.1 47 (.invokespecial 90, 0) rfl).1 (K.1 50 (.athrow, 0) rfl).1 (by decide) (Or.inr (Or.inl ⟨by rw [hs, hfr]; rfl, rfl, ⟨o, hC⟩, gf_c.refl w⟩))
      | true =>
        refine gd_r E K 1 (pc' := if (gs_b (true)) = 0 then 41 else 51) (lv' := [(0, .ref 0), (1, .int d), (2, .int (nI a)), (3, .int (nI b)), (4, .ref (4 + 3 * (o ix)))]) (st' := []) (w' := w) rfl ?_
        refine gd_if (by decide) ?_
        refine gd_r E K 2 (pc' := 53) (lv' := [(0, .ref 0), (1, .int d), (2, .int (nI a)), (3, .int (nI b)), (4, .ref (4 + 3 * (o ix)))]) (st' := [.int (nI b), .int (nI a)]) (w' := w) rfl ?_
        refine gd_cS E hA (av := [.int (nI a), .int (nI b)]) (rest := []) (c2_at hinj (nI a) (nI b) w) (K.1 53 (.invokestatic 57, 0) rfl).1 ml_G_57 cv_S_at ⟨Nat.le_of_ble_eq_true rfl, Nat.le_of_ble_eq_true rfl⟩ ⟨Nat.zero_le _, Nat.zero_le _⟩ rfl (Nat.le_of_ble_eq_true rfl) ?_
        refine gd_cg (lv' := [(0, .ref 0), (1, .int d), (2, .int (nI a)), (3, .int (nI b)), (4, .ref (4 + 3 * (o ix)))]) (st' := [.int (nI (8 * b + a))]) (w' := w) ?_ (rfl) (by rw [gm_at_eq]; rfl) (rfl)
        refine gd_r E K 4 (pc' := 62) (lv' := [(0, .ref 0), (1, .int d), (2, .int (nI a)), (3, .int (nI b)), (4, .ref (4 + 3 * (o ix))), (5, .int (nI (8 * b + a)))]) (st' := [.null, .ref (4 + 3 * (o ix)), .ref 0]) (w' := w) rfl ?_
        refine gd_cVp E hA (av := [.ref (4 + 3 * (o ix)), .null]) (rest := []) (c3_heed1 hinj w hC hG.1 ix k hi) (K.1 62 (.invokevirtual 115, 0) rfl).1 ml_G_115 cv_G_heedAllBut (by decide) (rfl) ⟨Nat.le_of_ble_eq_true rfl, Nat.le_of_ble_eq_true rfl⟩ ⟨Nat.zero_le _, Nat.zero_le _⟩ rfl (Nat.le_of_ble_eq_true rfl) (fun r9 w2 h9 => ?_)
        obtain ⟨rfl, f2, t2⟩ := h9
        have hC2 := f2.C (by decide) hC
        have g2 := f2.c (by decide)
        obtain ⟨-, -, -, -, E2, hE2⟩ := hC2.1.got hi
        have e3 := hE2.2.1.1
        have hck := hE2.2.1.2
        refine gd_r E K 3 (pc' := 71) (lv' := [(0, .ref 0), (1, .int d), (2, .int (nI a)), (3, .int (nI b)), (4, .ref (4 + 3 * (o ix))), (5, .int (nI (8 * b + a)))]) (st' := [.ref (4 + 3 * (o ix)), .ref 22]) (w' := w2) rfl ?_
        refine gd_getd E K (K.1 71 (.getfield 119, 0) rfl).1 rfl (by omega) (gd_shd hqix) rfl (v := .int (nI (gs_c S k))) (by show Value.int _ = Value.int _; rw [e3]) ?_
        refine gd_r E K 6 (pc' := 86) (lv' := [(0, .ref 0), (1, .int d), (2, .int (nI a)), (3, .int (nI b)), (4, .ref (4 + 3 * (o ix))), (5, .int (nI (8 * b + a)))]) (st' := [.int (nI (8 * b + a)), .ref 22, .long (w2.2.1 0 4), .int (nI (8 * b + a)), .int (nI (gs_c S k)), .ref 22]) (w' := w2) rfl ?_
        refine gd_cVp E hA (av := [.int (nI (8 * b + a))]) (rest := [.long (w2.2.1 0 4), .int (nI (8 * b + a)), .int (nI (gs_c S k)), .ref 22]) (c3_clearFrom hinj w2 _ t2 (8 * b + a) (by omega)) (K.1 86 (.invokevirtual 122, 0) rfl).1 ml_G_122 cv_F_clearFrom (by decide) (rfl) ⟨Nat.le_of_ble_eq_true rfl, Nat.le_of_ble_eq_true rfl⟩ ⟨Nat.zero_le _, Nat.zero_le _⟩ rfl (Nat.le_of_ble_eq_true rfl) (fun r9 w3 h9 => ?_)
        obtain ⟨rfl, f, rfl, hf61, hf1, hf2⟩ := h9
        refine gd_cVp E hA (av := [.int (nI (gs_c S k)), .int (nI (8 * b + a)), .long (w2.2.1 0 4), .int (nI f)]) (rest := []) (c3_search hinj w2 _ t2 (gs_rch S (gs_T2 S (some k) none) (gs_cn S (some k) none) (gs_c S k)) (fun c => gs_k S c = 1) (w2.2.1 0 4) hC2.2.2.2.1 (gs_c S k) (8 * b + a) f hck (by omega) hf61 (fun c _ => rfl) (fun n hn c _ => gs_rch_iff hG.1 hn)) (K.1 89 (.invokevirtual 125, 0) rfl).1 ml_G_125 cv_F_search (by decide) (rfl) ⟨Nat.le_of_ble_eq_true rfl, Nat.le_of_ble_eq_true rfl⟩ ⟨Nat.zero_le _, Nat.zero_le _⟩ rfl (Nat.le_of_ble_eq_true rfl) (fun r9 w4 h9 => ?_)
        obtain ⟨f4, rfl, hb4⟩ := h9
        have hse := gs_search_send (d := some k) (fr := gs_c S k) (goal := 8 * b + a) hG.1 (hG.cell hal) hf61 hf1 hf2
        rw [hse] at hb4
        have hC4 := f4.C (by decide) hC2
        have g4 := g2.trans (f4.c (by decide))
        refine gd_cg (lv' := [(0, .ref 0), (1, .int d), (2, .int (nI a)), (3, .int (nI b)), (4, .ref (4 + 3 * (o ix))), (5, .int (nI (8 * b + a)))]) (st' := [.int (gm_nO (gs_W S k none (8 * b + a) false))]) (w' := w4) ?_ (rfl) (by rw [hse]; rfl) (rfl)
        refine gd_r E K 3 (pc' := 97) (lv' := [(0, .ref 0), (1, .int d), (2, .int (nI a)), (3, .int (nI b)), (4, .ref (4 + 3 * (o ix))), (5, .int (nI (8 * b + a))), (6, .int (gm_nO (gs_W S k none (8 * b + a) false)))]) (st' := [.int (-1), .int (gm_nO (gs_W S k none (8 * b + a) false))]) (w' := w4) rfl ?_
        cases hway : gs_W S k none (8 * b + a) false with
        | none =>
          refine gd_r E K 1 (pc' := if (gm_nO (none)) = (-1) then 100 else 110) (lv' := [(0, .ref 0), (1, .int d), (2, .int (nI a)), (3, .int (nI b)), (4, .ref (4 + 3 * (o ix))), (5, .int (nI (8 * b + a))), (6, .int (gm_nO (none)))]) (st' := []) (w' := w4) rfl ?_
          refine gd_it (by rfl) ?_
          exact gd_thrN E X ht hlk hls xa_NSE st_129 (K.1 100 (.new 78, 0) rfl).1 (K.1 103 (.dup, 0) rfl).1 (K.1 104 (.ldc 129, 0) rfl).1 (K.1 106 (.invokespecial 82, 0) rfl).1 (K.1 109 (.athrow, 0) rfl).1 (by decide) (Or.inr (Or.inr ⟨by rw [hs, hfr, hway]; rfl, rfl, ⟨o, hC4⟩, g4⟩))
        | some en =>
          have hen := gs_way_le hway
          refine gd_r E K 1 (pc' := if (gm_nO (some en)) = (-1) then 100 else 110) (lv' := [(0, .ref 0), (1, .int d), (2, .int (nI a)), (3, .int (nI b)), (4, .ref (4 + 3 * (o ix))), (5, .int (nI (8 * b + a))), (6, .int (gm_nO (some en)))]) (st' := []) (w' := w4) rfl ?_
          refine gd_if (fun h => by have := (gm_nO_m1 (x := some en) (fun a h => by cases h; omega)).mp h; cases this) ?_
          refine gd_r E K 5 (pc' := 120) (lv' := [(0, .ref 0), (1, .int d), (2, .int (nI a)), (3, .int (nI b)), (4, .ref (4 + 3 * (o ix))), (5, .int (nI (8 * b + a))), (6, .int (gm_nO (some en)))]) (st' := [.int (gm_nO (some en)), .int (nI (8 * b + a)), .ref (4 + 3 * (o ix)), .ref 22]) (w' := w4) rfl ?_
          have e34 : w4.1 (4 + 3 * (o ix)) 3 = nI (gs_c S k) := by rw [f4.1]; exact e3
          refine gd_cg (lv' := [(0, .ref 0), (1, .int d), (2, .int (nI a)), (3, .int (nI b)), (4, .ref (4 + 3 * (o ix))), (5, .int (nI (8 * b + a))), (6, .int (nI en))]) (st' := [.int (nI en), .int (nI (8 * b + a)), .ref (4 + 3 * (o ix)), .ref 22]) (w' := w4) ?_ (rfl) (rfl) (rfl)
          refine gd_cVp E hA (av := [.ref (4 + 3 * (o ix)), .int (nI (8 * b + a)), .int (nI en)]) (rest := []) (c3_trace hinj w4 (o ix) hqix (gs_c S k) (8 * b + a) en hck (by omega) hway e34 (fun s1 h1 c hc => hb4 en hway s1 h1 c hc)) (K.1 120 (.invokevirtual 131, 0) rfl).1 ml_G_131 cv_F_trace (by decide) (rfl) ⟨Nat.le_of_ble_eq_true rfl, Nat.le_of_ble_eq_true rfl⟩ ⟨Nat.zero_le _, Nat.zero_le _⟩ rfl (Nat.le_of_ble_eq_true rfl) (fun r9 w5 h9 => ?_)
          obtain ⟨rfl, q1, q2, q3, q4, q5⟩ := h9
          have hgr : gr_C w5 (gs_route S k en (gs_V S k none (8 * b + a) en)) o := hC4.route hi hen (fun i _ => gs_lm_lt _) q4 q5 q3 q2 q1
          refine gd_r E K 1 (pc' := 125) (lv' := [(0, .ref 0), (1, .int d), (2, .int (nI a)), (3, .int (nI b)), (4, .ref (4 + 3 * (o ix))), (5, .int (nI (8 * b + a))), (6, .int (nI en))]) (st' := [.int (nI en)]) (w' := w5) rfl ?_
          have hfin : gs_send S d (nI a) (nI b) = (0, en, gs_route S k en (gs_V S k none (8 * b + a) en)) := by rw [hs, hfr, hway]; rfl
          refine gd_xr ?_
          exact gd_iretp E hr hlk (K.1 125 (.ireturn, 0) rfl).1 (by rw [hfin]; exact ⟨rfl, rfl, ⟨o, hgr⟩, g4.trans ⟨fun a ha => ⟨q3 a (by omega) (by omega), q2 a (by omega)⟩, fun a _ => by rw [q1]⟩⟩)
  · have hisd := gs_isd_no hC.2.1.2 hno
    refine gd_r E K 3 (pc' := 23) (lv' := [(0, .ref 0), (1, .int d), (2, .int x), (3, .int y), (4, .null)]) (st' := []) (w' := w) rfl ?_
    exact gd_thr E X ht hlk hls xa_IAE st_107 (K.1 23 (.new 67, 0) rfl).1 (K.1 26 (.dup, 0) rfl).1 (K.1 27 (.ldc 107, 0) rfl).1 (K.1 29 (.invokespecial 71, 0) rfl).1 (K.1 32 (.athrow, 0) rfl).1 (by decide) (Or.inl ⟨by rw [gs_send, if_pos (Or.inl hisd)], rfl, ⟨o, hC⟩, gf_c.refl w⟩)
set_option maxRecDepth 100000 in
theorem c3_Gjoin {l : Launch} (hls : l.stackTraces = false) {D : va_G} {tC : FieldType → ClassId} {ad : Nat → Nat} (hinj : ∀ i j, ad i = ad j → i = j) {S : gs_T} {o : Nat → Nat} (w : gd_W) (hC : gr_C w S o) (hG : gs_Good S) (d e1 : Int32) : gd_Cx l D tC ad 45 6 94 y_G_join c_G_join 6 (some .int) [.ref 0, .int d, .int e1] w (fun r w' => (gs_join S d e1).1 = 0 ∧ gs_cp (gs_join S d e1).2.2 (.int (nI (gs_join S d e1).2.1)) w r w') (fun E w' => ((gs_join S d e1).1 = 1 ∧ gs_cx S "java/lang/IllegalArgumentException" w E w') ∨ ((gs_join S d e1).1 = 2 ∧ gs_cx S "java/lang/IllegalStateException" w E w') ∨ ((gs_join S d e1).1 = 3 ∧ gs_cx S "java/util/NoSuchElementException" w E w')) := by
  refine gd_Cx_of rfl hinj (Nat.le_of_ble_eq_true rfl) ?_
  intro p e s m args below meth c E X ht hr hlk
  have K := k_G_join
  have hA : ∀ q, gd_A ad 45 s.heap.size q → gd_A ad 45 s.heap.size q := fun _ h => h
  refine gd_r E K 3 (pc' := 5) (lv' := [(0, .ref 0), (1, .int d), (2, .int e1)]) (st' := [.int d, .ref 2]) (w' := w) rfl ?_
  refine gd_cVp E hA (av := [.int d]) (rest := []) (c3_find hinj w hC.1 d) (K.1 5 (.invokevirtual 104, 0) rfl).1 ml_G_104 cv_L_find (by decide) rfl ⟨Nat.le_of_ble_eq_true rfl, Nat.le_of_ble_eq_true rfl⟩ ⟨Nat.zero_le _, Nat.zero_le _⟩ rfl (Nat.le_of_ble_eq_true rfl) (fun r9 w9 h9 => ?_)
  obtain ⟨rfl, ⟨ix, k, hi, hd, rfl⟩ | ⟨hno, rfl⟩⟩ := h9
  · obtain ⟨hlix, h6ix, hqix, hrix, Eix, hEix⟩ := hC.1.got hi
    have hal := gs_al_at hi
    refine gd_r E K 4 (pc' := 14) (lv' := [(0, .ref 0), (1, .int d), (2, .int e1), (3, .ref (4 + 3 * (o ix)))]) (st' := [.int e1, .ref 2]) (w' := w) rfl ?_
    refine gd_cVp E hA (av := [.int e1]) (rest := []) (c3_find hinj w hC.1 e1) (K.1 14 (.invokevirtual 104, 0) rfl).1 ml_G_104 cv_L_find (by decide) rfl ⟨Nat.le_of_ble_eq_true rfl, Nat.le_of_ble_eq_true rfl⟩ ⟨Nat.zero_le _, Nat.zero_le _⟩ rfl (Nat.le_of_ble_eq_true rfl) (fun r9 w9 h9 => ?_)
    obtain ⟨rfl, ⟨iy, e, hi2, hd2, rfl⟩ | ⟨hno2, rfl⟩⟩ := h9
    · obtain ⟨hliy, h6iy, hqiy, hriy, Eiy, hEiy⟩ := hC.1.got hi2
      have hal2 := gs_al_at hi2
      refine gd_r E K 7 (pc' := 30) (lv' := [(0, .ref 0), (1, .int d), (2, .int e1), (3, .ref (4 + 3 * (o ix))), (4, .ref (4 + 3 * (o iy)))]) (st' := [.int e1, .int d]) (w' := w) rfl ?_
      have hisd : gs_isd S d = true := by rw [hd]; exact gs_isd_of hC.2.1.2 hal
      have hisd2 : gs_isd S e1 = true := by rw [hd2]; exact gs_isd_of hC.2.1.2 hal2
      have hcl : d.toNatClampNeg = k := by rw [hd]; exact nI_clamp (by have := hEix.1.2; omega)
      have hcl2 : e1.toNatClampNeg = e := by rw [hd2]; exact nI_clamp (by have := hEiy.1.2; omega)
      refine gd_r E K 1 (pc' := if d = e1 then 33 else 43) (lv' := [(0, .ref 0), (1, .int d), (2, .int e1), (3, .ref (4 + 3 * (o ix))), (4, .ref (4 + 3 * (o iy)))]) (st' := []) (w' := w) rfl ?_
      refine gd_ite (fun h1 => ?_) (fun h1 => ?_)
      · exact gd_thr E X ht hlk hls xa_IAE st_135 (K.1 33 (.new 67, 0) rfl).1 (K.1 36 (.dup, 0) rfl).1 (K.1 37 (.ldc 135, 0) rfl).1 (K.1 39 (.invokespecial 71, 0) rfl).1 (K.1 42 (.athrow, 0) rfl).1 (by decide) (Or.inl ⟨by rw [gs_join, if_pos (Or.inr (Or.inr h1))], rfl, ⟨o, hC⟩, gf_c.refl w⟩)
      · have hok : ¬ (gs_isd S d = false ∨ gs_isd S e1 = false ∨ d = e1) := by rw [hisd, hisd2]; rintro (h | h | h); (cases h); (cases h); (exact h1 h)
        have hke : k ≠ e := fun h => h1 (by rw [hd, hd2, h])
        have hs : gs_join S d e1 = if gs_free S k = false ∨ gs_free S e = false ∨ gs_u S k ≠ 1 ∨ gs_u S e ≠ 1 then (2, 0, S) else match gs_W S k (some e) (gs_c S e) true with | none => (3, 0, S) | some en => (0, en, gs_fd (gs_route S k en (gs_V S k (some e) (gs_c S e) en)) 4 k (e + 1)) := by rw [gs_join, if_neg hok, hcl, hcl2]; rfl
        refine gd_r E K 1 (pc' := 44) (lv' := [(0, .ref 0), (1, .int d), (2, .int e1), (3, .ref (4 + 3 * (o ix))), (4, .ref (4 + 3 * (o iy)))]) (st' := [.ref (4 + 3 * (o ix))]) (w' := w) rfl ?_
        refine gd_cV E hA (av := []) (rest := []) (c3_isFree hinj w (o ix) hqix k hEix) (K.1 44 (.invokevirtual 109, 0) rfl).1 ml_G_109 cv_D_isFree (by omega) (gd_shd hqix) ⟨Nat.le_of_ble_eq_true rfl, Nat.le_of_ble_eq_true rfl⟩ ⟨Nat.zero_le _, Nat.zero_le _⟩ rfl (Nat.le_of_ble_eq_true rfl) ?_
        refine gd_cg (lv' := [(0, .ref 0), (1, .int d), (2, .int e1), (3, .ref (4 + 3 * (o ix))), (4, .ref (4 + 3 * (o iy)))]) (st' := [.int (gs_b (gs_free S k))]) (w' := w) ?_ (rfl) (rfl) (rfl)
        cases hfr : gs_free S k with
        | false =>
          refine gd_r E K 1 (pc' := if (gs_b (false)) = 0 then 75 else 50) (lv' := [(0, .ref 0), (1, .int d), (2, .int e1), (3, .ref (4 + 3 * (o ix))), (4, .ref (4 + 3 * (o iy)))]) (st' := []) (w' := w) rfl ?_
          refine gd_it (by decide) ?_
          exact gd_thr E X ht hlk hls xa_ISE st_140 (K.1 75 (.new 86, 0) rfl).1 (K.1 78 (.dup, 0) rfl).1 (K.1 79 (.ldc 140, 0) rfl).1 (K.1 81 (.invokespecial 90, 0) rfl).1 (K.1 84 (.athrow, 0) rfl).1 (by decide) (Or.inr (Or.inl ⟨by rw [hs, if_pos (Or.inl hfr)], rfl, ⟨o, hC⟩, gf_c.refl w⟩))
        | true =>
          refine gd_r E K 1 (pc' := if (gs_b (true)) = 0 then 75 else 50) (lv' := [(0, .ref 0), (1, .int d), (2, .int e1), (3, .ref (4 + 3 * (o ix))), (4, .ref (4 + 3 * (o iy)))]) (st' := []) (w' := w) rfl ?_
          refine gd_if (by decide) ?_
          refine gd_r E K 1 (pc' := 52) (lv' := [(0, .ref 0), (1, .int d), (2, .int e1), (3, .ref (4 + 3 * (o ix))), (4, .ref (4 + 3 * (o iy)))]) (st' := [.ref (4 + 3 * (o iy))]) (w' := w) rfl ?_
          refine gd_cV E hA (av := []) (rest := []) (c3_isFree hinj w (o iy) hqiy e hEiy) (K.1 52 (.invokevirtual 109, 0) rfl).1 ml_G_109 cv_D_isFree (by omega) (gd_shd hqiy) ⟨Nat.le_of_ble_eq_true rfl, Nat.le_of_ble_eq_true rfl⟩ ⟨Nat.zero_le _, Nat.zero_le _⟩ rfl (Nat.le_of_ble_eq_true rfl) ?_
          refine gd_cg (lv' := [(0, .ref 0), (1, .int d), (2, .int e1), (3, .ref (4 + 3 * (o ix))), (4, .ref (4 + 3 * (o iy)))]) (st' := [.int (gs_b (gs_free S e))]) (w' := w) ?_ (rfl) (rfl) (rfl)
          cases hfr2 : gs_free S e with
          | false =>
            refine gd_r E K 1 (pc' := if (gs_b (false)) = 0 then 75 else 58) (lv' := [(0, .ref 0), (1, .int d), (2, .int e1), (3, .ref (4 + 3 * (o ix))), (4, .ref (4 + 3 * (o iy)))]) (st' := []) (w' := w) rfl ?_
            refine gd_it (by decide) ?_
            exact gd_thr E X ht hlk hls xa_ISE st_140 (K.1 75 (.new 86, 0) rfl).1 (K.1 78 (.dup, 0) rfl).1 (K.1 79 (.ldc 140, 0) rfl).1 (K.1 81 (.invokespecial 90, 0) rfl).1 (K.1 84 (.athrow, 0) rfl).1 (by decide) (Or.inr (Or.inl ⟨by rw [hs, if_pos (Or.inr (Or.inl hfr2))], rfl, ⟨o, hC⟩, gf_c.refl w⟩))
          | true =>
            refine gd_r E K 1 (pc' := if (gs_b (true)) = 0 then 75 else 58) (lv' := [(0, .ref 0), (1, .int d), (2, .int e1), (3, .ref (4 + 3 * (o ix))), (4, .ref (4 + 3 * (o iy)))]) (st' := []) (w' := w) rfl ?_
            refine gd_if (by decide) ?_
            have u4 := hEix.2.2.1.1
            have v4 := hEiy.2.2.1.1
            have ub := hEix.2.2.1.2
            have vb := hEiy.2.2.1.2
            refine gd_r E K 1 (pc' := 59) (lv' := [(0, .ref 0), (1, .int d), (2, .int e1), (3, .ref (4 + 3 * (o ix))), (4, .ref (4 + 3 * (o iy)))]) (st' := [.ref (4 + 3 * (o ix))]) (w' := w) rfl ?_
            refine gd_getd E K (K.1 59 (.getfield 137, 0) rfl).1 rfl (by omega) (gd_shd hqix) rfl (v := .int (nI (gs_u S k))) (by show Value.int _ = Value.int _; rw [u4]) ?_
            refine gd_r E K 1 (pc' := 63) (lv' := [(0, .ref 0), (1, .int d), (2, .int e1), (3, .ref (4 + 3 * (o ix))), (4, .ref (4 + 3 * (o iy)))]) (st' := [.int 1, .int (nI (gs_u S k))]) (w' := w) rfl ?_
            by_cases u1 : gs_u S k = 1
            · refine gd_r E K 1 (pc' := if (nI (gs_u S k)) = 1 then 66 else 75) (lv' := [(0, .ref 0), (1, .int d), (2, .int e1), (3, .ref (4 + 3 * (o ix))), (4, .ref (4 + 3 * (o iy)))]) (st' := []) (w' := w) rfl ?_
              refine gd_it (by rw [u1]; rfl) ?_
              refine gd_r E K 1 (pc' := 68) (lv' := [(0, .ref 0), (1, .int d), (2, .int e1), (3, .ref (4 + 3 * (o ix))), (4, .ref (4 + 3 * (o iy)))]) (st' := [.ref (4 + 3 * (o iy))]) (w' := w) rfl ?_
              refine gd_getd E K (K.1 68 (.getfield 137, 0) rfl).1 rfl (by omega) (gd_shd hqiy) rfl (v := .int (nI (gs_u S e))) (by show Value.int _ = Value.int _; rw [v4]) ?_
              refine gd_r E K 1 (pc' := 72) (lv' := [(0, .ref 0), (1, .int d), (2, .int e1), (3, .ref (4 + 3 * (o ix))), (4, .ref (4 + 3 * (o iy)))]) (st' := [.int 1, .int (nI (gs_u S e))]) (w' := w) rfl ?_
              by_cases v1 : gs_u S e = 1
              · refine gd_r E K 1 (pc' := if (nI (gs_u S e)) = 1 then 85 else 75) (lv' := [(0, .ref 0), (1, .int d), (2, .int e1), (3, .ref (4 + 3 * (o ix))), (4, .ref (4 + 3 * (o iy)))]) (st' := []) (w' := w) rfl ?_
                refine gd_it (by rw [v1]; rfl) ?_
                refine gd_r E K 3 (pc' := 89) (lv' := [(0, .ref 0), (1, .int d), (2, .int e1), (3, .ref (4 + 3 * (o ix))), (4, .ref (4 + 3 * (o iy)))]) (st' := [.ref (4 + 3 * (o iy)), .ref (4 + 3 * (o ix)), .ref 0]) (w' := w) rfl ?_
                have hs2 : gs_join S d e1 = match gs_W S k (some e) (gs_c S e) true with | none => (3, 0, S) | some en => (0, en, gs_fd (gs_route S k en (gs_V S k (some e) (gs_c S e) en)) 4 k (e + 1)) := by rw [hs, if_neg (by rw [hfr, hfr2]; rintro (h | h | h | h); (cases h); (cases h); (exact h u1); (exact h v1))]
                refine gd_cVp E hA (av := [.ref (4 + 3 * (o ix)), .ref (4 + 3 * (o iy))]) (rest := []) (c3_heed2 hinj w hC hG.1 ix k hi iy e hi2) (K.1 89 (.invokevirtual 115, 0) rfl).1 ml_G_115 cv_G_heedAllBut (by decide) (rfl) ⟨Nat.le_of_ble_eq_true rfl, Nat.le_of_ble_eq_true rfl⟩ ⟨Nat.zero_le _, Nat.zero_le _⟩ rfl (Nat.le_of_ble_eq_true rfl) (fun r9 w2 h9 => ?_)
                obtain ⟨rfl, f2, t2⟩ := h9
                have hC2 := f2.C (by decide) hC
                have g2 := f2.c (by decide)
                obtain ⟨-, -, -, -, E2, hE2⟩ := hC2.1.got hi
                obtain ⟨-, -, -, -, E3, hE3⟩ := hC2.1.got hi2
                have e3 := hE2.2.1.1
                have hck := hE2.2.1.2
                have e4 := hE3.2.1.1
                have hce := hE3.2.1.2
                refine gd_r E K 3 (pc' := 97) (lv' := [(0, .ref 0), (1, .int d), (2, .int e1), (3, .ref (4 + 3 * (o ix))), (4, .ref (4 + 3 * (o iy)))]) (st' := [.ref (4 + 3 * (o ix)), .ref 22]) (w' := w2) rfl ?_
                refine gd_getd E K (K.1 97 (.getfield 119, 0) rfl).1 rfl (by omega) (gd_shd hqix) rfl (v := .int (nI (gs_c S k))) (by show Value.int _ = Value.int _; rw [e3]) ?_
                refine gd_r E K 1 (pc' := 102) (lv' := [(0, .ref 0), (1, .int d), (2, .int e1), (3, .ref (4 + 3 * (o ix))), (4, .ref (4 + 3 * (o iy)))]) (st' := [.ref (4 + 3 * (o iy)), .int (nI (gs_c S k)), .ref 22]) (w' := w2) rfl ?_
                refine gd_getd E K (K.1 102 (.getfield 119, 0) rfl).1 rfl (by omega) (gd_shd hqiy) rfl (v := .int (nI (gs_c S e))) (by show Value.int _ = Value.int _; rw [e4]) ?_
                refine gd_r E K 3 (pc' := 110) (lv' := [(0, .ref 0), (1, .int d), (2, .int e1), (3, .ref (4 + 3 * (o ix))), (4, .ref (4 + 3 * (o iy)))]) (st' := [.int 0, .long (w2.2.1 0 4), .int (nI (gs_c S e)), .int (nI (gs_c S k)), .ref 22]) (w' := w2) rfl ?_
                have hclr : ∀ n x y, gs_alive S x → x ≠ e → gs_pos S x n = some y → gm_near y (gs_c S e) = false := fun n x y hx hxe hp => hG.clear0 hal2 hfr2 hx hxe hp
                have hne : gs_c S k ≠ gs_c S e := fun h => by have h9 := hclr 0 k (gs_c S k) hal hke (hG.pos0 hal); rw [h] at h9; simp [gm_near] at h9
                have hmt : ∀ n, gs_mt (gs_T2 S (some k) (some e)) (gs_cn S (some k) (some e)) (gs_c S e) n = false := fun n => by cases hm : gs_mt (gs_T2 S (some k) (some e)) (gs_cn S (some k) (some e)) (gs_c S e) n with | false => rfl | true => obtain ⟨b, hb, h1, x, h2, h3, h4, h5⟩ := (gs_mt_P hG.1).mp hm; rw [gm_near_comm, hclr n x b h2 (fun z => h4 (by rw [z])) h5] at h1; cases h1
                refine gd_cVp E hA (av := [.int (nI (gs_c S k)), .int (nI (gs_c S e)), .long (w2.2.1 0 4), .int 0]) (rest := []) (c3_search hinj w2 _ t2 (gs_rch S (gs_T2 S (some k) (some e)) (gs_cn S (some k) (some e)) (gs_c S k)) (fun c => gs_k S c = 1) (w2.2.1 0 4) hC2.2.2.2.1 (gs_c S k) (gs_c S e) 0 hck hce (by omega) (fun c _ => rfl) (fun n hn c _ => gs_rch_iff hG.1 hn)) (K.1 110 (.invokevirtual 125, 0) rfl).1 ml_G_125 cv_F_search (by decide) (rfl) ⟨Nat.le_of_ble_eq_true rfl, Nat.le_of_ble_eq_true rfl⟩ ⟨Nat.zero_le _, Nat.zero_le _⟩ rfl (Nat.le_of_ble_eq_true rfl) (fun r9 w4 h9 => ?_)
                obtain ⟨f4, rfl, hb4⟩ := h9
                have hse := gs_search_join (d := some k) (e := some e) (fr := gs_c S k) (goal := gs_c S e) hne hmt
                rw [hse] at hb4
                have hC4 := f4.C (by decide) hC2
                have g4 := g2.trans (f4.c (by decide))
                refine gd_cg (lv' := [(0, .ref 0), (1, .int d), (2, .int e1), (3, .ref (4 + 3 * (o ix))), (4, .ref (4 + 3 * (o iy)))]) (st' := [.int (gm_nO (gs_W S k (some e) (gs_c S e) true))]) (w' := w4) ?_ (rfl) (by rw [hse]; rfl) (rfl)
                refine gd_r E K 3 (pc' := 118) (lv' := [(0, .ref 0), (1, .int d), (2, .int e1), (3, .ref (4 + 3 * (o ix))), (4, .ref (4 + 3 * (o iy))), (5, .int (gm_nO (gs_W S k (some e) (gs_c S e) true)))]) (st' := [.int (-1), .int (gm_nO (gs_W S k (some e) (gs_c S e) true))]) (w' := w4) rfl ?_
                cases hway : gs_W S k (some e) (gs_c S e) true with
                | none =>
                  refine gd_r E K 1 (pc' := if (gm_nO (none)) = (-1) then 121 else 131) (lv' := [(0, .ref 0), (1, .int d), (2, .int e1), (3, .ref (4 + 3 * (o ix))), (4, .ref (4 + 3 * (o iy))), (5, .int (gm_nO (none)))]) (st' := []) (w' := w4) rfl ?_
                  refine gd_it (by rfl) ?_
                  exact gd_thrN E X ht hlk hls xa_NSE st_129 (K.1 121 (.new 78, 0) rfl).1 (K.1 124 (.dup, 0) rfl).1 (K.1 125 (.ldc 129, 0) rfl).1 (K.1 127 (.invokespecial 82, 0) rfl).1 (K.1 130 (.athrow, 0) rfl).1 (by decide) (Or.inr (Or.inr ⟨by rw [hs2, hway], rfl, ⟨o, hC4⟩, g4⟩))
                | some en =>
                  have hen := gs_way_le hway
                  refine gd_r E K 1 (pc' := if (gm_nO (some en)) = (-1) then 121 else 131) (lv' := [(0, .ref 0), (1, .int d), (2, .int e1), (3, .ref (4 + 3 * (o ix))), (4, .ref (4 + 3 * (o iy))), (5, .int (gm_nO (some en)))]) (st' := []) (w' := w4) rfl ?_
                  refine gd_if (fun h => by have := (gm_nO_m1 (x := some en) (fun a h => by cases h; omega)).mp h; cases this) ?_
                  have e34 : w4.1 (4 + 3 * (o ix)) 3 = nI (gs_c S k) := by rw [f4.1]; exact e3
                  have e44 : w4.1 (4 + 3 * (o iy)) 3 = nI (gs_c S e) := by rw [f4.1]; exact e4
                  refine gd_r E K 4 (pc' := 138) (lv' := [(0, .ref 0), (1, .int d), (2, .int e1), (3, .ref (4 + 3 * (o ix))), (4, .ref (4 + 3 * (o iy))), (5, .int (gm_nO (some en)))]) (st' := [.ref (4 + 3 * (o iy)), .ref (4 + 3 * (o ix)), .ref 22]) (w' := w4) rfl ?_
                  refine gd_getd E K (K.1 138 (.getfield 119, 0) rfl).1 rfl (by omega) (gd_shd hqiy) rfl (v := .int (nI (gs_c S e))) (by show Value.int _ = Value.int _; rw [e44]) ?_
                  refine gd_r E K 1 (pc' := 143) (lv' := [(0, .ref 0), (1, .int d), (2, .int e1), (3, .ref (4 + 3 * (o ix))), (4, .ref (4 + 3 * (o iy))), (5, .int (gm_nO (some en)))]) (st' := [.int (gm_nO (some en)), .int (nI (gs_c S e)), .ref (4 + 3 * (o ix)), .ref 22]) (w' := w4) rfl ?_
                  refine gd_cg (lv' := [(0, .ref 0), (1, .int d), (2, .int e1), (3, .ref (4 + 3 * (o ix))), (4, .ref (4 + 3 * (o iy))), (5, .int (nI en))]) (st' := [.int (nI en), .int (nI (gs_c S e)), .ref (4 + 3 * (o ix)), .ref 22]) (w' := w4) ?_ (rfl) (rfl) (rfl)
                  refine gd_cVp E hA (av := [.ref (4 + 3 * (o ix)), .int (nI (gs_c S e)), .int (nI en)]) (rest := []) (c3_trace hinj w4 (o ix) hqix (gs_c S k) (gs_c S e) en hck hce hway e34 (fun s1 h1 c hc => hb4 en hway s1 h1 c hc)) (K.1 143 (.invokevirtual 131, 0) rfl).1 ml_G_131 cv_F_trace (by decide) (rfl) ⟨Nat.le_of_ble_eq_true rfl, Nat.le_of_ble_eq_true rfl⟩ ⟨Nat.zero_le _, Nat.zero_le _⟩ rfl (Nat.le_of_ble_eq_true rfl) (fun r9 w5 h9 => ?_)
                  obtain ⟨rfl, q1, q2, q3, q4, q5⟩ := h9
                  have hgr : gr_C w5 (gs_route S k en (gs_V S k (some e) (gs_c S e) en)) o := hC4.route hi hen (fun i _ => gs_lm_lt _) q4 q5 q3 q2 q1
                  refine gd_cg (lv' := [(0, .ref 0), (1, .int (nI k)), (2, .int (nI e)), (3, .ref (4 + 3 * (o ix))), (4, .ref (4 + 3 * (o iy))), (5, .int (nI en))]) (st' := []) (w' := w5) ?_ (by rw [hd, hd2]) (rfl) (rfl)
                  refine gd_r E K 2 (pc' := 148) (lv' := [(0, .ref 0), (1, .int (nI k)), (2, .int (nI e)), (3, .ref (4 + 3 * (o ix))), (4, .ref (4 + 3 * (o iy))), (5, .int (nI en))]) (st' := [.int (nI e), .ref (4 + 3 * (o ix))]) (w' := w5) rfl ?_
                  refine gd_putd E K (K.1 148 (.putfield 142, 0) rfl).1 rfl (by omega) (gd_shd hqix) rfl ?_
                  refine gd_r E K 2 (pc' := 154) (lv' := [(0, .ref 0), (1, .int (nI k)), (2, .int (nI e)), (3, .ref (4 + 3 * (o ix))), (4, .ref (4 + 3 * (o iy))), (5, .int (nI en))]) (st' := [.int (nI k), .ref (4 + 3 * (o iy))]) (w' := gd_rI w5 (4 + 3 * (o ix)) (upd (w5.1 (4 + 3 * (o ix))) 8 (nI e))) rfl ?_
                  refine gd_putd E K (K.1 154 (.putfield 145, 0) rfl).1 rfl (by omega) (gd_shd hqiy) rfl ?_
                  refine gd_r E K 1 (pc' := 159) (lv' := [(0, .ref 0), (1, .int (nI k)), (2, .int (nI e)), (3, .ref (4 + 3 * (o ix))), (4, .ref (4 + 3 * (o iy))), (5, .int (nI en))]) (st' := [.int (nI en)]) (w' := gd_rI (gd_rI w5 (4 + 3 * (o ix)) (upd (w5.1 (4 + 3 * (o ix))) 8 (nI e))) (4 + 3 * (o iy)) (upd ((gd_rI w5 (4 + 3 * (o ix)) (upd (w5.1 (4 + 3 * (o ix))) 8 (nI e))).1 (4 + 3 * (o iy))) 9 (nI k))) rfl ?_
                  have hgj : gr_C (gd_rI (gd_rI w5 (4 + 3 * (o ix)) (upd (w5.1 (4 + 3 * (o ix))) 8 (nI e))) (4 + 3 * (o iy)) (upd ((gd_rI w5 (4 + 3 * (o ix)) (upd (w5.1 (4 + 3 * (o ix))) 8 (nI e))).1 (4 + 3 * (o iy))) 9 (nI k))) (gs_fd (gs_route S k en (gs_V S k (some e) (gs_c S e) en)) 4 k (e + 1)) o := hgr.join hi hi2 hke (gs_join_aw hG hal hfr hal2 hfr2 hke u1 v1 hway) rfl
                  have hfin : gs_join S d e1 = (0, en, gs_fd (gs_route S k en (gs_V S k (some e) (gs_c S e) en)) 4 k (e + 1)) := by rw [hs2, hway]
                  refine gd_xr ?_
                  exact gd_iretp E hr hlk (K.1 159 (.ireturn, 0) rfl).1 (by rw [hfin]; exact ⟨rfl, rfl, ⟨o, hgj⟩, (g4.trans ⟨fun a ha => ⟨q3 a (by omega) (by omega), q2 a (by omega)⟩, fun a _ => by rw [q1]⟩).trans ((gf_c.I w5 (by omega) _).trans (gf_c.I _ (by omega) _))⟩)
              · refine gd_r E K 1 (pc' := if (nI (gs_u S e)) = 1 then 85 else 75) (lv' := [(0, .ref 0), (1, .int d), (2, .int e1), (3, .ref (4 + 3 * (o ix))), (4, .ref (4 + 3 * (o iy)))]) (st' := []) (w' := w) rfl ?_
                refine gd_if (fun h => v1 (by rw [show (1 : Int32) = nI 1 from rfl, nI_eq (by omega) (by decide)] at h; exact h)) ?_
                exact gd_thr E X ht hlk hls xa_ISE st_140 (K.1 75 (.new 86, 0) rfl).1 (K.1 78 (.dup, 0) rfl).1 (K.1 79 (.ldc 140, 0) rfl).1 (K.1 81 (.invokespecial 90, 0) rfl).1 (K.1 84 (.athrow, 0) rfl).1 (by decide) (Or.inr (Or.inl ⟨by rw [hs, if_pos (Or.inr (Or.inr (Or.inr v1)))], rfl, ⟨o, hC⟩, gf_c.refl w⟩))
            · refine gd_r E K 1 (pc' := if (nI (gs_u S k)) = 1 then 66 else 75) (lv' := [(0, .ref 0), (1, .int d), (2, .int e1), (3, .ref (4 + 3 * (o ix))), (4, .ref (4 + 3 * (o iy)))]) (st' := []) (w' := w) rfl ?_
              refine gd_if (fun h => u1 (by rw [show (1 : Int32) = nI 1 from rfl, nI_eq (by omega) (by decide)] at h; exact h)) ?_
              exact gd_thr E X ht hlk hls xa_ISE st_140 (K.1 75 (.new 86, 0) rfl).1 (K.1 78 (.dup, 0) rfl).1 (K.1 79 (.ldc 140, 0) rfl).1 (K.1 81 (.invokespecial 90, 0) rfl).1 (K.1 84 (.athrow, 0) rfl).1 (by decide) (Or.inr (Or.inl ⟨by rw [hs, if_pos (Or.inr (Or.inr (Or.inl u1)))], rfl, ⟨o, hC⟩, gf_c.refl w⟩))
    · have hisd2 := gs_isd_no hC.2.1.2 hno2
      refine gd_r E K 5 (pc' := 33) (lv' := [(0, .ref 0), (1, .int d), (2, .int e1), (3, .ref (4 + 3 * (o ix))), (4, .null)]) (st' := []) (w' := w) rfl ?_
      exact gd_thr E X ht hlk hls xa_IAE st_135 (K.1 33 (.new 67, 0) rfl).1 (K.1 36 (.dup, 0) rfl).1 (K.1 37 (.ldc 135, 0) rfl).1 (K.1 39 (.invokespecial 71, 0) rfl).1 (K.1 42 (.athrow, 0) rfl).1 (by decide) (Or.inl ⟨by rw [gs_join, if_pos (Or.inr (Or.inl hisd2))], rfl, ⟨o, hC⟩, gf_c.refl w⟩)
  · have hisd := gs_isd_no hC.2.1.2 hno
    refine gd_r E K 4 (pc' := 14) (lv' := [(0, .ref 0), (1, .int d), (2, .int e1), (3, .null)]) (st' := [.int e1, .ref 2]) (w' := w) rfl ?_
    refine gd_cVp E hA (av := [.int e1]) (rest := []) (c3_find hinj w hC.1 e1) (K.1 14 (.invokevirtual 104, 0) rfl).1 ml_G_104 cv_L_find (by decide) rfl ⟨Nat.le_of_ble_eq_true rfl, Nat.le_of_ble_eq_true rfl⟩ ⟨Nat.zero_le _, Nat.zero_le _⟩ rfl (Nat.le_of_ble_eq_true rfl) (fun r9 w9 h9 => ?_)
    obtain ⟨rfl, ⟨iy, e, hi2, hd2, rfl⟩ | ⟨hno2, rfl⟩⟩ := h9
    · obtain ⟨hliy, h6iy, hqiy, hriy, Eiy, hEiy⟩ := hC.1.got hi2
      have hal2 := gs_al_at hi2
      refine gd_r E K 3 (pc' := 33) (lv' := [(0, .ref 0), (1, .int d), (2, .int e1), (3, .null), (4, .ref (4 + 3 * (o iy)))]) (st' := []) (w' := w) rfl ?_
      exact gd_thr E X ht hlk hls xa_IAE st_135 (K.1 33 (.new 67, 0) rfl).1 (K.1 36 (.dup, 0) rfl).1 (K.1 37 (.ldc 135, 0) rfl).1 (K.1 39 (.invokespecial 71, 0) rfl).1 (K.1 42 (.athrow, 0) rfl).1 (by decide) (Or.inl ⟨by rw [gs_join, if_pos (Or.inl hisd)], rfl, ⟨o, hC⟩, gf_c.refl w⟩)
    · have hisd2 := gs_isd_no hC.2.1.2 hno2
      refine gd_r E K 3 (pc' := 33) (lv' := [(0, .ref 0), (1, .int d), (2, .int e1), (3, .null), (4, .null)]) (st' := []) (w' := w) rfl ?_
      exact gd_thr E X ht hlk hls xa_IAE st_135 (K.1 33 (.new 67, 0) rfl).1 (K.1 36 (.dup, 0) rfl).1 (K.1 37 (.ldc 135, 0) rfl).1 (K.1 39 (.invokespecial 71, 0) rfl).1 (K.1 42 (.athrow, 0) rfl).1 (by decide) (Or.inl ⟨by rw [gs_join, if_pos (Or.inl hisd)], rfl, ⟨o, hC⟩, gf_c.refl w⟩)
set_option maxRecDepth 100000 in
theorem c3_Gdiscard {l : Launch} (hls : l.stackTraces = false) {D : va_G} {tC : FieldType → ClassId} {ad : Nat → Nat} (hinj : ∀ i j, ad i = ad j → i = j) {S : gs_T} {o : Nat → Nat} (w : gd_W) (hC : gr_C w S o) (hG : gs_Good S) (d : Int32) : gd_Cx l D tC ad 45 6 82 y_G_discard c_G_discard 4 (some .int) [.ref 0, .int d] w (fun r w' => gs_discc S d = 0 ∧ gs_cp (gs_discS S d) (.int (nI (gs_discv S d))) w r w') (fun E w' => (gs_discc S d = 1 ∧ gs_cx S "java/lang/IllegalArgumentException" w E w') ∨ (gs_discc S d = 2 ∧ gs_cx S "java/lang/IllegalStateException" w E w')) := by
  refine gd_Cx_of rfl hinj (Nat.le_of_ble_eq_true rfl) ?_
  intro p e s m args below meth c E X ht hr hlk
  have K := k_G_discard
  have hA : ∀ q, gd_A ad 45 s.heap.size q → gd_A ad 45 s.heap.size q := fun _ h => h
  refine gd_r E K 3 (pc' := 5) (lv' := [(0, .ref 0), (1, .int d)]) (st' := [.int d, .ref 2]) (w' := w) rfl ?_
  refine gd_cVp E hA (av := [.int d]) (rest := []) (c3_find hinj w hC.1 d) (K.1 5 (.invokevirtual 104, 0) rfl).1 ml_G_104 cv_L_find (by decide) rfl ⟨Nat.le_of_ble_eq_true rfl, Nat.le_of_ble_eq_true rfl⟩ ⟨Nat.zero_le _, Nat.zero_le _⟩ rfl (Nat.le_of_ble_eq_true rfl) (fun r9 w9 h9 => ?_)
  obtain ⟨rfl, ⟨ix, k, hi, hd, rfl⟩ | ⟨hno, rfl⟩⟩ := h9
  · obtain ⟨hlix, h6ix, hqix, hrix, Eix, hEix⟩ := hC.1.got hi
    have hal := gs_al_at hi
    refine gd_r E K 4 (pc' := 24) (lv' := [(0, .ref 0), (1, .int d), (2, .ref (4 + 3 * (o ix)))]) (st' := [.ref (4 + 3 * (o ix))]) (w' := w) rfl ?_
    have hisd : gs_isd S d = true := by rw [hd]; exact gs_isd_of hC.2.1.2 hal
    have hcl : d.toNatClampNeg = k := by rw [hd]; exact nI_clamp (by have := hEix.1.2; omega)
    have hs : gs_discc S d = if gs_free S k = true ∧ gs_k S (gs_c S k) = 2 then 0 else 2 := by rw [gs_discc, if_neg (by rw [hisd]; decide), hcl]
    refine gd_cV E hA (av := []) (rest := []) (c3_isFree hinj w (o ix) hqix k hEix) (K.1 24 (.invokevirtual 109, 0) rfl).1 ml_G_109 cv_D_isFree (by omega) (gd_shd hqix) ⟨Nat.le_of_ble_eq_true rfl, Nat.le_of_ble_eq_true rfl⟩ ⟨Nat.zero_le _, Nat.zero_le _⟩ rfl (Nat.le_of_ble_eq_true rfl) ?_
    refine gd_cg (lv' := [(0, .ref 0), (1, .int d), (2, .ref (4 + 3 * (o ix)))]) (st' := [.int (gs_b (gs_free S k))]) (w' := w) ?_ (rfl) (rfl) (rfl)
    cases hfr : gs_free S k with
    | false =>
      refine gd_r E K 1 (pc' := if (gs_b (false)) = 0 then 43 else 30) (lv' := [(0, .ref 0), (1, .int d), (2, .ref (4 + 3 * (o ix)))]) (st' := []) (w' := w) rfl ?_
      refine gd_it (by decide) ?_
      exact gd_thr E X ht hlk hls xa_ISE st_169 (K.1 43 (.new 86, 0) rfl).1 (K.1 46 (.dup, 0) rfl).1 (K.1 47 (.ldc 169, 0) rfl).1 (K.1 49 (.invokespecial 90, 0) rfl).1 (K.1 52 (.athrow, 0) rfl).1 (by decide) (Or.inr ⟨by rw [hs, if_neg (fun z => by rw [hfr] at z; cases z.1)], rfl, ⟨o, hC⟩, gf_c.refl w⟩)
    | true =>
      refine gd_r E K 1 (pc' := if (gs_b (true)) = 0 then 43 else 30) (lv' := [(0, .ref 0), (1, .int d), (2, .ref (4 + 3 * (o ix)))]) (st' := []) (w' := w) rfl ?_
      refine gd_if (by decide) ?_
      have e3 := hEix.2.1.1
      have hck := hEix.2.1.2
      have e4 := hEix.2.2.1.1
      have hu2 := hEix.2.2.1.2
      refine gd_r E K 3 (pc' := 35) (lv' := [(0, .ref 0), (1, .int d), (2, .ref (4 + 3 * (o ix)))]) (st' := [.ref (4 + 3 * (o ix)), .ref 1]) (w' := w) rfl ?_
      refine gd_getd E K (K.1 35 (.getfield 119, 0) rfl).1 rfl (by omega) (gd_shd hqix) rfl (v := .int (nI (gs_c S k))) (by show Value.int _ = Value.int _; rw [e3]) ?_
      obtain ⟨k1, k2⟩ := hC.2.2.1 (gs_c S k) hck
      refine gd_ialdv E (K.1 38 (.iaload, 0) rfl).1 (j := gs_c S k) (by decide) (rfl) (rfl) (hck) (by decide) (v := nI (gs_k S (gs_c S k))) (k1) ?_
      refine gd_r E K 1 (pc' := 40) (lv' := [(0, .ref 0), (1, .int d), (2, .ref (4 + 3 * (o ix)))]) (st' := [.int 2, .int (nI (gs_k S (gs_c S k)))]) (w' := w) rfl ?_
      by_cases hk2 : gs_k S (gs_c S k) = 2
      · refine gd_r E K 1 (pc' := if (nI (gs_k S (gs_c S k))) = 2 then 53 else 43) (lv' := [(0, .ref 0), (1, .int d), (2, .ref (4 + 3 * (o ix)))]) (st' := []) (w' := w) rfl ?_
        refine gd_it (by rw [hk2]; rfl) ?_
        have hc0 : gs_discc S d = 0 := by rw [hs, if_pos ⟨hfr, hk2⟩]
        have hfre := hG.free hal hfr
        refine gd_r E K 1 (pc' := 54) (lv' := [(0, .ref 0), (1, .int d), (2, .ref (4 + 3 * (o ix)))]) (st' := [.ref (4 + 3 * (o ix))]) (w' := w) rfl ?_
        refine gd_getd E K (K.1 54 (.getfield 137, 0) rfl).1 rfl (by omega) (gd_shd hqix) rfl (v := .int (nI (gs_u S k))) (by show Value.int _ = Value.int _; rw [e4]) ?_
        refine gd_r E K 6 (pc' := 65) (lv' := [(0, .ref 0), (1, .int d), (2, .ref (4 + 3 * (o ix))), (3, .int (nI (gs_u S k)))]) (st' := [.int ((w.1 0 7) + (nI (gs_u S k))), .ref 0]) (w' := w) rfl ?_
        refine gd_cg (lv' := [(0, .ref 0), (1, .int d), (2, .ref (4 + 3 * (o ix))), (3, .int (nI (gs_u S k)))]) (st' := [.int ((nI (gs_thr S)) + (nI (gs_u S k))), .ref 0]) (w' := w) ?_ (rfl) (by simp only [hC.2.2.2.2.2.2.1]) rfl
        refine gd_cg (lv' := [(0, .ref 0), (1, .int d), (2, .ref (4 + 3 * (o ix))), (3, .int (nI (gs_u S k)))]) (st' := [.int (nI (gs_thr S + gs_u S k)), .ref 0]) (w' := w) ?_ (rfl) (by rw [nI_add]) (rfl)
        refine gd_r E K 4 (pc' := 73) (lv' := [(0, .ref 0), (1, .int d), (2, .ref (4 + 3 * (o ix))), (3, .int (nI (gs_u S k)))]) (st' := [.ref (4 + 3 * (o ix)), .ref 2]) (w' := gd_rI w 0 (upd (w.1 0) 7 (nI (gs_thr S + gs_u S k)))) rfl ?_
        have hl1 : (gd_rI w 0 (upd (w.1 0) 7 (nI (gs_thr S + gs_u S k)))).1 2 1 = nI (gs_al S).length := by rw [gd_rI_n (by decide)]; exact hC.1.1.1
        refine gd_cVp E hA (av := [.ref (4 + 3 * (o ix))]) (rest := []) (c3_remove hinj (gd_rI w 0 (upd (w.1 0) 7 (nI (gs_thr S + gs_u S k)))) (gs_al S).length ix o hC.1.1.2 hlix hl1 hC.1.2.1 hC.1.2.2.1) (K.1 73 (.invokevirtual 171, 0) rfl).1 ml_G_171 cv_L_remove (by decide) (rfl) ⟨Nat.le_of_ble_eq_true rfl, Nat.le_of_ble_eq_true rfl⟩ ⟨Nat.zero_le _, Nat.zero_le _⟩ rfl (Nat.le_of_ble_eq_true rfl) (fun r9 w2 h9 => ?_)
        obtain ⟨rfl, r1, r2, r3, r4⟩ := h9
        refine gd_r E K 1 (pc' := 77) (lv' := [(0, .ref 0), (1, .int d), (2, .ref (4 + 3 * (o ix))), (3, .int (nI (gs_u S k)))]) (st' := [.int (nI (gs_u S k))]) (w' := w2) rfl ?_
        have hg := hC.disc (t := gs_thr S + gs_u S k) hi hfre.2.1 r1 r2 r4
        have hS : gs_discS S d = gs_fd (gs_sc S 2 (gs_thr S + gs_u S k)) 0 k 0 := by rw [gs_discS, if_pos hc0, hcl]
        have hv : gs_discv S d = gs_u S k := by rw [gs_discv, if_pos hc0, hcl]
        refine gd_xr ?_
        exact gd_iretp E hr hlk (K.1 77 (.ireturn, 0) rfl).1 (⟨hc0, by rw [hS, hv]; exact ⟨rfl, ⟨_, hg⟩, ⟨fun a ha => ⟨by rw [r1, gd_rI_n (by omega), gd_rI_n (by omega)], by rw [r2]; rfl⟩, fun a ha => by rw [r3 a ha]; rfl⟩⟩⟩)
      · refine gd_r E K 1 (pc' := if (nI (gs_k S (gs_c S k))) = 2 then 53 else 43) (lv' := [(0, .ref 0), (1, .int d), (2, .ref (4 + 3 * (o ix)))]) (st' := []) (w' := w) rfl ?_
        refine gd_if (fun h => hk2 (by rw [show (2 : Int32) = nI 2 from rfl, nI_eq (by omega) (by decide)] at h; exact h)) ?_
        exact gd_thr E X ht hlk hls xa_ISE st_169 (K.1 43 (.new 86, 0) rfl).1 (K.1 46 (.dup, 0) rfl).1 (K.1 47 (.ldc 169, 0) rfl).1 (K.1 49 (.invokespecial 90, 0) rfl).1 (K.1 52 (.athrow, 0) rfl).1 (by decide) (Or.inr ⟨by rw [hs, if_neg (fun z => hk2 z.2)], rfl, ⟨o, hC⟩, gf_c.refl w⟩)
  · have hisd := gs_isd_no hC.2.1.2 hno
    refine gd_r E K 3 (pc' := 13) (lv' := [(0, .ref 0), (1, .int d), (2, .null)]) (st' := []) (w' := w) rfl ?_
    exact gd_thr E X ht hlk hls xa_IAE st_148 (K.1 13 (.new 67, 0) rfl).1 (K.1 16 (.dup, 0) rfl).1 (K.1 17 (.ldc 148, 0) rfl).1 (K.1 19 (.invokespecial 71, 0) rfl).1 (K.1 22 (.athrow, 0) rfl).1 (by decide) (Or.inl ⟨by rw [gs_discc, if_pos hisd], rfl, ⟨o, hC⟩, gf_c.refl w⟩)
set_option maxRecDepth 100000 in
theorem c3_GsplitUp {l : Launch} {D : va_G} {tC : FieldType → ClassId} {ad : Nat → Nat} (hinj : ∀ i j, ad i = ad j → i = j) {S : gs_T} {o : Nat → Nat} (w : gd_W) (hC : gr_C w S o) (hG : gs_Good S) (ix k a b : Nat) (hi : (gs_al S)[ix]? = some k) (h6 : (gs_al S).length < 6) (hm : gs_made S < 59) (ha : a < 64) (hb : b < 64) (hik : gs_i S k = 0) : gd_Cp l D tC ad 45 2 51 y_G_splitUp c_G_splitUp 6 (some .int) [.ref 0, .ref (4 + 3 * (o ix)), .int (nI a), .int (nI b)] w (gs_cp (gs_halfS S k a b) (.int (nI (gs_made S))) w) := by
  refine gd_Cp_of rfl hinj (Nat.le_of_ble_eq_true rfl) ?_
  intro p e s m args below meth c E hr hlk
  have K := k_G_splitUp
  have hA : ∀ q, gd_A ad 45 s.heap.size q → gd_A ad 45 s.heap.size q := fun _ h => h
  obtain ⟨n, hn⟩ : ∃ n, (gs_al S).length = n := ⟨_, rfl⟩
  rw [hn] at h6
  obtain ⟨hl, -, hqix, -, E1, hE1⟩ := hC.1.got hi
  have hlist := hC.1.2.1
  obtain ⟨L1, hqn⟩ := hlist n h6
  have hcnt : w.1 2 1 = nI n := by rw [← hn]; exact hC.1.1.1
  have hnix : ix ≠ n := by omega
  have hoo := hC.1.off (show ix < 6 by omega) h6 hnix
  refine gd_r E K 3 (pc' := 5) (lv' := [(0, .ref 0), (1, .ref (4 + 3 * (o ix))), (2, .int (nI a)), (3, .int (nI b))]) (st' := [.int (nI a), .ref 2]) (w' := w) rfl ?_
  refine gd_cVp E hA (av := [.int (nI a)]) (rest := []) (c3_Ladd hinj w n (o n) (gs_made S) h6 hqn hcnt hC.2.1.1 L1 (nI a)) (K.1 5 (.invokevirtual 91, 0) rfl).1 ml_G_91 cv_L_add (by decide) (rfl) ⟨Nat.le_of_ble_eq_true rfl, Nat.le_of_ble_eq_true rfl⟩ ⟨Nat.zero_le _, Nat.zero_le _⟩ rfl (Nat.le_of_ble_eq_true rfl) (fun r9 w1 h9 => ?_)
  obtain ⟨rfl, a1⟩ := h9
  refine gd_r E K 3 (pc' := 13) (lv' := [(0, .ref 0), (1, .ref (4 + 3 * (o ix))), (2, .int (nI a)), (3, .int (nI b)), (4, .ref (4 + 3 * (o n)))]) (st' := [.ref (4 + 3 * (o ix)), .ref (4 + 3 * (o n))]) (w' := w1) rfl ?_
  have a1' : gc_la w w1 n (o n) (gs_made S) (nI a) := a1
  have p1 : w1.1 (4 + 3 * (o ix)) 5 = nI (gs_p S k) := by rw [a1.1 _ (by omega) (by omega)]; exact hE1.2.2.2.1.1
  have s1 : ∀ j, j < 4 → w1.2.1 (6 + 3 * (o ix)) j = gs_sh S k j := fun j hj => by rw [a1.2.2.2.2.2]; exact hE1.2.2.2.2.2.2.2.2.2 j hj
  refine gd_cVp E hA (av := [.ref (4 + 3 * (o ix))]) (rest := []) (c3_fillLike hinj w1 (o n) hqn (o ix) hqix (gs_p S k) (gs_sh S k) p1 s1) (K.1 13 (.invokevirtual 223, 0) rfl).1 ml_G_223 cv_D_fillLike (by omega) (gd_shd hqn) ⟨Nat.le_of_ble_eq_true rfl, Nat.le_of_ble_eq_true rfl⟩ ⟨Nat.zero_le _, Nat.zero_le _⟩ rfl (Nat.le_of_ble_eq_true rfl) (fun r9 w2 h9 => ?_)
  obtain ⟨rfl, n1⟩ := h9
  refine gd_r E K 3 (pc' := 21) (lv' := [(0, .ref 0), (1, .ref (4 + 3 * (o ix))), (2, .int (nI a)), (3, .int (nI b)), (4, .ref (4 + 3 * (o n)))]) (st' := [.ref (4 + 3 * (o ix)), .ref 2]) (w' := w2) rfl ?_
  have c2 : w2.1 2 1 = nI (n + 1) := by rw [n1.1 2 (by omega)]; exact a1.2.2.2.1
  have l2 : ∀ i, i < 6 → w2.2.2 3 i = some (4 + 3 * o i) ∧ o i < 6 := fun i hi => by rw [n1.2.2.2.2.1, a1.2.2.2.2.2]; exact hlist i hi
  refine gd_cVp E hA (av := [.ref (4 + 3 * (o ix))]) (rest := []) (c3_remove hinj w2 (n + 1) ix o (by omega) (by omega) c2 l2 hC.1.2.2.1) (K.1 21 (.invokevirtual 171, 0) rfl).1 ml_G_171 cv_L_remove (by decide) (rfl) ⟨Nat.le_of_ble_eq_true rfl, Nat.le_of_ble_eq_true rfl⟩ ⟨Nat.zero_le _, Nat.zero_le _⟩ rfl (Nat.le_of_ble_eq_true rfl) (fun r9 w3 h9 => ?_)
  obtain ⟨rfl, r⟩ := h9
  refine gd_r E K 3 (pc' := 29) (lv' := [(0, .ref 0), (1, .ref (4 + 3 * (o ix))), (2, .int (nI a)), (3, .int (nI b)), (4, .ref (4 + 3 * (o n)))]) (st' := [.int (nI b), .ref 2]) (w' := w3) rfl ?_
  have r' : gc_rm w2 w3 (n + 1) ix o := r
  obtain ⟨o2, ho2⟩ : ∃ o2, gc_rot o ix (n + 1) = o2 := ⟨_, rfl⟩
  rw [ho2] at r
  have hq2n : o2 n < 6 := by rw [← ho2]; exact gc_rot_lt (by omega) (by omega) (fun i hi => (hlist i hi).2) h6
  have h2x : o2 n = o ix := by rw [← ho2]; unfold gc_rot; rw [if_neg (by omega), if_neg (by omega), if_pos rfl]
  have c3 : w3.1 2 1 = nI n := by rw [r.1, gd_rI_s, gd_u_s]; rfl
  have m3 : w3.1 2 2 = nI (gs_made S + 1) := by rw [r.1, gd_rI_s, gd_u_n (by decide), n1.1 2 (by omega)]; exact a1.2.2.2.2.1
  refine gd_cVp E hA (av := [.int (nI b)]) (rest := []) (c3_Ladd hinj w3 n (o2 n) (gs_made S + 1) h6 hq2n c3 m3 (r.2.2.2 n h6) (nI b)) (K.1 29 (.invokevirtual 91, 0) rfl).1 ml_G_91 cv_L_add (by decide) (rfl) ⟨Nat.le_of_ble_eq_true rfl, Nat.le_of_ble_eq_true rfl⟩ ⟨Nat.zero_le _, Nat.zero_le _⟩ rfl (Nat.le_of_ble_eq_true rfl) (fun r9 w4 h9 => ?_)
  obtain ⟨rfl, a2⟩ := h9
  refine gd_r E K 3 (pc' := 38) (lv' := [(0, .ref 0), (1, .ref (4 + 3 * (o ix))), (2, .int (nI a)), (3, .int (nI b)), (4, .ref (4 + 3 * (o n))), (5, .ref (4 + 3 * (o2 n)))]) (st' := [.ref (4 + 3 * (o n)), .ref (4 + 3 * (o2 n))]) (w' := w4) rfl ?_
  have p4 : w4.1 (4 + 3 * (o n)) 5 = nI (gs_p S k) := by rw [a2.1 _ (by omega) (by omega), r.1, gd_rI_n (by omega)]; exact n1.2.2.1
  have s4 : ∀ j, j < 4 → w4.2.1 (6 + 3 * (o n)) j = gs_sh S k j := fun j hj => by rw [a2.2.2.2.2.2, r.2.1]; exact n1.2.2.2.2.2 j hj
  refine gd_cVp E hA (av := [.ref (4 + 3 * (o n))]) (rest := []) (c3_fillLike hinj w4 (o2 n) hq2n (o n) hqn (gs_p S k) (gs_sh S k) p4 s4) (K.1 38 (.invokevirtual 223, 0) rfl).1 ml_G_223 cv_D_fillLike (by omega) (gd_shd hq2n) ⟨Nat.le_of_ble_eq_true rfl, Nat.le_of_ble_eq_true rfl⟩ ⟨Nat.zero_le _, Nat.zero_le _⟩ rfl (Nat.le_of_ble_eq_true rfl) (fun r9 w5 h9 => ?_)
  obtain ⟨rfl, n2⟩ := h9
  have hg : gr_C w5 (gs_halfS S k a b) (gc_rot o ix (n + 1)) := hC.half hG hi hn h6 hm ha hb hik a1' n1 r' (by rw [ho2]; exact a2) (by rw [ho2]; exact n2)
  have hnum : w5.1 (4 + 3 * (o n)) 2 = nI (gs_made S) := by rw [n2.1 _ (by omega), a2.1 _ (by omega) (by omega), r.1, gd_rI_n (by omega), n1.2.1 2 (by decide), a1.2.1]; rfl
  refine gd_r E K 1 (pc' := 43) (lv' := [(0, .ref 0), (1, .ref (4 + 3 * (o ix))), (2, .int (nI a)), (3, .int (nI b)), (4, .ref (4 + 3 * (o n))), (5, .ref (4 + 3 * (o2 n)))]) (st' := [.ref (4 + 3 * (o n))]) (w' := w5) rfl ?_
  refine gd_getd E K (K.1 43 (.getfield 101, 0) rfl).1 rfl (by omega) (gd_shd hqn) rfl (v := .int (nI (gs_made S))) (by show Value.int _ = Value.int _; rw [hnum]) ?_
  exact gd_iretp E hr hlk (K.1 46 (.ireturn, 0) rfl).1 (⟨rfl, ⟨_, hg⟩, ⟨fun a ha => ⟨by rw [n2.1 a (by omega), a2.1 a (by omega) (by omega), r.1, gd_rI_n (by omega), n1.1 a (by omega), a1.1 a (by omega) (by omega)], by rw [n2.2.2.2.1 a (by omega), a2.2.2.2.2.2, r.2.1, n1.2.2.2.1 a (by omega), a1.2.2.2.2.2]⟩, fun a ha => by rw [n2.2.2.2.2.1, a2.2.2.2.2.2, r.2.2.1 a ha, n1.2.2.2.2.1, a1.2.2.2.2.2]⟩⟩)
theorem gs_rest_bit {S : gs_T} (hw : gs_wys S) {w2 : gd_W} {k c : Nat} (t : gc_tk w2 (gs_P S (some k) none)) (hc : c < 64) {dd : Int64} (hdd : ∀ c, c < 64 → (gm_bit dd c = true ↔ gs_k S c = 1)) : (!gm_bit (dd ||| gm_ud (gm_sw (gc_ua (w2.2.1 23) 61))) c) = (!decide (gs_k S c = 1) && gs_rest S k c) := by
  have h1 := hdd c hc
  have h2 := gc_ua_near t hc
  rw [gc_shE_iff hw] at h2
  unfold gs_rest
  rw [gm_bit_or]
  have e1 : gm_bit dd c = decide (gs_k S c = 1) := by rw [Bool.eq_iff_iff, h1, decide_eq_true_iff]
  have e2 : gm_bit (gm_ud (gm_sw (gc_ua (w2.2.1 23) 61))) c = gs_mtR (gs_T2 S (some k) none) (gs_cn S (some k) none) c 0 := by rw [Bool.eq_iff_iff, h2]
  rw [e1, e2, Bool.not_or]
theorem gs_half2_no {S : gs_T} {k : Nat} {x y : Option Nat} (h : ∀ a b, x = some a → y = some b → gs_halfok S k a b = false) : (gs_half2 S k x y).1 = 2 := by
  unfold gs_half2
  split
  · rename_i a b
    rw [h a b rfl rfl]; rfl
  · rfl
set_option maxRecDepth 100000 in
theorem c3_GhalveU {l : Launch} (hls : l.stackTraces = false) {D : va_G} {tC : FieldType → ClassId} {ad : Nat → Nat} (hinj : ∀ i j, ad i = ad j → i = j) {S : gs_T} {o : Nat → Nat} (w : gd_W) (hC : gr_C w S o) (hG : gs_Good S) (d : Int32) : gd_Cx l D tC ad 45 6 93 y_G_halve c_G_halve 8 (some .int) [.ref 0, .int d, .int 1] w (fun r w' => (gs_halve S d true).1 = 0 ∧ gs_cp (gs_halve S d true).2.2 (.int (nI (gs_halve S d true).2.1)) w r w') (fun E w' => ((gs_halve S d true).1 = 1 ∧ gs_cx S "java/lang/IllegalArgumentException" w E w') ∨ ((gs_halve S d true).1 = 2 ∧ gs_cx S "java/lang/IllegalStateException" w E w')) := by
  refine gd_Cx_of rfl hinj (Nat.le_of_ble_eq_true rfl) ?_
  intro p e s m args below meth c E X ht hr hlk
  have K := k_G_halve
  have hA : ∀ q, gd_A ad 45 s.heap.size q → gd_A ad 45 s.heap.size q := fun _ h => h
  refine gd_r E K 3 (pc' := 5) (lv' := [(0, .ref 0), (1, .int d), (2, .int 1)]) (st' := [.int d, .ref 2]) (w' := w) rfl ?_
  refine gd_cVp E hA (av := [.int d]) (rest := []) (c3_find hinj w hC.1 d) (K.1 5 (.invokevirtual 104, 0) rfl).1 ml_G_104 cv_L_find (by decide) rfl ⟨Nat.le_of_ble_eq_true rfl, Nat.le_of_ble_eq_true rfl⟩ ⟨Nat.zero_le _, Nat.zero_le _⟩ rfl (Nat.le_of_ble_eq_true rfl) (fun r9 w9 h9 => ?_)
  obtain ⟨rfl, ⟨ix, k, hi, hd, rfl⟩ | ⟨hno, rfl⟩⟩ := h9
  · obtain ⟨hlix, h6ix, hqix, hrix, Eix, hEix⟩ := hC.1.got hi
    have hal := gs_al_at hi
    refine gd_r E K 4 (pc' := 24) (lv' := [(0, .ref 0), (1, .int d), (2, .int 1), (3, .ref (4 + 3 * (o ix)))]) (st' := [.ref (4 + 3 * (o ix))]) (w' := w) rfl ?_
    have hisd : gs_isd S d = true := by rw [hd]; exact gs_isd_of hC.2.1.2 hal
    have hcl : d.toNatClampNeg = k := by rw [hd]; exact nI_clamp (by have := hEix.1.2; omega)
    have hs : gs_halve S d true = gs_half2 S k (gm_mv (gs_c S k) 1) (gm_mv (gs_c S k) 3) := by rw [gs_halve, if_neg (by rw [hisd]; decide), hcl]; rfl
    have e3 := hEix.2.1.1
    have hck := hEix.2.1.2
    have e4 := hEix.2.2.1.1
    have hu2 := hEix.2.2.1.2
    have hlen : (gs_al S).length = gs_cnt (gs_u S) (gs_made S) := gs_ot_all _ _
    have hc6 := hG.2.1.1
    have hN := hG.2.1.2
    refine gd_cV E hA (av := []) (rest := []) (c3_isFree hinj w (o ix) hqix k hEix) (K.1 24 (.invokevirtual 109, 0) rfl).1 ml_G_109 cv_D_isFree (by omega) (gd_shd hqix) ⟨Nat.le_of_ble_eq_true rfl, Nat.le_of_ble_eq_true rfl⟩ ⟨Nat.zero_le _, Nat.zero_le _⟩ rfl (Nat.le_of_ble_eq_true rfl) ?_
    refine gd_cg (lv' := [(0, .ref 0), (1, .int d), (2, .int 1), (3, .ref (4 + 3 * (o ix)))]) (st' := [.int (gs_b (gs_free S k))]) (w' := w) ?_ (rfl) (rfl) (rfl)
    cases hfr : gs_free S k with
    | false =>
      refine gd_r E K 1 (pc' := if (gs_b (false)) = 0 then 38 else 30) (lv' := [(0, .ref 0), (1, .int d), (2, .int 1), (3, .ref (4 + 3 * (o ix)))]) (st' := []) (w' := w) rfl ?_
      refine gd_it (by decide) ?_
      exact gd_thr E X ht hlk hls xa_ISE st_150 (K.1 38 (.new 86, 0) rfl).1 (K.1 41 (.dup, 0) rfl).1 (K.1 42 (.ldc 150, 0) rfl).1 (K.1 44 (.invokespecial 90, 0) rfl).1 (K.1 47 (.athrow, 0) rfl).1 (by decide) (Or.inr ⟨by rw [hs]; exact gs_half2_no (fun a b h1 h2 => by unfold gs_halfok gs_fits; simp [hfr]), rfl, ⟨o, hC⟩, gf_c.refl w⟩)
    | true =>
      refine gd_r E K 1 (pc' := if (gs_b (true)) = 0 then 38 else 30) (lv' := [(0, .ref 0), (1, .int d), (2, .int 1), (3, .ref (4 + 3 * (o ix)))]) (st' := []) (w' := w) rfl ?_
      refine gd_if (by decide) ?_
      refine gd_r E K 1 (pc' := 31) (lv' := [(0, .ref 0), (1, .int d), (2, .int 1), (3, .ref (4 + 3 * (o ix)))]) (st' := [.ref (4 + 3 * (o ix))]) (w' := w) rfl ?_
      refine gd_getd E K (K.1 31 (.getfield 137, 0) rfl).1 rfl (by omega) (gd_shd hqix) rfl (v := .int (nI (gs_u S k))) (by show Value.int _ = Value.int _; rw [e4]) ?_
      refine gd_r E K 1 (pc' := 35) (lv' := [(0, .ref 0), (1, .int d), (2, .int 1), (3, .ref (4 + 3 * (o ix)))]) (st' := [.int 2, .int (nI (gs_u S k))]) (w' := w) rfl ?_
      by_cases hv2 : gs_u S k = 2
      · refine gd_r E K 1 (pc' := if (nI (gs_u S k)) = 2 then 48 else 38) (lv' := [(0, .ref 0), (1, .int d), (2, .int 1), (3, .ref (4 + 3 * (o ix)))]) (st' := []) (w' := w) rfl ?_
        refine gd_it (by rw [hv2]; rfl) ?_
        refine gd_r E K 4 (pc' := 57) (lv' := [(0, .ref 0), (1, .int d), (2, .int 1), (3, .ref (4 + 3 * (o ix)))]) (st' := [.int 6, .int (w.1 2 1)]) (w' := w) rfl ?_
        refine gd_cg (lv' := [(0, .ref 0), (1, .int d), (2, .int 1), (3, .ref (4 + 3 * (o ix)))]) (st' := [.int 6, .int (nI (gs_al S).length)]) (w' := w) ?_ (rfl) (by simp only [hC.1.1.1]) rfl
        by_cases hn6 : (gs_al S).length < 6
        · refine gd_r E K 1 (pc' := if 6 ≤ (nI (gs_al S).length) then 72 else 60) (lv' := [(0, .ref 0), (1, .int d), (2, .int 1), (3, .ref (4 + 3 * (o ix)))]) (st' := []) (w' := w) rfl ?_
          refine gd_if (nI_ge hn6 (by decide)) ?_
          refine gd_r E K 4 (pc' := 69) (lv' := [(0, .ref 0), (1, .int d), (2, .int 1), (3, .ref (4 + 3 * (o ix)))]) (st' := [.int 58, .int (w.1 2 2)]) (w' := w) rfl ?_
          refine gd_cg (lv' := [(0, .ref 0), (1, .int d), (2, .int 1), (3, .ref (4 + 3 * (o ix)))]) (st' := [.int 58, .int (nI (gs_made S))]) (w' := w) ?_ (rfl) (by simp only [hC.2.1.1]) rfl
          by_cases hm : gs_made S < 59
          · refine gd_r E K 1 (pc' := if (nI (gs_made S)) ≤ 58 then 82 else 72) (lv' := [(0, .ref 0), (1, .int d), (2, .int 1), (3, .ref (4 + 3 * (o ix)))]) (st' := []) (w' := w) rfl ?_
            refine gd_it (by rw [show (58 : Int32) = nI 58 from rfl, nI_leI (by omega) (by decide)]; omega) ?_
            refine gd_r E K 1 (pc' := 83) (lv' := [(0, .ref 0), (1, .int d), (2, .int 1), (3, .ref (4 + 3 * (o ix)))]) (st' := [.ref (4 + 3 * (o ix))]) (w' := w) rfl ?_
            refine gd_getd E K (K.1 83 (.getfield 119, 0) rfl).1 rfl (by omega) (gd_shd hqix) rfl (v := .int (nI (gs_c S k))) (by show Value.int _ = Value.int _; rw [e3]) ?_
            refine gd_r E K 4 (pc' := 95) (lv' := [(0, .ref 0), (1, .int d), (2, .int 1), (3, .ref (4 + 3 * (o ix)))]) (st' := [.int 1, .int (nI (gs_c S k))]) (w' := w) rfl ?_
            refine gd_cg (lv' := [(0, .ref 0), (1, .int d), (2, .int 1), (3, .ref (4 + 3 * (o ix)))]) (st' := [.int (nI 1), .int (nI (gs_c S k))]) (w' := w) ?_ (rfl) (rfl) (rfl)
            refine gd_cS E hA (av := [.int (nI (gs_c S k)), .int (nI 1)]) (rest := []) (c2_after hinj (gs_c S k) 1 hck (by decide) w) (K.1 95 (.invokestatic 152, 0) rfl).1 ml_G_152 cv_S_after ⟨Nat.le_of_ble_eq_true rfl, Nat.le_of_ble_eq_true rfl⟩ ⟨Nat.zero_le _, Nat.zero_le _⟩ rfl (Nat.le_of_ble_eq_true rfl) ?_
            refine gd_r E K 2 (pc' := 101) (lv' := [(0, .ref 0), (1, .int d), (2, .int 1), (3, .ref (4 + 3 * (o ix))), (4, .int (gm_nO (gm_mv (gs_c S k) 1)))]) (st' := [.ref (4 + 3 * (o ix))]) (w' := w) rfl ?_
            refine gd_getd E K (K.1 101 (.getfield 119, 0) rfl).1 rfl (by omega) (gd_shd hqix) rfl (v := .int (nI (gs_c S k))) (by show Value.int _ = Value.int _; rw [e3]) ?_
            refine gd_r E K 4 (pc' := 113) (lv' := [(0, .ref 0), (1, .int d), (2, .int 1), (3, .ref (4 + 3 * (o ix))), (4, .int (gm_nO (gm_mv (gs_c S k) 1)))]) (st' := [.int 3, .int (nI (gs_c S k))]) (w' := w) rfl ?_
            refine gd_cg (lv' := [(0, .ref 0), (1, .int d), (2, .int 1), (3, .ref (4 + 3 * (o ix))), (4, .int (gm_nO (gm_mv (gs_c S k) 1)))]) (st' := [.int (nI 3), .int (nI (gs_c S k))]) (w' := w) ?_ (rfl) (rfl) (rfl)
            refine gd_cS E hA (av := [.int (nI (gs_c S k)), .int (nI 3)]) (rest := []) (c2_after hinj (gs_c S k) 3 hck (by decide) w) (K.1 113 (.invokestatic 152, 0) rfl).1 ml_G_152 cv_S_after ⟨Nat.le_of_ble_eq_true rfl, Nat.le_of_ble_eq_true rfl⟩ ⟨Nat.zero_le _, Nat.zero_le _⟩ rfl (Nat.le_of_ble_eq_true rfl) ?_
            refine gd_r E K 4 (pc' := 121) (lv' := [(0, .ref 0), (1, .int d), (2, .int 1), (3, .ref (4 + 3 * (o ix))), (4, .int (gm_nO (gm_mv (gs_c S k) 1))), (5, .int (gm_nO (gm_mv (gs_c S k) 3)))]) (st' := [.null, .ref (4 + 3 * (o ix)), .ref 0]) (w' := w) rfl ?_
            obtain ⟨X0, hX⟩ : ∃ X0, gm_mv (gs_c S k) 1 = X0 := ⟨_, rfl⟩
            obtain ⟨Y0, hY⟩ : ∃ Y0, gm_mv (gs_c S k) 3 = Y0 := ⟨_, rfl⟩
            have hXl : ∀ b, X0 = some b → b < 64 := fun b h => gm_mv_lt hck (by rw [hX]; exact h)
            have hYl : ∀ b, Y0 = some b → b < 64 := fun b h => gm_mv_lt hck (by rw [hY]; exact h)
            rw [hX, hY] at hs
            refine gd_cg (lv' := [(0, .ref 0), (1, .int d), (2, .int 1), (3, .ref (4 + 3 * (o ix))), (4, .int (gm_nO X0)), (5, .int (gm_nO Y0))]) (st' := [.null, .ref (4 + 3 * (o ix)), .ref 0]) (w' := w) ?_ (by rw [hX, hY]) (rfl) (rfl)
            refine gd_cVp E hA (av := [.ref (4 + 3 * (o ix)), .null]) (rest := []) (c3_heed1 hinj w hC hG.1 ix k hi) (K.1 121 (.invokevirtual 115, 0) rfl).1 ml_G_115 cv_G_heedAllBut (by decide) (rfl) ⟨Nat.le_of_ble_eq_true rfl, Nat.le_of_ble_eq_true rfl⟩ ⟨Nat.zero_le _, Nat.zero_le _⟩ rfl (Nat.le_of_ble_eq_true rfl) (fun r9 w2 h9 => ?_)
            obtain ⟨rfl, f2, t2⟩ := h9
            have hC2 := f2.C (by decide) hC
            have g2 := f2.c (by decide)
            refine gd_r E K 4 (pc' := 132) (lv' := [(0, .ref 0), (1, .int d), (2, .int 1), (3, .ref (4 + 3 * (o ix))), (4, .int (gm_nO X0)), (5, .int (gm_nO Y0))]) (st' := [.ref 22, .long (w2.2.1 0 4)]) (w' := w2) rfl ?_
            refine gd_cV E hA (av := []) (rest := [.long (w2.2.1 0 4)]) (c3_everShut hinj w2) (K.1 132 (.invokevirtual 155, 0) rfl).1 ml_G_155 cv_F_everShut (by decide) (rfl) ⟨Nat.le_of_ble_eq_true rfl, Nat.le_of_ble_eq_true rfl⟩ ⟨Nat.zero_le _, Nat.zero_le _⟩ rfl (Nat.le_of_ble_eq_true rfl) ?_
            refine gd_r E K 4 (pc' := 142) (lv' := [(0, .ref 0), (1, .int d), (2, .int 1), (3, .ref (4 + 3 * (o ix))), (4, .int (gm_nO X0)), (5, .int (gm_nO Y0)), (6, .long ((w2.2.1 0 4) ||| (gm_ud (gm_sw (gc_ua (w2.2.1 23) 61)))))]) (st' := [.long ((w2.2.1 0 4) ||| (gm_ud (gm_sw (gc_ua (w2.2.1 23) 61)))), .int (gm_nO X0)]) (w' := w2) rfl ?_
            have hop : ∀ c, c < 64 → gc_op (w2.2.1 0 4 ||| gm_ud (gm_sw (gc_ua (w2.2.1 23) 61))) (some c) = (!decide (gs_k S c = 1) && gs_rest S k c) := fun c hc => gs_rest_bit hG.1 t2 hc hC2.2.2.2.1
            generalize hyy : w2.2.1 0 4 ||| gm_ud (gm_sw (gc_ua (w2.2.1 23) 61)) = yy at hop ⊢
            refine gd_cS E hA (av := [.int (gm_nO X0), .long yy]) (rest := []) (c3_isOpen hinj w2 X0 hXl yy) (K.1 142 (.invokestatic 159, 0) rfl).1 ml_G_159 cv_G_isOpen ⟨Nat.le_of_ble_eq_true rfl, Nat.le_of_ble_eq_true rfl⟩ ⟨Nat.zero_le _, Nat.zero_le _⟩ rfl (Nat.le_of_ble_eq_true rfl) ?_
            cases ho1 : gc_op yy X0 with
            | false =>
              refine gd_r E K 1 (pc' := if (gs_b (false)) = 0 then 158 else 148) (lv' := [(0, .ref 0), (1, .int d), (2, .int 1), (3, .ref (4 + 3 * (o ix))), (4, .int (gm_nO X0)), (5, .int (gm_nO Y0)), (6, .long yy)]) (st' := []) (w' := w2) rfl ?_
              refine gd_it (by decide) ?_
              exact gd_thr E X ht hlk hls xa_ISE st_163 (K.1 158 (.new 86, 0) rfl).1 (K.1 161 (.dup, 0) rfl).1 (K.1 162 (.ldc 163, 0) rfl).1 (K.1 164 (.invokespecial 90, 0) rfl).1 (K.1 167 (.athrow, 0) rfl).1 (by decide) (Or.inr ⟨by rw [hs]; exact gs_half2_no (fun a b h1 h2 => by rw [h1, hop a (hXl a h1)] at ho1; unfold gs_halfok gs_fits; cases h8 : gs_rest S k a <;> simp_all), rfl, ⟨o, hC2⟩, g2⟩)
            | true =>
              refine gd_r E K 1 (pc' := if (gs_b (true)) = 0 then 158 else 148) (lv' := [(0, .ref 0), (1, .int d), (2, .int 1), (3, .ref (4 + 3 * (o ix))), (4, .int (gm_nO X0)), (5, .int (gm_nO Y0)), (6, .long yy)]) (st' := []) (w' := w2) rfl ?_
              refine gd_if (by decide) ?_
              refine gd_r E K 2 (pc' := 152) (lv' := [(0, .ref 0), (1, .int d), (2, .int 1), (3, .ref (4 + 3 * (o ix))), (4, .int (gm_nO X0)), (5, .int (gm_nO Y0)), (6, .long yy)]) (st' := [.long yy, .int (gm_nO Y0)]) (w' := w2) rfl ?_
              refine gd_cS E hA (av := [.int (gm_nO Y0), .long yy]) (rest := []) (c3_isOpen hinj w2 Y0 hYl yy) (K.1 152 (.invokestatic 159, 0) rfl).1 ml_G_159 cv_G_isOpen ⟨Nat.le_of_ble_eq_true rfl, Nat.le_of_ble_eq_true rfl⟩ ⟨Nat.zero_le _, Nat.zero_le _⟩ rfl (Nat.le_of_ble_eq_true rfl) ?_
              cases ho2 : gc_op yy Y0 with
              | false =>
                refine gd_r E K 1 (pc' := if (gs_b (false)) = 0 then 158 else 168) (lv' := [(0, .ref 0), (1, .int d), (2, .int 1), (3, .ref (4 + 3 * (o ix))), (4, .int (gm_nO X0)), (5, .int (gm_nO Y0)), (6, .long yy)]) (st' := []) (w' := w2) rfl ?_
                refine gd_it (by decide) ?_
                exact gd_thr E X ht hlk hls xa_ISE st_163 (K.1 158 (.new 86, 0) rfl).1 (K.1 161 (.dup, 0) rfl).1 (K.1 162 (.ldc 163, 0) rfl).1 (K.1 164 (.invokespecial 90, 0) rfl).1 (K.1 167 (.athrow, 0) rfl).1 (by decide) (Or.inr ⟨by rw [hs]; exact gs_half2_no (fun a b h1 h2 => by rw [h2, hop b (hYl b h2)] at ho2; unfold gs_halfok gs_fits; cases h8 : gs_rest S k b <;> simp_all), rfl, ⟨o, hC2⟩, g2⟩)
              | true =>
                refine gd_r E K 1 (pc' := if (gs_b (true)) = 0 then 158 else 168) (lv' := [(0, .ref 0), (1, .int d), (2, .int 1), (3, .ref (4 + 3 * (o ix))), (4, .int (gm_nO X0)), (5, .int (gm_nO Y0)), (6, .long yy)]) (st' := []) (w' := w2) rfl ?_
                refine gd_if (by decide) ?_
                refine gd_r E K 4 (pc' := 174) (lv' := [(0, .ref 0), (1, .int d), (2, .int 1), (3, .ref (4 + 3 * (o ix))), (4, .int (gm_nO X0)), (5, .int (gm_nO Y0)), (6, .long yy)]) (st' := [.int (gm_nO Y0), .int (gm_nO X0), .ref (4 + 3 * (o ix)), .ref 0]) (w' := w2) rfl ?_
                cases X0 with
                | none => cases ho1
                | some a =>
                  cases Y0 with
                  | none => cases ho2
                  | some b =>
                    have ha := hXl a rfl
                    have hb := hYl b rfl
                    rw [hop a ha] at ho1
                    rw [hop b hb] at ho2
                    have hokk : gs_halfok S k a b = true := by unfold gs_halfok gs_fits; simp only [Bool.and_eq_true, Bool.not_eq_true', decide_eq_true_eq] at ho1 ho2 ⊢; exact ⟨⟨⟨⟨hfr, hv2⟩, ⟨⟨ho1.1, ho2.1⟩, ho1.2⟩, ho2.2⟩, by omega⟩, hm⟩
                    have hh : gs_halve S d true = (0, gs_made S, gs_halfS S k a b) := by rw [hs]; unfold gs_half2; exact if_pos hokk
                    refine gd_cVp E hA (av := [.ref (4 + 3 * (o ix)), .int (nI a), .int (nI b)]) (rest := []) (c3_GsplitUp hinj w2 hC2 hG ix k a b hi hn6 hm ha hb (hG.free hal hfr).2.1) (K.1 174 (.invokevirtual 165, 0) rfl).1 ml_G_165 cv_G_splitUp (by decide) (rfl) ⟨Nat.le_of_ble_eq_true rfl, Nat.le_of_ble_eq_true rfl⟩ ⟨Nat.zero_le _, Nat.zero_le _⟩ rfl (Nat.le_of_ble_eq_true rfl) (fun r9 w3 h9 => ?_)
                    obtain ⟨rfl, hg3, g3⟩ := h9
                    refine gd_xr ?_
                    exact gd_iretp E hr hlk (K.1 177 (.ireturn, 0) rfl).1 (by rw [hh]; exact ⟨rfl, rfl, hg3, g2.trans g3⟩)
          · refine gd_r E K 1 (pc' := if (nI (gs_made S)) ≤ 58 then 82 else 72) (lv' := [(0, .ref 0), (1, .int d), (2, .int 1), (3, .ref (4 + 3 * (o ix)))]) (st' := []) (w' := w) rfl ?_
            refine gd_if (fun h => hm (by rw [show (58 : Int32) = nI 58 from rfl, nI_leI (by omega) (by decide)] at h; omega)) ?_
            exact gd_thr E X ht hlk hls xa_ISE st_88 (K.1 72 (.new 86, 0) rfl).1 (K.1 75 (.dup, 0) rfl).1 (K.1 76 (.ldc 88, 0) rfl).1 (K.1 78 (.invokespecial 90, 0) rfl).1 (K.1 81 (.athrow, 0) rfl).1 (by decide) (Or.inr ⟨by rw [hs]; exact gs_half2_no (fun a b h1 h2 => by unfold gs_halfok gs_fits; simp [hm]), rfl, ⟨o, hC⟩, gf_c.refl w⟩)
        · refine gd_r E K 1 (pc' := if 6 ≤ (nI (gs_al S).length) then 72 else 60) (lv' := [(0, .ref 0), (1, .int d), (2, .int 1), (3, .ref (4 + 3 * (o ix)))]) (st' := []) (w' := w) rfl ?_
          refine gd_it (by rw [show (6 : Int32) = nI 6 from rfl]; exact nI_le (show 6 ≤ (gs_al S).length by omega) (by omega)) ?_
          have hnn : ¬ gs_cnt (gs_u S) (gs_made S) < 6 := by omega
          exact gd_thr E X ht hlk hls xa_ISE st_88 (K.1 72 (.new 86, 0) rfl).1 (K.1 75 (.dup, 0) rfl).1 (K.1 76 (.ldc 88, 0) rfl).1 (K.1 78 (.invokespecial 90, 0) rfl).1 (K.1 81 (.athrow, 0) rfl).1 (by decide) (Or.inr ⟨by rw [hs]; exact gs_half2_no (fun a b h1 h2 => by unfold gs_halfok gs_fits; simp [hnn]), rfl, ⟨o, hC⟩, gf_c.refl w⟩)
      · refine gd_r E K 1 (pc' := if (nI (gs_u S k)) = 2 then 48 else 38) (lv' := [(0, .ref 0), (1, .int d), (2, .int 1), (3, .ref (4 + 3 * (o ix)))]) (st' := []) (w' := w) rfl ?_
        refine gd_if (fun h => hv2 (by rw [show (2 : Int32) = nI 2 from rfl, nI_eq (by omega) (by decide)] at h; exact h)) ?_
        exact gd_thr E X ht hlk hls xa_ISE st_150 (K.1 38 (.new 86, 0) rfl).1 (K.1 41 (.dup, 0) rfl).1 (K.1 42 (.ldc 150, 0) rfl).1 (K.1 44 (.invokespecial 90, 0) rfl).1 (K.1 47 (.athrow, 0) rfl).1 (by decide) (Or.inr ⟨by rw [hs]; exact gs_half2_no (fun a b h1 h2 => by unfold gs_halfok gs_fits; simp [hv2]), rfl, ⟨o, hC⟩, gf_c.refl w⟩)
  · have hisd := gs_isd_no hC.2.1.2 hno
    refine gd_r E K 3 (pc' := 13) (lv' := [(0, .ref 0), (1, .int d), (2, .int 1), (3, .null)]) (st' := []) (w' := w) rfl ?_
    exact gd_thr E X ht hlk hls xa_IAE st_148 (K.1 13 (.new 67, 0) rfl).1 (K.1 16 (.dup, 0) rfl).1 (K.1 17 (.ldc 148, 0) rfl).1 (K.1 19 (.invokespecial 71, 0) rfl).1 (K.1 22 (.athrow, 0) rfl).1 (by decide) (Or.inl ⟨by rw [gs_halve, if_pos hisd], rfl, ⟨o, hC⟩, gf_c.refl w⟩)
set_option maxRecDepth 100000 in
theorem c3_GhalveS {l : Launch} (hls : l.stackTraces = false) {D : va_G} {tC : FieldType → ClassId} {ad : Nat → Nat} (hinj : ∀ i j, ad i = ad j → i = j) {S : gs_T} {o : Nat → Nat} (w : gd_W) (hC : gr_C w S o) (hG : gs_Good S) (d : Int32) : gd_Cx l D tC ad 45 6 93 y_G_halve c_G_halve 8 (some .int) [.ref 0, .int d, .int 0] w (fun r w' => (gs_halve S d false).1 = 0 ∧ gs_cp (gs_halve S d false).2.2 (.int (nI (gs_halve S d false).2.1)) w r w') (fun E w' => ((gs_halve S d false).1 = 1 ∧ gs_cx S "java/lang/IllegalArgumentException" w E w') ∨ ((gs_halve S d false).1 = 2 ∧ gs_cx S "java/lang/IllegalStateException" w E w')) := by
  refine gd_Cx_of rfl hinj (Nat.le_of_ble_eq_true rfl) ?_
  intro p e s m args below meth c E X ht hr hlk
  have K := k_G_halve
  have hA : ∀ q, gd_A ad 45 s.heap.size q → gd_A ad 45 s.heap.size q := fun _ h => h
  refine gd_r E K 3 (pc' := 5) (lv' := [(0, .ref 0), (1, .int d), (2, .int 0)]) (st' := [.int d, .ref 2]) (w' := w) rfl ?_
  refine gd_cVp E hA (av := [.int d]) (rest := []) (c3_find hinj w hC.1 d) (K.1 5 (.invokevirtual 104, 0) rfl).1 ml_G_104 cv_L_find (by decide) rfl ⟨Nat.le_of_ble_eq_true rfl, Nat.le_of_ble_eq_true rfl⟩ ⟨Nat.zero_le _, Nat.zero_le _⟩ rfl (Nat.le_of_ble_eq_true rfl) (fun r9 w9 h9 => ?_)
  obtain ⟨rfl, ⟨ix, k, hi, hd, rfl⟩ | ⟨hno, rfl⟩⟩ := h9
  · obtain ⟨hlix, h6ix, hqix, hrix, Eix, hEix⟩ := hC.1.got hi
    have hal := gs_al_at hi
    refine gd_r E K 4 (pc' := 24) (lv' := [(0, .ref 0), (1, .int d), (2, .int 0), (3, .ref (4 + 3 * (o ix)))]) (st' := [.ref (4 + 3 * (o ix))]) (w' := w) rfl ?_
    have hisd : gs_isd S d = true := by rw [hd]; exact gs_isd_of hC.2.1.2 hal
    have hcl : d.toNatClampNeg = k := by rw [hd]; exact nI_clamp (by have := hEix.1.2; omega)
    have hs : gs_halve S d false = gs_half2 S k (gm_mv (gs_c S k) 4) (gm_mv (gs_c S k) 2) := by rw [gs_halve, if_neg (by rw [hisd]; decide), hcl]; rfl
    have e3 := hEix.2.1.1
    have hck := hEix.2.1.2
    have e4 := hEix.2.2.1.1
    have hu2 := hEix.2.2.1.2
    have hlen : (gs_al S).length = gs_cnt (gs_u S) (gs_made S) := gs_ot_all _ _
    have hc6 := hG.2.1.1
    have hN := hG.2.1.2
    refine gd_cV E hA (av := []) (rest := []) (c3_isFree hinj w (o ix) hqix k hEix) (K.1 24 (.invokevirtual 109, 0) rfl).1 ml_G_109 cv_D_isFree (by omega) (gd_shd hqix) ⟨Nat.le_of_ble_eq_true rfl, Nat.le_of_ble_eq_true rfl⟩ ⟨Nat.zero_le _, Nat.zero_le _⟩ rfl (Nat.le_of_ble_eq_true rfl) ?_
    refine gd_cg (lv' := [(0, .ref 0), (1, .int d), (2, .int 0), (3, .ref (4 + 3 * (o ix)))]) (st' := [.int (gs_b (gs_free S k))]) (w' := w) ?_ (rfl) (rfl) (rfl)
    cases hfr : gs_free S k with
    | false =>
      refine gd_r E K 1 (pc' := if (gs_b (false)) = 0 then 38 else 30) (lv' := [(0, .ref 0), (1, .int d), (2, .int 0), (3, .ref (4 + 3 * (o ix)))]) (st' := []) (w' := w) rfl ?_
      refine gd_it (by decide) ?_
      exact gd_thr E X ht hlk hls xa_ISE st_150 (K.1 38 (.new 86, 0) rfl).1 (K.1 41 (.dup, 0) rfl).1 (K.1 42 (.ldc 150, 0) rfl).1 (K.1 44 (.invokespecial 90, 0) rfl).1 (K.1 47 (.athrow, 0) rfl).1 (by decide) (Or.inr ⟨by rw [hs]; exact gs_half2_no (fun a b h1 h2 => by unfold gs_halfok gs_fits; simp [hfr]), rfl, ⟨o, hC⟩, gf_c.refl w⟩)
    | true =>
      refine gd_r E K 1 (pc' := if (gs_b (true)) = 0 then 38 else 30) (lv' := [(0, .ref 0), (1, .int d), (2, .int 0), (3, .ref (4 + 3 * (o ix)))]) (st' := []) (w' := w) rfl ?_
      refine gd_if (by decide) ?_
      refine gd_r E K 1 (pc' := 31) (lv' := [(0, .ref 0), (1, .int d), (2, .int 0), (3, .ref (4 + 3 * (o ix)))]) (st' := [.ref (4 + 3 * (o ix))]) (w' := w) rfl ?_
      refine gd_getd E K (K.1 31 (.getfield 137, 0) rfl).1 rfl (by omega) (gd_shd hqix) rfl (v := .int (nI (gs_u S k))) (by show Value.int _ = Value.int _; rw [e4]) ?_
      refine gd_r E K 1 (pc' := 35) (lv' := [(0, .ref 0), (1, .int d), (2, .int 0), (3, .ref (4 + 3 * (o ix)))]) (st' := [.int 2, .int (nI (gs_u S k))]) (w' := w) rfl ?_
      by_cases hv2 : gs_u S k = 2
      · refine gd_r E K 1 (pc' := if (nI (gs_u S k)) = 2 then 48 else 38) (lv' := [(0, .ref 0), (1, .int d), (2, .int 0), (3, .ref (4 + 3 * (o ix)))]) (st' := []) (w' := w) rfl ?_
        refine gd_it (by rw [hv2]; rfl) ?_
        refine gd_r E K 4 (pc' := 57) (lv' := [(0, .ref 0), (1, .int d), (2, .int 0), (3, .ref (4 + 3 * (o ix)))]) (st' := [.int 6, .int (w.1 2 1)]) (w' := w) rfl ?_
        refine gd_cg (lv' := [(0, .ref 0), (1, .int d), (2, .int 0), (3, .ref (4 + 3 * (o ix)))]) (st' := [.int 6, .int (nI (gs_al S).length)]) (w' := w) ?_ (rfl) (by simp only [hC.1.1.1]) rfl
        by_cases hn6 : (gs_al S).length < 6
        · refine gd_r E K 1 (pc' := if 6 ≤ (nI (gs_al S).length) then 72 else 60) (lv' := [(0, .ref 0), (1, .int d), (2, .int 0), (3, .ref (4 + 3 * (o ix)))]) (st' := []) (w' := w) rfl ?_
          refine gd_if (nI_ge hn6 (by decide)) ?_
          refine gd_r E K 4 (pc' := 69) (lv' := [(0, .ref 0), (1, .int d), (2, .int 0), (3, .ref (4 + 3 * (o ix)))]) (st' := [.int 58, .int (w.1 2 2)]) (w' := w) rfl ?_
          refine gd_cg (lv' := [(0, .ref 0), (1, .int d), (2, .int 0), (3, .ref (4 + 3 * (o ix)))]) (st' := [.int 58, .int (nI (gs_made S))]) (w' := w) ?_ (rfl) (by simp only [hC.2.1.1]) rfl
          by_cases hm : gs_made S < 59
          · refine gd_r E K 1 (pc' := if (nI (gs_made S)) ≤ 58 then 82 else 72) (lv' := [(0, .ref 0), (1, .int d), (2, .int 0), (3, .ref (4 + 3 * (o ix)))]) (st' := []) (w' := w) rfl ?_
            refine gd_it (by rw [show (58 : Int32) = nI 58 from rfl, nI_leI (by omega) (by decide)]; omega) ?_
            refine gd_r E K 1 (pc' := 83) (lv' := [(0, .ref 0), (1, .int d), (2, .int 0), (3, .ref (4 + 3 * (o ix)))]) (st' := [.ref (4 + 3 * (o ix))]) (w' := w) rfl ?_
            refine gd_getd E K (K.1 83 (.getfield 119, 0) rfl).1 rfl (by omega) (gd_shd hqix) rfl (v := .int (nI (gs_c S k))) (by show Value.int _ = Value.int _; rw [e3]) ?_
            refine gd_r E K 3 (pc' := 95) (lv' := [(0, .ref 0), (1, .int d), (2, .int 0), (3, .ref (4 + 3 * (o ix)))]) (st' := [.int 4, .int (nI (gs_c S k))]) (w' := w) rfl ?_
            refine gd_cg (lv' := [(0, .ref 0), (1, .int d), (2, .int 0), (3, .ref (4 + 3 * (o ix)))]) (st' := [.int (nI 4), .int (nI (gs_c S k))]) (w' := w) ?_ (rfl) (rfl) (rfl)
            refine gd_cS E hA (av := [.int (nI (gs_c S k)), .int (nI 4)]) (rest := []) (c2_after hinj (gs_c S k) 4 hck (by decide) w) (K.1 95 (.invokestatic 152, 0) rfl).1 ml_G_152 cv_S_after ⟨Nat.le_of_ble_eq_true rfl, Nat.le_of_ble_eq_true rfl⟩ ⟨Nat.zero_le _, Nat.zero_le _⟩ rfl (Nat.le_of_ble_eq_true rfl) ?_
            refine gd_r E K 2 (pc' := 101) (lv' := [(0, .ref 0), (1, .int d), (2, .int 0), (3, .ref (4 + 3 * (o ix))), (4, .int (gm_nO (gm_mv (gs_c S k) 4)))]) (st' := [.ref (4 + 3 * (o ix))]) (w' := w) rfl ?_
            refine gd_getd E K (K.1 101 (.getfield 119, 0) rfl).1 rfl (by omega) (gd_shd hqix) rfl (v := .int (nI (gs_c S k))) (by show Value.int _ = Value.int _; rw [e3]) ?_
            refine gd_r E K 3 (pc' := 113) (lv' := [(0, .ref 0), (1, .int d), (2, .int 0), (3, .ref (4 + 3 * (o ix))), (4, .int (gm_nO (gm_mv (gs_c S k) 4)))]) (st' := [.int 2, .int (nI (gs_c S k))]) (w' := w) rfl ?_
            refine gd_cg (lv' := [(0, .ref 0), (1, .int d), (2, .int 0), (3, .ref (4 + 3 * (o ix))), (4, .int (gm_nO (gm_mv (gs_c S k) 4)))]) (st' := [.int (nI 2), .int (nI (gs_c S k))]) (w' := w) ?_ (rfl) (rfl) (rfl)
            refine gd_cS E hA (av := [.int (nI (gs_c S k)), .int (nI 2)]) (rest := []) (c2_after hinj (gs_c S k) 2 hck (by decide) w) (K.1 113 (.invokestatic 152, 0) rfl).1 ml_G_152 cv_S_after ⟨Nat.le_of_ble_eq_true rfl, Nat.le_of_ble_eq_true rfl⟩ ⟨Nat.zero_le _, Nat.zero_le _⟩ rfl (Nat.le_of_ble_eq_true rfl) ?_
            refine gd_r E K 4 (pc' := 121) (lv' := [(0, .ref 0), (1, .int d), (2, .int 0), (3, .ref (4 + 3 * (o ix))), (4, .int (gm_nO (gm_mv (gs_c S k) 4))), (5, .int (gm_nO (gm_mv (gs_c S k) 2)))]) (st' := [.null, .ref (4 + 3 * (o ix)), .ref 0]) (w' := w) rfl ?_
            obtain ⟨X0, hX⟩ : ∃ X0, gm_mv (gs_c S k) 4 = X0 := ⟨_, rfl⟩
            obtain ⟨Y0, hY⟩ : ∃ Y0, gm_mv (gs_c S k) 2 = Y0 := ⟨_, rfl⟩
            have hXl : ∀ b, X0 = some b → b < 64 := fun b h => gm_mv_lt hck (by rw [hX]; exact h)
            have hYl : ∀ b, Y0 = some b → b < 64 := fun b h => gm_mv_lt hck (by rw [hY]; exact h)
            rw [hX, hY] at hs
            refine gd_cg (lv' := [(0, .ref 0), (1, .int d), (2, .int 0), (3, .ref (4 + 3 * (o ix))), (4, .int (gm_nO X0)), (5, .int (gm_nO Y0))]) (st' := [.null, .ref (4 + 3 * (o ix)), .ref 0]) (w' := w) ?_ (by rw [hX, hY]) (rfl) (rfl)
            refine gd_cVp E hA (av := [.ref (4 + 3 * (o ix)), .null]) (rest := []) (c3_heed1 hinj w hC hG.1 ix k hi) (K.1 121 (.invokevirtual 115, 0) rfl).1 ml_G_115 cv_G_heedAllBut (by decide) (rfl) ⟨Nat.le_of_ble_eq_true rfl, Nat.le_of_ble_eq_true rfl⟩ ⟨Nat.zero_le _, Nat.zero_le _⟩ rfl (Nat.le_of_ble_eq_true rfl) (fun r9 w2 h9 => ?_)
            obtain ⟨rfl, f2, t2⟩ := h9
            have hC2 := f2.C (by decide) hC
            have g2 := f2.c (by decide)
            refine gd_r E K 4 (pc' := 132) (lv' := [(0, .ref 0), (1, .int d), (2, .int 0), (3, .ref (4 + 3 * (o ix))), (4, .int (gm_nO X0)), (5, .int (gm_nO Y0))]) (st' := [.ref 22, .long (w2.2.1 0 4)]) (w' := w2) rfl ?_
            refine gd_cV E hA (av := []) (rest := [.long (w2.2.1 0 4)]) (c3_everShut hinj w2) (K.1 132 (.invokevirtual 155, 0) rfl).1 ml_G_155 cv_F_everShut (by decide) (rfl) ⟨Nat.le_of_ble_eq_true rfl, Nat.le_of_ble_eq_true rfl⟩ ⟨Nat.zero_le _, Nat.zero_le _⟩ rfl (Nat.le_of_ble_eq_true rfl) ?_
            refine gd_r E K 4 (pc' := 142) (lv' := [(0, .ref 0), (1, .int d), (2, .int 0), (3, .ref (4 + 3 * (o ix))), (4, .int (gm_nO X0)), (5, .int (gm_nO Y0)), (6, .long ((w2.2.1 0 4) ||| (gm_ud (gm_sw (gc_ua (w2.2.1 23) 61)))))]) (st' := [.long ((w2.2.1 0 4) ||| (gm_ud (gm_sw (gc_ua (w2.2.1 23) 61)))), .int (gm_nO X0)]) (w' := w2) rfl ?_
            have hop : ∀ c, c < 64 → gc_op (w2.2.1 0 4 ||| gm_ud (gm_sw (gc_ua (w2.2.1 23) 61))) (some c) = (!decide (gs_k S c = 1) && gs_rest S k c) := fun c hc => gs_rest_bit hG.1 t2 hc hC2.2.2.2.1
            generalize hyy : w2.2.1 0 4 ||| gm_ud (gm_sw (gc_ua (w2.2.1 23) 61)) = yy at hop ⊢
            refine gd_cS E hA (av := [.int (gm_nO X0), .long yy]) (rest := []) (c3_isOpen hinj w2 X0 hXl yy) (K.1 142 (.invokestatic 159, 0) rfl).1 ml_G_159 cv_G_isOpen ⟨Nat.le_of_ble_eq_true rfl, Nat.le_of_ble_eq_true rfl⟩ ⟨Nat.zero_le _, Nat.zero_le _⟩ rfl (Nat.le_of_ble_eq_true rfl) ?_
            cases ho1 : gc_op yy X0 with
            | false =>
              refine gd_r E K 1 (pc' := if (gs_b (false)) = 0 then 158 else 148) (lv' := [(0, .ref 0), (1, .int d), (2, .int 0), (3, .ref (4 + 3 * (o ix))), (4, .int (gm_nO X0)), (5, .int (gm_nO Y0)), (6, .long yy)]) (st' := []) (w' := w2) rfl ?_
              refine gd_it (by decide) ?_
              exact gd_thr E X ht hlk hls xa_ISE st_163 (K.1 158 (.new 86, 0) rfl).1 (K.1 161 (.dup, 0) rfl).1 (K.1 162 (.ldc 163, 0) rfl).1 (K.1 164 (.invokespecial 90, 0) rfl).1 (K.1 167 (.athrow, 0) rfl).1 (by decide) (Or.inr ⟨by rw [hs]; exact gs_half2_no (fun a b h1 h2 => by rw [h1, hop a (hXl a h1)] at ho1; unfold gs_halfok gs_fits; cases h8 : gs_rest S k a <;> simp_all), rfl, ⟨o, hC2⟩, g2⟩)
            | true =>
              refine gd_r E K 1 (pc' := if (gs_b (true)) = 0 then 158 else 148) (lv' := [(0, .ref 0), (1, .int d), (2, .int 0), (3, .ref (4 + 3 * (o ix))), (4, .int (gm_nO X0)), (5, .int (gm_nO Y0)), (6, .long yy)]) (st' := []) (w' := w2) rfl ?_
              refine gd_if (by decide) ?_
              refine gd_r E K 2 (pc' := 152) (lv' := [(0, .ref 0), (1, .int d), (2, .int 0), (3, .ref (4 + 3 * (o ix))), (4, .int (gm_nO X0)), (5, .int (gm_nO Y0)), (6, .long yy)]) (st' := [.long yy, .int (gm_nO Y0)]) (w' := w2) rfl ?_
              refine gd_cS E hA (av := [.int (gm_nO Y0), .long yy]) (rest := []) (c3_isOpen hinj w2 Y0 hYl yy) (K.1 152 (.invokestatic 159, 0) rfl).1 ml_G_159 cv_G_isOpen ⟨Nat.le_of_ble_eq_true rfl, Nat.le_of_ble_eq_true rfl⟩ ⟨Nat.zero_le _, Nat.zero_le _⟩ rfl (Nat.le_of_ble_eq_true rfl) ?_
              cases ho2 : gc_op yy Y0 with
              | false =>
                refine gd_r E K 1 (pc' := if (gs_b (false)) = 0 then 158 else 168) (lv' := [(0, .ref 0), (1, .int d), (2, .int 0), (3, .ref (4 + 3 * (o ix))), (4, .int (gm_nO X0)), (5, .int (gm_nO Y0)), (6, .long yy)]) (st' := []) (w' := w2) rfl ?_
                refine gd_it (by decide) ?_
                exact gd_thr E X ht hlk hls xa_ISE st_163 (K.1 158 (.new 86, 0) rfl).1 (K.1 161 (.dup, 0) rfl).1 (K.1 162 (.ldc 163, 0) rfl).1 (K.1 164 (.invokespecial 90, 0) rfl).1 (K.1 167 (.athrow, 0) rfl).1 (by decide) (Or.inr ⟨by rw [hs]; exact gs_half2_no (fun a b h1 h2 => by rw [h2, hop b (hYl b h2)] at ho2; unfold gs_halfok gs_fits; cases h8 : gs_rest S k b <;> simp_all), rfl, ⟨o, hC2⟩, g2⟩)
              | true =>
                refine gd_r E K 1 (pc' := if (gs_b (true)) = 0 then 158 else 168) (lv' := [(0, .ref 0), (1, .int d), (2, .int 0), (3, .ref (4 + 3 * (o ix))), (4, .int (gm_nO X0)), (5, .int (gm_nO Y0)), (6, .long yy)]) (st' := []) (w' := w2) rfl ?_
                refine gd_if (by decide) ?_
                refine gd_r E K 4 (pc' := 174) (lv' := [(0, .ref 0), (1, .int d), (2, .int 0), (3, .ref (4 + 3 * (o ix))), (4, .int (gm_nO X0)), (5, .int (gm_nO Y0)), (6, .long yy)]) (st' := [.int (gm_nO Y0), .int (gm_nO X0), .ref (4 + 3 * (o ix)), .ref 0]) (w' := w2) rfl ?_
                cases X0 with
                | none => cases ho1
                | some a =>
                  cases Y0 with
                  | none => cases ho2
                  | some b =>
                    have ha := hXl a rfl
                    have hb := hYl b rfl
                    rw [hop a ha] at ho1
                    rw [hop b hb] at ho2
                    have hokk : gs_halfok S k a b = true := by unfold gs_halfok gs_fits; simp only [Bool.and_eq_true, Bool.not_eq_true', decide_eq_true_eq] at ho1 ho2 ⊢; exact ⟨⟨⟨⟨hfr, hv2⟩, ⟨⟨ho1.1, ho2.1⟩, ho1.2⟩, ho2.2⟩, by omega⟩, hm⟩
                    have hh : gs_halve S d false = (0, gs_made S, gs_halfS S k a b) := by rw [hs]; unfold gs_half2; exact if_pos hokk
                    refine gd_cVp E hA (av := [.ref (4 + 3 * (o ix)), .int (nI a), .int (nI b)]) (rest := []) (c3_GsplitUp hinj w2 hC2 hG ix k a b hi hn6 hm ha hb (hG.free hal hfr).2.1) (K.1 174 (.invokevirtual 165, 0) rfl).1 ml_G_165 cv_G_splitUp (by decide) (rfl) ⟨Nat.le_of_ble_eq_true rfl, Nat.le_of_ble_eq_true rfl⟩ ⟨Nat.zero_le _, Nat.zero_le _⟩ rfl (Nat.le_of_ble_eq_true rfl) (fun r9 w3 h9 => ?_)
                    obtain ⟨rfl, hg3, g3⟩ := h9
                    refine gd_xr ?_
                    exact gd_iretp E hr hlk (K.1 177 (.ireturn, 0) rfl).1 (by rw [hh]; exact ⟨rfl, rfl, hg3, g2.trans g3⟩)
          · refine gd_r E K 1 (pc' := if (nI (gs_made S)) ≤ 58 then 82 else 72) (lv' := [(0, .ref 0), (1, .int d), (2, .int 0), (3, .ref (4 + 3 * (o ix)))]) (st' := []) (w' := w) rfl ?_
            refine gd_if (fun h => hm (by rw [show (58 : Int32) = nI 58 from rfl, nI_leI (by omega) (by decide)] at h; omega)) ?_
            exact gd_thr E X ht hlk hls xa_ISE st_88 (K.1 72 (.new 86, 0) rfl).1 (K.1 75 (.dup, 0) rfl).1 (K.1 76 (.ldc 88, 0) rfl).1 (K.1 78 (.invokespecial 90, 0) rfl).1 (K.1 81 (.athrow, 0) rfl).1 (by decide) (Or.inr ⟨by rw [hs]; exact gs_half2_no (fun a b h1 h2 => by unfold gs_halfok gs_fits; simp [hm]), rfl, ⟨o, hC⟩, gf_c.refl w⟩)
        · refine gd_r E K 1 (pc' := if 6 ≤ (nI (gs_al S).length) then 72 else 60) (lv' := [(0, .ref 0), (1, .int d), (2, .int 0), (3, .ref (4 + 3 * (o ix)))]) (st' := []) (w' := w) rfl ?_
          refine gd_it (by rw [show (6 : Int32) = nI 6 from rfl]; exact nI_le (show 6 ≤ (gs_al S).length by omega) (by omega)) ?_
          have hnn : ¬ gs_cnt (gs_u S) (gs_made S) < 6 := by omega
          exact gd_thr E X ht hlk hls xa_ISE st_88 (K.1 72 (.new 86, 0) rfl).1 (K.1 75 (.dup, 0) rfl).1 (K.1 76 (.ldc 88, 0) rfl).1 (K.1 78 (.invokespecial 90, 0) rfl).1 (K.1 81 (.athrow, 0) rfl).1 (by decide) (Or.inr ⟨by rw [hs]; exact gs_half2_no (fun a b h1 h2 => by unfold gs_halfok gs_fits; simp [hnn]), rfl, ⟨o, hC⟩, gf_c.refl w⟩)
      · refine gd_r E K 1 (pc' := if (nI (gs_u S k)) = 2 then 48 else 38) (lv' := [(0, .ref 0), (1, .int d), (2, .int 0), (3, .ref (4 + 3 * (o ix)))]) (st' := []) (w' := w) rfl ?_
        refine gd_if (fun h => hv2 (by rw [show (2 : Int32) = nI 2 from rfl, nI_eq (by omega) (by decide)] at h; exact h)) ?_
        exact gd_thr E X ht hlk hls xa_ISE st_150 (K.1 38 (.new 86, 0) rfl).1 (K.1 41 (.dup, 0) rfl).1 (K.1 42 (.ldc 150, 0) rfl).1 (K.1 44 (.invokespecial 90, 0) rfl).1 (K.1 47 (.athrow, 0) rfl).1 (by decide) (Or.inr ⟨by rw [hs]; exact gs_half2_no (fun a b h1 h2 => by unfold gs_halfok gs_fits; simp [hv2]), rfl, ⟨o, hC⟩, gf_c.refl w⟩)
  · have hisd := gs_isd_no hC.2.1.2 hno
    refine gd_r E K 3 (pc' := 13) (lv' := [(0, .ref 0), (1, .int d), (2, .int 0), (3, .null)]) (st' := []) (w' := w) rfl ?_
    exact gd_thr E X ht hlk hls xa_IAE st_148 (K.1 13 (.new 67, 0) rfl).1 (K.1 16 (.dup, 0) rfl).1 (K.1 17 (.ldc 148, 0) rfl).1 (K.1 19 (.invokespecial 71, 0) rfl).1 (K.1 22 (.athrow, 0) rfl).1 (by decide) (Or.inl ⟨by rw [gs_halve, if_pos hisd], rfl, ⟨o, hC⟩, gf_c.refl w⟩)
