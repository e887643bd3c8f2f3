set_option maxRecDepth 100000 in
theorem a_case5 {p : Program} {l : Launch} {e : Env} {s : State} {m : MethodId} {below : List Frame} {meth : Method} {c : Code} {D : va_G} {tC : FieldType → ClassId} {ad : Nat → Nat} {b L : Nat} {xs : Nat → Int32} (hls : l.stackTraces = false) (E : gd_E p s m #[Value.ref b] c c_A_law 8 R_A D tC ad (fun q => s.heap.size ≤ q) 45) (X : gd_XF (fun q => s.heap.size ≤ q) s s.heap) (hX : va_X b L xs s s.heap) (hbl : b < s.heap.size) (hab : ad 45 = b) (hA : ∀ q, gd_A ad 45 s.heap.size q → s.heap.size ≤ q) (hL : L ≤ 2048) {cells slots : Nat} (hcs : cells + 1 ≤ 601024 ∧ slots + 6 ≤ 7293034) {i : Nat} (hi : i + 4 ≤ L) {w : gd_W} {S : gs_T} {o G : Nat → Nat} (hC : gr_C w S o) (hM : gr_M w S G) (hG : gs_Good S) (nxt : ∀ w' S' o' G', gr_C w' S' o' → gr_M w' S' G' → gs_Good S' → gd_G p l e room_1 s m #[Value.ref b] below meth c D tC ad (fun q => s.heap.size ≤ q) 45 8 (cells + 1) (slots + 6) (lw_Z below #[Value.ref b] s) 889 [(0, .ref 45), (1, .ref 0), (2, .ref 27), (3, .ref 44), (4, .int (nI i))] [] w') : gd_G p l e room_1 s m #[Value.ref b] below meth c D tC ad (fun q => s.heap.size ≤ q) 45 8 cells slots (lw_Z below #[Value.ref b] s) 449 [(0, .ref 45), (1, .ref 0), (2, .ref 27), (3, .ref 44), (4, .int (nI i))] [] w := by
  have K := k_A_law_5
  have hinj := E.2.2.2.1
  refine gd_r E K 5 (pc' := 455) (lv' := [(0, .ref 45), (1, .ref 0), (2, .ref 27), (3, .ref 44), (4, .int (nI i))]) (st' := [.int ((nI i) + 1), .ref 45, .ref 0]) (w' := w) rfl ?_
  refine gd_sld E hX hbl hab (j := (i + 1)) (K.1 455 (.iaload, 0) rfl).1 (by rw [show (1 : Int32) = nI 1 from rfl, nI_add]) (by omega) hL ?_
  refine gd_r E K 1 (pc' := 457) (lv' := [(0, .ref 45), (1, .ref 0), (2, .ref 27), (3, .ref 44), (4, .int (nI i))]) (st' := [.ref 44, .int (xs (i + 1)), .ref 0]) (w' := w) rfl ?_
  refine gd_cSw E X hA (av := [.ref 0, .int (xs (i + 1)), .ref 44]) (rest := []) (c4_discard hls hinj w hC hG (xs (i + 1))) (K.1 457 (.invokestatic 80, 0) rfl).1 (gd_in 449 rfl rfl) cw_A_discard ⟨Nat.le_of_ble_eq_true rfl, Nat.le_of_ble_eq_true rfl⟩ hcs rfl (Nat.le_of_ble_eq_true rfl) (fun r9 w1 h9 => ?_)
  obtain ⟨rfl, ⟨o1, hC1⟩, g1, hv1⟩ := h9
  have hM1 := g1.M hM
  refine gd_r E K 6 (pc' := 468) (lv' := [(0, .ref 45), (1, .ref 0), (2, .ref 27), (3, .ref 44), (4, .int (nI i)), (5, .int (nI (gs_discc S (xs (i + 1)))))]) (st' := [.int ((nI i) + 1), .ref 45, .ref 27]) (w' := w1) rfl ?_
  refine gd_sld E hX hbl hab (j := (i + 1)) (K.1 468 (.iaload, 0) rfl).1 (by rw [show (1 : Int32) = nI 1 from rfl, nI_add]) (by omega) hL ?_
  refine gd_cVp E hA (av := [.int (xs (i + 1))]) (rest := []) (c2_Mdiscard hinj w1 hM1 (gs_Good_thr hG) (xs (i + 1))) (K.1 469 (.invokevirtual 82, 0) rfl).1 ml_A_82 cv_M_discard (by decide) (rfl) ⟨Nat.le_of_ble_eq_true rfl, Nat.le_of_ble_eq_true rfl⟩ hcs rfl (Nat.le_of_ble_eq_true rfl) (fun r9 w2 h9 => ?_)
  obtain ⟨rfl, hth, ⟨G2, hM2⟩, f2⟩ := h9
  refine gd_r E K 2 (pc' := 475) (lv' := [(0, .ref 45), (1, .ref 0), (2, .ref 27), (3, .ref 44), (4, .int (nI i)), (5, .int (nI (gs_discc S (xs (i + 1))))), (6, .int (nI (gs_discv S (xs (i + 1)))))]) (st' := [.ref 27]) (w' := w2) rfl ?_
  have hC2 := hC1.m f2
  refine gd_cV E hA (av := []) (rest := []) (c2_thrown hinj w2) (K.1 475 (.invokevirtual 64, 0) rfl).1 ml_A_64 cv_M_thrown (by decide) (rfl) ⟨Nat.le_of_ble_eq_true rfl, Nat.le_of_ble_eq_true rfl⟩ hcs rfl (Nat.le_of_ble_eq_true rfl) ?_
  refine gd_r E K 1 (pc' := 480) (lv' := [(0, .ref 45), (1, .ref 0), (2, .ref 27), (3, .ref 44), (4, .int (nI i)), (5, .int (nI (gs_discc S (xs (i + 1))))), (6, .int (nI (gs_discv S (xs (i + 1)))))]) (st' := [.int (nI (gs_discc S (xs (i + 1)))), .int (w2.1 27 0)]) (w' := w2) rfl ?_
  refine gd_cg (lv' := [(0, .ref 45), (1, .ref 0), (2, .ref 27), (3, .ref 44), (4, .int (nI i)), (5, .int (nI (gs_discc S (xs (i + 1))))), (6, .int (nI (gs_discv S (xs (i + 1)))))]) (st' := [.int (nI (gs_discc S (xs (i + 1)))), .int (nI (gs_discc S (xs (i + 1))))]) (w' := w2) ?_ (rfl) (by simp only [hth]) rfl
  refine gd_r E K 1 (pc' := if (nI (gs_discc S (xs (i + 1)))) = (nI (gs_discc S (xs (i + 1)))) then 485 else 483) (lv' := [(0, .ref 45), (1, .ref 0), (2, .ref 27), (3, .ref 44), (4, .int (nI i)), (5, .int (nI (gs_discc S (xs (i + 1))))), (6, .int (nI (gs_discv S (xs (i + 1)))))]) (st' := []) (w' := w2) rfl ?_
  refine gd_it (rfl) ?_
  refine gd_r E K 1 (pc' := 487) (lv' := [(0, .ref 45), (1, .ref 0), (2, .ref 27), (3, .ref 44), (4, .int (nI i)), (5, .int (nI (gs_discc S (xs (i + 1))))), (6, .int (nI (gs_discv S (xs (i + 1)))))]) (st' := [.int (nI (gs_discc S (xs (i + 1))))]) (w' := w2) rfl ?_
  by_cases hc0 : gs_discc S (xs (i + 1)) = 0
  · refine gd_r E K 1 (pc' := if (nI (gs_discc S (xs (i + 1)))) = 0 then 490 else 502) (lv' := [(0, .ref 45), (1, .ref 0), (2, .ref 27), (3, .ref 44), (4, .int (nI i)), (5, .int (nI (gs_discc S (xs (i + 1))))), (6, .int (nI (gs_discv S (xs (i + 1)))))]) (st' := []) (w' := w2) rfl ?_
    refine gd_it ((gs_code0 (gs_discc_3 _ _)).mpr hc0) ?_
    refine gd_r E K 2 (pc' := 492) (lv' := [(0, .ref 45), (1, .ref 0), (2, .ref 27), (3, .ref 44), (4, .int (nI i)), (5, .int (nI (gs_discc S (xs (i + 1))))), (6, .int (nI (gs_discv S (xs (i + 1)))))]) (st' := [.int 0, .ref 44]) (w' := w2) rfl ?_
    refine gd_laldv E (K.1 492 (.laload, 0) rfl).1 (j := 0) (by decide) (rfl) (rfl) (by decide) (by decide) (v := (nI (gs_discv S (xs (i + 1)))).toInt64) (by rw [(f2.1 44 (Or.inr rfl)).2]; exact hv1 hc0) ?_
    refine gd_r E K 3 (pc' := 497) (lv' := [(0, .ref 45), (1, .ref 0), (2, .ref 27), (3, .ref 44), (4, .int (nI i)), (5, .int (nI (gs_discc S (xs (i + 1))))), (6, .int (nI (gs_discv S (xs (i + 1)))))]) (st' := [.int (lg_cmp ((nI (gs_discv S (xs (i + 1)))).toInt64) ((nI (gs_discv S (xs (i + 1)))).toInt64))]) (w' := w2) rfl ?_
    refine gd_r E K 1 (pc' := if (lg_cmp ((nI (gs_discv S (xs (i + 1)))).toInt64) ((nI (gs_discv S (xs (i + 1)))).toInt64)) = 0 then 502 else 500) (lv' := [(0, .ref 45), (1, .ref 0), (2, .ref 27), (3, .ref 44), (4, .int (nI i)), (5, .int (nI (gs_discc S (xs (i + 1))))), (6, .int (nI (gs_discv S (xs (i + 1)))))]) (st' := []) (w' := w2) rfl ?_
    refine gd_it ((lg_cmp_eq _ _).mpr rfl) ?_
    refine gd_r E K 1 (pc' := 889) (lv' := [(0, .ref 45), (1, .ref 0), (2, .ref 27), (3, .ref 44), (4, .int (nI i)), (5, .int (nI (gs_discc S (xs (i + 1))))), (6, .int (nI (gs_discv S (xs (i + 1)))))]) (st' := []) (w' := w2) rfl ?_
    refine gd_lvp [0, 1, 2, 3, 4] (lv' := [(0, .ref 45), (1, .ref 0), (2, .ref 27), (3, .ref 44), (4, .int (nI i))]) rfl ?_
    exact nxt w2 _ _ _ hC2 hM2 (gs_Good_disc hG _)
  · refine gd_r E K 1 (pc' := if (nI (gs_discc S (xs (i + 1)))) = 0 then 490 else 502) (lv' := [(0, .ref 45), (1, .ref 0), (2, .ref 27), (3, .ref 44), (4, .int (nI i)), (5, .int (nI (gs_discc S (xs (i + 1))))), (6, .int (nI (gs_discv S (xs (i + 1)))))]) (st' := []) (w' := w2) rfl ?_
    refine gd_if (fun h => hc0 ((gs_code0 (gs_discc_3 _ _)).mp h)) ?_
    refine gd_r E K 1 (pc' := 889) (lv' := [(0, .ref 45), (1, .ref 0), (2, .ref 27), (3, .ref 44), (4, .int (nI i)), (5, .int (nI (gs_discc S (xs (i + 1))))), (6, .int (nI (gs_discv S (xs (i + 1)))))]) (st' := []) (w' := w2) rfl ?_
    refine gd_lvp [0, 1, 2, 3, 4] (lv' := [(0, .ref 45), (1, .ref 0), (2, .ref 27), (3, .ref 44), (4, .int (nI i))]) rfl ?_
    exact nxt w2 _ _ _ hC2 hM2 (gs_Good_disc hG _)
set_option maxRecDepth 100000 in
theorem a_case6 {p : Program} {l : Launch} {e : Env} {s : State} {m : MethodId} {below : List Frame} {meth : Method} {c : Code} {D : va_G} {tC : FieldType → ClassId} {ad : Nat → Nat} {b L : Nat} {xs : Nat → Int32} (hls : l.stackTraces = false) (E : gd_E p s m #[Value.ref b] c c_A_law 8 R_A D tC ad (fun q => s.heap.size ≤ q) 45) (X : gd_XF (fun q => s.heap.size ≤ q) s s.heap) (hX : va_X b L xs s s.heap) (hbl : b < s.heap.size) (hab : ad 45 = b) (hA : ∀ q, gd_A ad 45 s.heap.size q → s.heap.size ≤ q) (hL : L ≤ 2048) {cells slots : Nat} (hcs : cells + 1 ≤ 601024 ∧ slots + 6 ≤ 7293034) {i : Nat} (hi : i + 4 ≤ L) {w : gd_W} {S : gs_T} {o G : Nat → Nat} (hC : gr_C w S o) (hM : gr_M w S G) (hG : gs_Good S) (nxt : ∀ w' S' o' G', gr_C w' S' o' → gr_M w' S' G' → gs_Good S' → gd_G p l e room_1 s m #[Value.ref b] below meth c D tC ad (fun q => s.heap.size ≤ q) 45 8 (cells + 1) (slots + 6) (lw_Z below #[Value.ref b] s) 889 [(0, .ref 45), (1, .ref 0), (2, .ref 27), (3, .ref 44), (4, .int (nI i))] [] w') : gd_G p l e room_1 s m #[Value.ref b] below meth c D tC ad (fun q => s.heap.size ≤ q) 45 8 cells slots (lw_Z below #[Value.ref b] s) 505 [(0, .ref 45), (1, .ref 0), (2, .ref 27), (3, .ref 44), (4, .int (nI i))] [] w := by
  have K := k_A_law_6
  have hinj := E.2.2.2.1
  refine gd_r E K 5 (pc' := 511) (lv' := [(0, .ref 45), (1, .ref 0), (2, .ref 27), (3, .ref 44), (4, .int (nI i))]) (st' := [.int ((nI i) + 1), .ref 45, .ref 0]) (w' := w) rfl ?_
  refine gd_sld E hX hbl hab (j := (i + 1)) (K.1 511 (.iaload, 0) rfl).1 (by rw [show (1 : Int32) = nI 1 from rfl, nI_add]) (by omega) hL ?_
  refine gd_r E K 1 (pc' := 513) (lv' := [(0, .ref 45), (1, .ref 0), (2, .ref 27), (3, .ref 44), (4, .int (nI i))]) (st' := [.ref 44, .int (xs (i + 1)), .ref 0]) (w' := w) rfl ?_
  refine gd_cSw E X hA (av := [.ref 0, .int (xs (i + 1)), .ref 44]) (rest := []) (c4_run hls hinj w hC hG (xs (i + 1))) (K.1 513 (.invokestatic 83, 0) rfl).1 (gd_in 457 rfl rfl) cw_A_run ⟨Nat.le_of_ble_eq_true rfl, Nat.le_of_ble_eq_true rfl⟩ hcs rfl (Nat.le_of_ble_eq_true rfl) (fun r9 w1 h9 => ?_)
  obtain ⟨rfl, ⟨o1, hC1⟩, g1, hv1⟩ := h9
  have hM1 := g1.M hM
  refine gd_r E K 6 (pc' := 524) (lv' := [(0, .ref 45), (1, .ref 0), (2, .ref 27), (3, .ref 44), (4, .int (nI i)), (5, .int (nI ((gs_run S (xs (i + 1))).1)))]) (st' := [.int ((nI i) + 1), .ref 45, .ref 27]) (w' := w1) rfl ?_
  refine gd_sld E hX hbl hab (j := (i + 1)) (K.1 524 (.iaload, 0) rfl).1 (by rw [show (1 : Int32) = nI 1 from rfl, nI_add]) (by omega) hL ?_
  refine gd_cVp E hA (av := [.int (xs (i + 1))]) (rest := []) (c2_Mrun hinj w1 hM1 (fun k _ => gs_Good_okS (gs_Good_it hG k)) (xs (i + 1))) (K.1 525 (.invokevirtual 85, 0) rfl).1 ml_A_85 cv_M_run (by decide) (rfl) ⟨Nat.le_of_ble_eq_true rfl, Nat.le_of_ble_eq_true rfl⟩ hcs rfl (Nat.le_of_ble_eq_true rfl) (fun r9 w2 h9 => ?_)
  obtain ⟨rfl, hth, ⟨G2, hM2⟩, f2⟩ := h9
  refine gd_r E K 2 (pc' := 531) (lv' := [(0, .ref 45), (1, .ref 0), (2, .ref 27), (3, .ref 44), (4, .int (nI i)), (5, .int (nI ((gs_run S (xs (i + 1))).1))), (6, .int (nI (gs_run S (xs (i + 1))).2.1))]) (st' := [.ref 27]) (w' := w2) rfl ?_
  have hC2 := hC1.m f2
  refine gd_cV E hA (av := []) (rest := []) (c2_thrown hinj w2) (K.1 531 (.invokevirtual 64, 0) rfl).1 ml_A_64 cv_M_thrown (by decide) (rfl) ⟨Nat.le_of_ble_eq_true rfl, Nat.le_of_ble_eq_true rfl⟩ hcs rfl (Nat.le_of_ble_eq_true rfl) ?_
  refine gd_r E K 1 (pc' := 536) (lv' := [(0, .ref 45), (1, .ref 0), (2, .ref 27), (3, .ref 44), (4, .int (nI i)), (5, .int (nI ((gs_run S (xs (i + 1))).1))), (6, .int (nI (gs_run S (xs (i + 1))).2.1))]) (st' := [.int (nI ((gs_run S (xs (i + 1))).1)), .int (w2.1 27 0)]) (w' := w2) rfl ?_
  refine gd_cg (lv' := [(0, .ref 45), (1, .ref 0), (2, .ref 27), (3, .ref 44), (4, .int (nI i)), (5, .int (nI ((gs_run S (xs (i + 1))).1))), (6, .int (nI (gs_run S (xs (i + 1))).2.1))]) (st' := [.int (nI ((gs_run S (xs (i + 1))).1)), .int (nI ((gs_run S (xs (i + 1))).1))]) (w' := w2) ?_ (rfl) (by simp only [hth]) rfl
  refine gd_r E K 1 (pc' := if (nI ((gs_run S (xs (i + 1))).1)) = (nI ((gs_run S (xs (i + 1))).1)) then 541 else 539) (lv' := [(0, .ref 45), (1, .ref 0), (2, .ref 27), (3, .ref 44), (4, .int (nI i)), (5, .int (nI ((gs_run S (xs (i + 1))).1))), (6, .int (nI (gs_run S (xs (i + 1))).2.1))]) (st' := []) (w' := w2) rfl ?_
  refine gd_it (rfl) ?_
  refine gd_r E K 1 (pc' := 543) (lv' := [(0, .ref 45), (1, .ref 0), (2, .ref 27), (3, .ref 44), (4, .int (nI i)), (5, .int (nI ((gs_run S (xs (i + 1))).1))), (6, .int (nI (gs_run S (xs (i + 1))).2.1))]) (st' := [.int (nI ((gs_run S (xs (i + 1))).1))]) (w' := w2) rfl ?_
  by_cases hc0 : (gs_run S (xs (i + 1))).1 = 0
  · refine gd_r E K 1 (pc' := if (nI ((gs_run S (xs (i + 1))).1)) = 0 then 546 else 558) (lv' := [(0, .ref 45), (1, .ref 0), (2, .ref 27), (3, .ref 44), (4, .int (nI i)), (5, .int (nI ((gs_run S (xs (i + 1))).1))), (6, .int (nI (gs_run S (xs (i + 1))).2.1))]) (st' := []) (w' := w2) rfl ?_
    refine gd_it ((gs_code0 (gs_run_3 _ _)).mpr hc0) ?_
    refine gd_r E K 2 (pc' := 548) (lv' := [(0, .ref 45), (1, .ref 0), (2, .ref 27), (3, .ref 44), (4, .int (nI i)), (5, .int (nI ((gs_run S (xs (i + 1))).1))), (6, .int (nI (gs_run S (xs (i + 1))).2.1))]) (st' := [.int 0, .ref 44]) (w' := w2) rfl ?_
    refine gd_laldv E (K.1 548 (.laload, 0) rfl).1 (j := 0) (by decide) (rfl) (rfl) (by decide) (by decide) (v := (nI (gs_run S (xs (i + 1))).2.1).toInt64) (by rw [(f2.1 44 (Or.inr rfl)).2]; exact hv1 hc0) ?_
    refine gd_r E K 3 (pc' := 553) (lv' := [(0, .ref 45), (1, .ref 0), (2, .ref 27), (3, .ref 44), (4, .int (nI i)), (5, .int (nI ((gs_run S (xs (i + 1))).1))), (6, .int (nI (gs_run S (xs (i + 1))).2.1))]) (st' := [.int (lg_cmp ((nI (gs_run S (xs (i + 1))).2.1).toInt64) ((nI (gs_run S (xs (i + 1))).2.1).toInt64))]) (w' := w2) rfl ?_
    refine gd_r E K 1 (pc' := if (lg_cmp ((nI (gs_run S (xs (i + 1))).2.1).toInt64) ((nI (gs_run S (xs (i + 1))).2.1).toInt64)) = 0 then 558 else 556) (lv' := [(0, .ref 45), (1, .ref 0), (2, .ref 27), (3, .ref 44), (4, .int (nI i)), (5, .int (nI ((gs_run S (xs (i + 1))).1))), (6, .int (nI (gs_run S (xs (i + 1))).2.1))]) (st' := []) (w' := w2) rfl ?_
    refine gd_it ((lg_cmp_eq _ _).mpr rfl) ?_
    refine gd_r E K 1 (pc' := 889) (lv' := [(0, .ref 45), (1, .ref 0), (2, .ref 27), (3, .ref 44), (4, .int (nI i)), (5, .int (nI ((gs_run S (xs (i + 1))).1))), (6, .int (nI (gs_run S (xs (i + 1))).2.1))]) (st' := []) (w' := w2) rfl ?_
    refine gd_lvp [0, 1, 2, 3, 4] (lv' := [(0, .ref 45), (1, .ref 0), (2, .ref 27), (3, .ref 44), (4, .int (nI i))]) rfl ?_
    exact nxt w2 _ _ _ hC2 hM2 (gs_Good_run hG _)
  · refine gd_r E K 1 (pc' := if (nI ((gs_run S (xs (i + 1))).1)) = 0 then 546 else 558) (lv' := [(0, .ref 45), (1, .ref 0), (2, .ref 27), (3, .ref 44), (4, .int (nI i)), (5, .int (nI ((gs_run S (xs (i + 1))).1))), (6, .int (nI (gs_run S (xs (i + 1))).2.1))]) (st' := []) (w' := w2) rfl ?_
    refine gd_if (fun h => hc0 ((gs_code0 (gs_run_3 _ _)).mp h)) ?_
    refine gd_r E K 1 (pc' := 889) (lv' := [(0, .ref 45), (1, .ref 0), (2, .ref 27), (3, .ref 44), (4, .int (nI i)), (5, .int (nI ((gs_run S (xs (i + 1))).1))), (6, .int (nI (gs_run S (xs (i + 1))).2.1))]) (st' := []) (w' := w2) rfl ?_
    refine gd_lvp [0, 1, 2, 3, 4] (lv' := [(0, .ref 45), (1, .ref 0), (2, .ref 27), (3, .ref 44), (4, .int (nI i))]) rfl ?_
    exact nxt w2 _ _ _ hC2 hM2 (gs_Good_run hG _)
set_option maxRecDepth 100000 in
theorem a_case7 {p : Program} {l : Launch} {e : Env} {s : State} {m : MethodId} {below : List Frame} {meth : Method} {c : Code} {D : va_G} {tC : FieldType → ClassId} {ad : Nat → Nat} {b L : Nat} {xs : Nat → Int32} (hls : l.stackTraces = false) (E : gd_E p s m #[Value.ref b] c c_A_law 8 R_A D tC ad (fun q => s.heap.size ≤ q) 45) (X : gd_XF (fun q => s.heap.size ≤ q) s s.heap) (hX : va_X b L xs s s.heap) (hbl : b < s.heap.size) (hab : ad 45 = b) (hA : ∀ q, gd_A ad 45 s.heap.size q → s.heap.size ≤ q) (hL : L ≤ 2048) {cells slots : Nat} (hcs : cells + 1 ≤ 601024 ∧ slots + 6 ≤ 7293034) {i : Nat} (hi : i + 4 ≤ L) {w : gd_W} {S : gs_T} {o G : Nat → Nat} (hC : gr_C w S o) (hM : gr_M w S G) (hG : gs_Good S) (nxt : ∀ w' S' o' G', gr_C w' S' o' → gr_M w' S' G' → gs_Good S' → gd_G p l e room_1 s m #[Value.ref b] below meth c D tC ad (fun q => s.heap.size ≤ q) 45 8 (cells + 1) (slots + 6) (lw_Z below #[Value.ref b] s) 889 [(0, .ref 45), (1, .ref 0), (2, .ref 27), (3, .ref 44), (4, .int (nI i))] [] w') : gd_G p l e room_1 s m #[Value.ref b] below meth c D tC ad (fun q => s.heap.size ≤ q) 45 8 cells slots (lw_Z below #[Value.ref b] s) 561 [(0, .ref 45), (1, .ref 0), (2, .ref 27), (3, .ref 44), (4, .int (nI i))] [] w := by
  have K := k_A_law_7
  have hinj := E.2.2.2.1
  refine gd_wd (k := cells + 1) (j := slots + 6) (Nat.le_succ _) (Nat.le_add_right _ _) ?_
  refine gd_r E K 1 (pc' := 562) (lv' := [(0, .ref 45), (1, .ref 0), (2, .ref 27), (3, .ref 44), (4, .int (nI i))]) (st' := [.ref 0]) (w' := w) rfl ?_
  refine gd_cVp E hA (av := []) (rest := []) (c3_Gtime hinj w hC) (K.1 562 (.invokevirtual 86, 0) rfl).1 ml_A_86 cv_G_time (by decide) (rfl) ⟨Nat.le_of_ble_eq_true rfl, Nat.le_of_ble_eq_true rfl⟩ hcs rfl (Nat.le_of_ble_eq_true rfl) (fun r9 w1 h9 => ?_)
  obtain ⟨rfl, ⟨o1, hC1⟩, g1⟩ := h9
  have hM1 := g1.M hM
  refine gd_r E K 1 (pc' := 566) (lv' := [(0, .ref 45), (1, .ref 0), (2, .ref 27), (3, .ref 44), (4, .int (nI i))]) (st' := [.ref 27, .int (gs_time S)]) (w' := w1) rfl ?_
  refine gd_cVp E hA (av := []) (rest := [.int (gs_time S)]) (c2_Mtime hinj w1 hM1) (K.1 566 (.invokevirtual 89, 0) rfl).1 ml_A_89 cv_M_time (by decide) (rfl) ⟨Nat.le_of_ble_eq_true rfl, Nat.le_of_ble_eq_true rfl⟩ hcs rfl (Nat.le_of_ble_eq_true rfl) (fun r9 w2 h9 => ?_)
  obtain ⟨rfl, -, ⟨G2, hM2⟩, f2⟩ := h9
  have hC2 := hC1.m f2
  refine gd_r E K 1 (pc' := if (gs_time S) = (gs_time S) then 889 else 572) (lv' := [(0, .ref 45), (1, .ref 0), (2, .ref 27), (3, .ref 44), (4, .int (nI i))]) (st' := []) (w' := w2) rfl ?_
  refine gd_it (rfl) ?_
  exact nxt w2 _ _ _ hC2 hM2 (hG)
set_option maxRecDepth 100000 in
theorem a_case8 {p : Program} {l : Launch} {e : Env} {s : State} {m : MethodId} {below : List Frame} {meth : Method} {c : Code} {D : va_G} {tC : FieldType → ClassId} {ad : Nat → Nat} {b L : Nat} {xs : Nat → Int32} (hls : l.stackTraces = false) (E : gd_E p s m #[Value.ref b] c c_A_law 8 R_A D tC ad (fun q => s.heap.size ≤ q) 45) (X : gd_XF (fun q => s.heap.size ≤ q) s s.heap) (hX : va_X b L xs s s.heap) (hbl : b < s.heap.size) (hab : ad 45 = b) (hA : ∀ q, gd_A ad 45 s.heap.size q → s.heap.size ≤ q) (hL : L ≤ 2048) {cells slots : Nat} (hcs : cells + 1 ≤ 601024 ∧ slots + 6 ≤ 7293034) {i : Nat} (hi : i + 4 ≤ L) {w : gd_W} {S : gs_T} {o G : Nat → Nat} (hC : gr_C w S o) (hM : gr_M w S G) (hG : gs_Good S) (nxt : ∀ w' S' o' G', gr_C w' S' o' → gr_M w' S' G' → gs_Good S' → gd_G p l e room_1 s m #[Value.ref b] below meth c D tC ad (fun q => s.heap.size ≤ q) 45 8 (cells + 1) (slots + 6) (lw_Z below #[Value.ref b] s) 889 [(0, .ref 45), (1, .ref 0), (2, .ref 27), (3, .ref 44), (4, .int (nI i))] [] w') : gd_G p l e room_1 s m #[Value.ref b] below meth c D tC ad (fun q => s.heap.size ≤ q) 45 8 cells slots (lw_Z below #[Value.ref b] s) 574 [(0, .ref 45), (1, .ref 0), (2, .ref 27), (3, .ref 44), (4, .int (nI i))] [] w := by
  have K := k_A_law_8
  have hinj := E.2.2.2.1
  refine gd_wd (k := cells + 1) (j := slots + 6) (Nat.le_succ _) (Nat.le_add_right _ _) ?_
  refine gd_r E K 1 (pc' := 575) (lv' := [(0, .ref 45), (1, .ref 0), (2, .ref 27), (3, .ref 44), (4, .int (nI i))]) (st' := [.ref 0]) (w' := w) rfl ?_
  refine gd_cVp E hA (av := []) (rest := []) (c3_Gdroplets hinj w hC) (K.1 575 (.invokevirtual 90, 0) rfl).1 ml_A_90 cv_G_droplets (by decide) (rfl) ⟨Nat.le_of_ble_eq_true rfl, Nat.le_of_ble_eq_true rfl⟩ hcs rfl (Nat.le_of_ble_eq_true rfl) (fun r9 w1 h9 => ?_)
  obtain ⟨rfl, ⟨o1, hC1⟩, g1⟩ := h9
  have hM1 := g1.M hM
  refine gd_r E K 1 (pc' := 579) (lv' := [(0, .ref 45), (1, .ref 0), (2, .ref 27), (3, .ref 44), (4, .int (nI i))]) (st' := [.ref 27, .int (nI (gs_cnt (gs_u S) (gs_made S)))]) (w' := w1) rfl ?_
  refine gd_cVp E hA (av := []) (rest := [.int (nI (gs_cnt (gs_u S) (gs_made S)))]) (c2_Mdroplets hinj w1 hM1) (K.1 579 (.invokevirtual 93, 0) rfl).1 ml_A_93 cv_M_droplets (by decide) (rfl) ⟨Nat.le_of_ble_eq_true rfl, Nat.le_of_ble_eq_true rfl⟩ hcs rfl (Nat.le_of_ble_eq_true rfl) (fun r9 w2 h9 => ?_)
  obtain ⟨rfl, -, ⟨G2, hM2⟩, f2⟩ := h9
  have hC2 := hC1.m f2
  refine gd_r E K 1 (pc' := if (nI (gs_cnt (gs_u S) (gs_made S))) = (nI (gs_cnt (gs_u S) (gs_made S))) then 889 else 585) (lv' := [(0, .ref 45), (1, .ref 0), (2, .ref 27), (3, .ref 44), (4, .int (nI i))]) (st' := []) (w' := w2) rfl ?_
  refine gd_it (rfl) ?_
  exact nxt w2 _ _ _ hC2 hM2 (hG)
set_option maxRecDepth 100000 in
theorem a_case9 {p : Program} {l : Launch} {e : Env} {s : State} {m : MethodId} {below : List Frame} {meth : Method} {c : Code} {D : va_G} {tC : FieldType → ClassId} {ad : Nat → Nat} {b L : Nat} {xs : Nat → Int32} (hls : l.stackTraces = false) (E : gd_E p s m #[Value.ref b] c c_A_law 8 R_A D tC ad (fun q => s.heap.size ≤ q) 45) (X : gd_XF (fun q => s.heap.size ≤ q) s s.heap) (hX : va_X b L xs s s.heap) (hbl : b < s.heap.size) (hab : ad 45 = b) (hA : ∀ q, gd_A ad 45 s.heap.size q → s.heap.size ≤ q) (hL : L ≤ 2048) {cells slots : Nat} (hcs : cells + 1 ≤ 601024 ∧ slots + 6 ≤ 7293034) {i : Nat} (hi : i + 4 ≤ L) {w : gd_W} {S : gs_T} {o G : Nat → Nat} (hC : gr_C w S o) (hM : gr_M w S G) (hG : gs_Good S) (nxt : ∀ w' S' o' G', gr_C w' S' o' → gr_M w' S' G' → gs_Good S' → gd_G p l e room_1 s m #[Value.ref b] below meth c D tC ad (fun q => s.heap.size ≤ q) 45 8 (cells + 1) (slots + 6) (lw_Z below #[Value.ref b] s) 889 [(0, .ref 45), (1, .ref 0), (2, .ref 27), (3, .ref 44), (4, .int (nI i))] [] w') : gd_G p l e room_1 s m #[Value.ref b] below meth c D tC ad (fun q => s.heap.size ≤ q) 45 8 cells slots (lw_Z below #[Value.ref b] s) 587 [(0, .ref 45), (1, .ref 0), (2, .ref 27), (3, .ref 44), (4, .int (nI i))] [] w := by
  have K := k_A_law_9
  have hinj := E.2.2.2.1
  refine gd_r E K 5 (pc' := 593) (lv' := [(0, .ref 45), (1, .ref 0), (2, .ref 27), (3, .ref 44), (4, .int (nI i))]) (st' := [.int ((nI i) + 1), .ref 45, .ref 0]) (w' := w) rfl ?_
  refine gd_sld E hX hbl hab (j := (i + 1)) (K.1 593 (.iaload, 0) rfl).1 (by rw [show (1 : Int32) = nI 1 from rfl, nI_add]) (by omega) hL ?_
  refine gd_r E K 4 (pc' := 599) (lv' := [(0, .ref 45), (1, .ref 0), (2, .ref 27), (3, .ref 44), (4, .int (nI i))]) (st' := [.int ((nI i) + 2), .ref 45, .int (xs (i + 1)), .ref 0]) (w' := w) rfl ?_
  refine gd_sld E hX hbl hab (j := (i + 2)) (K.1 599 (.iaload, 0) rfl).1 (by rw [show (2 : Int32) = nI 2 from rfl, nI_add]) (by omega) hL ?_
  refine gd_r E K 1 (pc' := 601) (lv' := [(0, .ref 45), (1, .ref 0), (2, .ref 27), (3, .ref 44), (4, .int (nI i))]) (st' := [.ref 44, .int (xs (i + 2)), .int (xs (i + 1)), .ref 0]) (w' := w) rfl ?_
  refine gd_cSw E X hA (av := [.ref 0, .int (xs (i + 1)), .int (xs (i + 2)), .ref 44]) (rest := []) (c4_look hls hinj w hC hG (xs (i + 1)) (xs (i + 2))) (K.1 601 (.invokestatic 94, 0) rfl).1 (gd_in 501 rfl rfl) cw_A_look ⟨Nat.le_of_ble_eq_true rfl, Nat.le_of_ble_eq_true rfl⟩ hcs rfl (Nat.le_of_ble_eq_true rfl) (fun r9 w1 h9 => ?_)
  obtain ⟨rfl, ⟨o1, hC1⟩, g1, hv1⟩ := h9
  have hM1 := g1.M hM
  refine gd_r E K 6 (pc' := 612) (lv' := [(0, .ref 45), (1, .ref 0), (2, .ref 27), (3, .ref 44), (4, .int (nI i)), (5, .int (nI (gs_lookc S (xs (i + 1)) (xs (i + 2)))))]) (st' := [.int ((nI i) + 1), .ref 45, .ref 27]) (w' := w1) rfl ?_
  refine gd_sld E hX hbl hab (j := (i + 1)) (K.1 612 (.iaload, 0) rfl).1 (by rw [show (1 : Int32) = nI 1 from rfl, nI_add]) (by omega) hL ?_
  refine gd_r E K 4 (pc' := 618) (lv' := [(0, .ref 45), (1, .ref 0), (2, .ref 27), (3, .ref 44), (4, .int (nI i)), (5, .int (nI (gs_lookc S (xs (i + 1)) (xs (i + 2)))))]) (st' := [.int ((nI i) + 2), .ref 45, .int (xs (i + 1)), .ref 27]) (w' := w1) rfl ?_
  refine gd_sld E hX hbl hab (j := (i + 2)) (K.1 618 (.iaload, 0) rfl).1 (by rw [show (2 : Int32) = nI 2 from rfl, nI_add]) (by omega) hL ?_
  refine gd_cVp E hA (av := [.int (xs (i + 1)), .int (xs (i + 2))]) (rest := []) (c2_Mlook hinj w1 hM1 (xs (i + 1)) (xs (i + 2))) (K.1 619 (.invokevirtual 96, 0) rfl).1 ml_A_96 cv_M_look (by decide) (rfl) ⟨Nat.le_of_ble_eq_true rfl, Nat.le_of_ble_eq_true rfl⟩ hcs rfl (Nat.le_of_ble_eq_true rfl) (fun r9 w2 h9 => ?_)
  obtain ⟨rfl, hth, ⟨G2, hM2⟩, f2⟩ := h9
  refine gd_r E K 2 (pc' := 625) (lv' := [(0, .ref 45), (1, .ref 0), (2, .ref 27), (3, .ref 44), (4, .int (nI i)), (5, .int (nI (gs_lookc S (xs (i + 1)) (xs (i + 2))))), (6, .int (gs_lookv S (xs (i + 1)) (xs (i + 2))))]) (st' := [.ref 27]) (w' := w2) rfl ?_
  have hC2 := hC1.m f2
  refine gd_cV E hA (av := []) (rest := []) (c2_thrown hinj w2) (K.1 625 (.invokevirtual 64, 0) rfl).1 ml_A_64 cv_M_thrown (by decide) (rfl) ⟨Nat.le_of_ble_eq_true rfl, Nat.le_of_ble_eq_true rfl⟩ hcs rfl (Nat.le_of_ble_eq_true rfl) ?_
  refine gd_r E K 1 (pc' := 630) (lv' := [(0, .ref 45), (1, .ref 0), (2, .ref 27), (3, .ref 44), (4, .int (nI i)), (5, .int (nI (gs_lookc S (xs (i + 1)) (xs (i + 2))))), (6, .int (gs_lookv S (xs (i + 1)) (xs (i + 2))))]) (st' := [.int (nI (gs_lookc S (xs (i + 1)) (xs (i + 2)))), .int (w2.1 27 0)]) (w' := w2) rfl ?_
  refine gd_cg (lv' := [(0, .ref 45), (1, .ref 0), (2, .ref 27), (3, .ref 44), (4, .int (nI i)), (5, .int (nI (gs_lookc S (xs (i + 1)) (xs (i + 2))))), (6, .int (gs_lookv S (xs (i + 1)) (xs (i + 2))))]) (st' := [.int (nI (gs_lookc S (xs (i + 1)) (xs (i + 2)))), .int (nI (gs_lookc S (xs (i + 1)) (xs (i + 2))))]) (w' := w2) ?_ (rfl) (by simp only [hth]) rfl
  refine gd_r E K 1 (pc' := if (nI (gs_lookc S (xs (i + 1)) (xs (i + 2)))) = (nI (gs_lookc S (xs (i + 1)) (xs (i + 2)))) then 635 else 633) (lv' := [(0, .ref 45), (1, .ref 0), (2, .ref 27), (3, .ref 44), (4, .int (nI i)), (5, .int (nI (gs_lookc S (xs (i + 1)) (xs (i + 2))))), (6, .int (gs_lookv S (xs (i + 1)) (xs (i + 2))))]) (st' := []) (w' := w2) rfl ?_
  refine gd_it (rfl) ?_
  refine gd_r E K 1 (pc' := 637) (lv' := [(0, .ref 45), (1, .ref 0), (2, .ref 27), (3, .ref 44), (4, .int (nI i)), (5, .int (nI (gs_lookc S (xs (i + 1)) (xs (i + 2))))), (6, .int (gs_lookv S (xs (i + 1)) (xs (i + 2))))]) (st' := [.int (nI (gs_lookc S (xs (i + 1)) (xs (i + 2))))]) (w' := w2) rfl ?_
  by_cases hc0 : gs_lookc S (xs (i + 1)) (xs (i + 2)) = 0
  · refine gd_r E K 1 (pc' := if (nI (gs_lookc S (xs (i + 1)) (xs (i + 2)))) = 0 then 640 else 652) (lv' := [(0, .ref 45), (1, .ref 0), (2, .ref 27), (3, .ref 44), (4, .int (nI i)), (5, .int (nI (gs_lookc S (xs (i + 1)) (xs (i + 2))))), (6, .int (gs_lookv S (xs (i + 1)) (xs (i + 2))))]) (st' := []) (w' := w2) rfl ?_
    refine gd_it ((gs_code0 (gs_lookc_3 _ _ _)).mpr hc0) ?_
    refine gd_r E K 2 (pc' := 642) (lv' := [(0, .ref 45), (1, .ref 0), (2, .ref 27), (3, .ref 44), (4, .int (nI i)), (5, .int (nI (gs_lookc S (xs (i + 1)) (xs (i + 2))))), (6, .int (gs_lookv S (xs (i + 1)) (xs (i + 2))))]) (st' := [.int 0, .ref 44]) (w' := w2) rfl ?_
    refine gd_laldv E (K.1 642 (.laload, 0) rfl).1 (j := 0) (by decide) (rfl) (rfl) (by decide) (by decide) (v := (gs_lookv S (xs (i + 1)) (xs (i + 2))).toInt64) (by rw [(f2.1 44 (Or.inr rfl)).2]; exact hv1 hc0) ?_
    refine gd_r E K 3 (pc' := 647) (lv' := [(0, .ref 45), (1, .ref 0), (2, .ref 27), (3, .ref 44), (4, .int (nI i)), (5, .int (nI (gs_lookc S (xs (i + 1)) (xs (i + 2))))), (6, .int (gs_lookv S (xs (i + 1)) (xs (i + 2))))]) (st' := [.int (lg_cmp ((gs_lookv S (xs (i + 1)) (xs (i + 2))).toInt64) ((gs_lookv S (xs (i + 1)) (xs (i + 2))).toInt64))]) (w' := w2) rfl ?_
    refine gd_r E K 1 (pc' := if (lg_cmp ((gs_lookv S (xs (i + 1)) (xs (i + 2))).toInt64) ((gs_lookv S (xs (i + 1)) (xs (i + 2))).toInt64)) = 0 then 652 else 650) (lv' := [(0, .ref 45), (1, .ref 0), (2, .ref 27), (3, .ref 44), (4, .int (nI i)), (5, .int (nI (gs_lookc S (xs (i + 1)) (xs (i + 2))))), (6, .int (gs_lookv S (xs (i + 1)) (xs (i + 2))))]) (st' := []) (w' := w2) rfl ?_
    refine gd_it ((lg_cmp_eq _ _).mpr rfl) ?_
    refine gd_r E K 1 (pc' := 889) (lv' := [(0, .ref 45), (1, .ref 0), (2, .ref 27), (3, .ref 44), (4, .int (nI i)), (5, .int (nI (gs_lookc S (xs (i + 1)) (xs (i + 2))))), (6, .int (gs_lookv S (xs (i + 1)) (xs (i + 2))))]) (st' := []) (w' := w2) rfl ?_
    refine gd_lvp [0, 1, 2, 3, 4] (lv' := [(0, .ref 45), (1, .ref 0), (2, .ref 27), (3, .ref 44), (4, .int (nI i))]) rfl ?_
    exact nxt w2 _ _ _ hC2 hM2 (hG)
  · refine gd_r E K 1 (pc' := if (nI (gs_lookc S (xs (i + 1)) (xs (i + 2)))) = 0 then 640 else 652) (lv' := [(0, .ref 45), (1, .ref 0), (2, .ref 27), (3, .ref 44), (4, .int (nI i)), (5, .int (nI (gs_lookc S (xs (i + 1)) (xs (i + 2))))), (6, .int (gs_lookv S (xs (i + 1)) (xs (i + 2))))]) (st' := []) (w' := w2) rfl ?_
    refine gd_if (fun h => hc0 ((gs_code0 (gs_lookc_3 _ _ _)).mp h)) ?_
    refine gd_r E K 1 (pc' := 889) (lv' := [(0, .ref 45), (1, .ref 0), (2, .ref 27), (3, .ref 44), (4, .int (nI i)), (5, .int (nI (gs_lookc S (xs (i + 1)) (xs (i + 2))))), (6, .int (gs_lookv S (xs (i + 1)) (xs (i + 2))))]) (st' := []) (w' := w2) rfl ?_
    refine gd_lvp [0, 1, 2, 3, 4] (lv' := [(0, .ref 45), (1, .ref 0), (2, .ref 27), (3, .ref 44), (4, .int (nI i))]) rfl ?_
    exact nxt w2 _ _ _ hC2 hM2 (hG)
set_option maxRecDepth 100000 in
theorem a_case10 {p : Program} {l : Launch} {e : Env} {s : State} {m : MethodId} {below : List Frame} {meth : Method} {c : Code} {D : va_G} {tC : FieldType → ClassId} {ad : Nat → Nat} {b L : Nat} {xs : Nat → Int32} (hls : l.stackTraces = false) (E : gd_E p s m #[Value.ref b] c c_A_law 8 R_A D tC ad (fun q => s.heap.size ≤ q) 45) (X : gd_XF (fun q => s.heap.size ≤ q) s s.heap) (hX : va_X b L xs s s.heap) (hbl : b < s.heap.size) (hab : ad 45 = b) (hA : ∀ q, gd_A ad 45 s.heap.size q → s.heap.size ≤ q) (hL : L ≤ 2048) {cells slots : Nat} (hcs : cells + 1 ≤ 601024 ∧ slots + 6 ≤ 7293034) {i : Nat} (hi : i + 4 ≤ L) {w : gd_W} {S : gs_T} {o G : Nat → Nat} (hC : gr_C w S o) (hM : gr_M w S G) (hG : gs_Good S) (nxt : ∀ w' S' o' G', gr_C w' S' o' → gr_M w' S' G' → gs_Good S' → gd_G p l e room_1 s m #[Value.ref b] below meth c D tC ad (fun q => s.heap.size ≤ q) 45 8 (cells + 1) (slots + 6) (lw_Z below #[Value.ref b] s) 889 [(0, .ref 45), (1, .ref 0), (2, .ref 27), (3, .ref 44), (4, .int (nI i))] [] w') : gd_G p l e room_1 s m #[Value.ref b] below meth c D tC ad (fun q => s.heap.size ≤ q) 45 8 cells slots (lw_Z below #[Value.ref b] s) 655 [(0, .ref 45), (1, .ref 0), (2, .ref 27), (3, .ref 44), (4, .int (nI i))] [] w := by
  have K := k_A_law_10
  have hinj := E.2.2.2.1
  refine gd_wd (k := cells + 1) (j := slots + 6) (Nat.le_succ _) (Nat.le_add_right _ _) ?_
  refine gd_r E K 5 (pc' := 661) (lv' := [(0, .ref 45), (1, .ref 0), (2, .ref 27), (3, .ref 44), (4, .int (nI i))]) (st' := [.int ((nI i) + 1), .ref 45, .ref 0]) (w' := w) rfl ?_
  refine gd_sld E hX hbl hab (j := (i + 1)) (K.1 661 (.iaload, 0) rfl).1 (by rw [show (1 : Int32) = nI 1 from rfl, nI_add]) (by omega) hL ?_
  refine gd_r E K 4 (pc' := 667) (lv' := [(0, .ref 45), (1, .ref 0), (2, .ref 27), (3, .ref 44), (4, .int (nI i))]) (st' := [.int ((nI i) + 2), .ref 45, .int (xs (i + 1)), .ref 0]) (w' := w) rfl ?_
  refine gd_sld E hX hbl hab (j := (i + 2)) (K.1 667 (.iaload, 0) rfl).1 (by rw [show (2 : Int32) = nI 2 from rfl, nI_add]) (by omega) hL ?_
  refine gd_cVp E hA (av := [.int (xs (i + 1)), .int (xs (i + 2))]) (rest := []) (c3_Gahead hinj w hC (fun k hk => (hG.1 k hk).1) (xs (i + 1)) (xs (i + 2))) (K.1 668 (.invokevirtual 97, 0) rfl).1 ml_A_97 cv_G_ahead (by decide) (rfl) ⟨Nat.le_of_ble_eq_true rfl, Nat.le_of_ble_eq_true rfl⟩ hcs rfl (Nat.le_of_ble_eq_true rfl) (fun r9 w1 h9 => ?_)
  obtain ⟨rfl, ⟨o1, hC1⟩, g1⟩ := h9
  have hM1 := g1.M hM
  refine gd_r E K 5 (pc' := 677) (lv' := [(0, .ref 45), (1, .ref 0), (2, .ref 27), (3, .ref 44), (4, .int (nI i))]) (st' := [.int ((nI i) + 1), .ref 45, .ref 27, .int (gs_aheadv S (xs (i + 1)) (xs (i + 2)))]) (w' := w1) rfl ?_
  refine gd_sld E hX hbl hab (j := (i + 1)) (K.1 677 (.iaload, 0) rfl).1 (by rw [show (1 : Int32) = nI 1 from rfl, nI_add]) (by omega) hL ?_
  refine gd_r E K 4 (pc' := 683) (lv' := [(0, .ref 45), (1, .ref 0), (2, .ref 27), (3, .ref 44), (4, .int (nI i))]) (st' := [.int ((nI i) + 2), .ref 45, .int (xs (i + 1)), .ref 27, .int (gs_aheadv S (xs (i + 1)) (xs (i + 2)))]) (w' := w1) rfl ?_
  refine gd_sld E hX hbl hab (j := (i + 2)) (K.1 683 (.iaload, 0) rfl).1 (by rw [show (2 : Int32) = nI 2 from rfl, nI_add]) (by omega) hL ?_
  refine gd_cVp E hA (av := [.int (xs (i + 1)), .int (xs (i + 2))]) (rest := [.int (gs_aheadv S (xs (i + 1)) (xs (i + 2)))]) (c2_Mahead hinj w1 hM1 (fun k hk => (hG.1 k hk).1) (xs (i + 1)) (xs (i + 2))) (K.1 684 (.invokevirtual 100, 0) rfl).1 ml_A_100 cv_M_ahead (by decide) (rfl) ⟨Nat.le_of_ble_eq_true rfl, Nat.le_of_ble_eq_true rfl⟩ hcs rfl (Nat.le_of_ble_eq_true rfl) (fun r9 w2 h9 => ?_)
  obtain ⟨rfl, -, ⟨G2, hM2⟩, f2⟩ := h9
  have hC2 := hC1.m f2
  refine gd_r E K 1 (pc' := if (gs_aheadv S (xs (i + 1)) (xs (i + 2))) = (gs_aheadv S (xs (i + 1)) (xs (i + 2))) then 889 else 690) (lv' := [(0, .ref 45), (1, .ref 0), (2, .ref 27), (3, .ref 44), (4, .int (nI i))]) (st' := []) (w' := w2) rfl ?_
  refine gd_it (rfl) ?_
  exact nxt w2 _ _ _ hC2 hM2 (hG)
set_option maxRecDepth 100000 in
theorem a_case11 {p : Program} {l : Launch} {e : Env} {s : State} {m : MethodId} {below : List Frame} {meth : Method} {c : Code} {D : va_G} {tC : FieldType → ClassId} {ad : Nat → Nat} {b L : Nat} {xs : Nat → Int32} (hls : l.stackTraces = false) (E : gd_E p s m #[Value.ref b] c c_A_law 8 R_A D tC ad (fun q => s.heap.size ≤ q) 45) (X : gd_XF (fun q => s.heap.size ≤ q) s s.heap) (hX : va_X b L xs s s.heap) (hbl : b < s.heap.size) (hab : ad 45 = b) (hA : ∀ q, gd_A ad 45 s.heap.size q → s.heap.size ≤ q) (hL : L ≤ 2048) {cells slots : Nat} (hcs : cells + 1 ≤ 601024 ∧ slots + 6 ≤ 7293034) {i : Nat} (hi : i + 4 ≤ L) {w : gd_W} {S : gs_T} {o G : Nat → Nat} (hC : gr_C w S o) (hM : gr_M w S G) (hG : gs_Good S) (nxt : ∀ w' S' o' G', gr_C w' S' o' → gr_M w' S' G' → gs_Good S' → gd_G p l e room_1 s m #[Value.ref b] below meth c D tC ad (fun q => s.heap.size ≤ q) 45 8 (cells + 1) (slots + 6) (lw_Z below #[Value.ref b] s) 889 [(0, .ref 45), (1, .ref 0), (2, .ref 27), (3, .ref 44), (4, .int (nI i))] [] w') : gd_G p l e room_1 s m #[Value.ref b] below meth c D tC ad (fun q => s.heap.size ≤ q) 45 8 cells slots (lw_Z below #[Value.ref b] s) 692 [(0, .ref 45), (1, .ref 0), (2, .ref 27), (3, .ref 44), (4, .int (nI i))] [] w := by
  have K := k_A_law_11
  have hinj := E.2.2.2.1
  refine gd_r E K 5 (pc' := 698) (lv' := [(0, .ref 45), (1, .ref 0), (2, .ref 27), (3, .ref 44), (4, .int (nI i))]) (st' := [.int ((nI i) + 1), .ref 45, .ref 0]) (w' := w) rfl ?_
  refine gd_sld E hX hbl hab (j := (i + 1)) (K.1 698 (.iaload, 0) rfl).1 (by rw [show (1 : Int32) = nI 1 from rfl, nI_add]) (by omega) hL ?_
  refine gd_r E K 4 (pc' := 704) (lv' := [(0, .ref 45), (1, .ref 0), (2, .ref 27), (3, .ref 44), (4, .int (nI i))]) (st' := [.int ((nI i) + 2), .ref 45, .int (xs (i + 1)), .ref 0]) (w' := w) rfl ?_
  refine gd_sld E hX hbl hab (j := (i + 2)) (K.1 704 (.iaload, 0) rfl).1 (by rw [show (2 : Int32) = nI 2 from rfl, nI_add]) (by omega) hL ?_
  refine gd_r E K 1 (pc' := 706) (lv' := [(0, .ref 45), (1, .ref 0), (2, .ref 27), (3, .ref 44), (4, .int (nI i))]) (st' := [.ref 44, .int (xs (i + 2)), .int (xs (i + 1)), .ref 0]) (w' := w) rfl ?_
  refine gd_cSw E X hA (av := [.ref 0, .int (xs (i + 1)), .int (xs (i + 2)), .ref 44]) (rest := []) (c4_share hls hinj w hC hG (xs (i + 1)) (xs (i + 2))) (K.1 706 (.invokestatic 101, 0) rfl).1 (gd_in 509 rfl rfl) cw_A_share ⟨Nat.le_of_ble_eq_true rfl, Nat.le_of_ble_eq_true rfl⟩ hcs rfl (Nat.le_of_ble_eq_true rfl) (fun r9 w1 h9 => ?_)
  obtain ⟨rfl, ⟨o1, hC1⟩, g1, hv1⟩ := h9
  have hM1 := g1.M hM
  refine gd_r E K 6 (pc' := 717) (lv' := [(0, .ref 45), (1, .ref 0), (2, .ref 27), (3, .ref 44), (4, .int (nI i)), (5, .int (nI (gs_lookc S (xs (i + 1)) (xs (i + 2)))))]) (st' := [.int ((nI i) + 1), .ref 45, .ref 27]) (w' := w1) rfl ?_
  refine gd_sld E hX hbl hab (j := (i + 1)) (K.1 717 (.iaload, 0) rfl).1 (by rw [show (1 : Int32) = nI 1 from rfl, nI_add]) (by omega) hL ?_
  refine gd_r E K 4 (pc' := 723) (lv' := [(0, .ref 45), (1, .ref 0), (2, .ref 27), (3, .ref 44), (4, .int (nI i)), (5, .int (nI (gs_lookc S (xs (i + 1)) (xs (i + 2)))))]) (st' := [.int ((nI i) + 2), .ref 45, .int (xs (i + 1)), .ref 27]) (w' := w1) rfl ?_
  refine gd_sld E hX hbl hab (j := (i + 2)) (K.1 723 (.iaload, 0) rfl).1 (by rw [show (2 : Int32) = nI 2 from rfl, nI_add]) (by omega) hL ?_
  refine gd_cVp E hA (av := [.int (xs (i + 1)), .int (xs (i + 2))]) (rest := []) (c2_Mshare hinj w1 hM1 (xs (i + 1)) (xs (i + 2))) (K.1 724 (.invokevirtual 103, 0) rfl).1 ml_A_103 cv_M_share (by decide) (rfl) ⟨Nat.le_of_ble_eq_true rfl, Nat.le_of_ble_eq_true rfl⟩ hcs rfl (Nat.le_of_ble_eq_true rfl) (fun r9 w2 h9 => ?_)
  obtain ⟨rfl, hth, ⟨G2, hM2⟩, f2⟩ := h9
  refine gd_r E K 2 (pc' := 730) (lv' := [(0, .ref 45), (1, .ref 0), (2, .ref 27), (3, .ref 44), (4, .int (nI i)), (5, .int (nI (gs_lookc S (xs (i + 1)) (xs (i + 2))))), (6, .long (gs_sharev S (xs (i + 1)) (xs (i + 2))))]) (st' := [.ref 27]) (w' := w2) rfl ?_
  have hC2 := hC1.m f2
  refine gd_cV E hA (av := []) (rest := []) (c2_thrown hinj w2) (K.1 730 (.invokevirtual 64, 0) rfl).1 ml_A_64 cv_M_thrown (by decide) (rfl) ⟨Nat.le_of_ble_eq_true rfl, Nat.le_of_ble_eq_true rfl⟩ hcs rfl (Nat.le_of_ble_eq_true rfl) ?_
  refine gd_r E K 1 (pc' := 735) (lv' := [(0, .ref 45), (1, .ref 0), (2, .ref 27), (3, .ref 44), (4, .int (nI i)), (5, .int (nI (gs_lookc S (xs (i + 1)) (xs (i + 2))))), (6, .long (gs_sharev S (xs (i + 1)) (xs (i + 2))))]) (st' := [.int (nI (gs_lookc S (xs (i + 1)) (xs (i + 2)))), .int (w2.1 27 0)]) (w' := w2) rfl ?_
  refine gd_cg (lv' := [(0, .ref 45), (1, .ref 0), (2, .ref 27), (3, .ref 44), (4, .int (nI i)), (5, .int (nI (gs_lookc S (xs (i + 1)) (xs (i + 2))))), (6, .long (gs_sharev S (xs (i + 1)) (xs (i + 2))))]) (st' := [.int (nI (gs_lookc S (xs (i + 1)) (xs (i + 2)))), .int (nI (gs_lookc S (xs (i + 1)) (xs (i + 2))))]) (w' := w2) ?_ (rfl) (by simp only [hth]) rfl
  refine gd_r E K 1 (pc' := if (nI (gs_lookc S (xs (i + 1)) (xs (i + 2)))) = (nI (gs_lookc S (xs (i + 1)) (xs (i + 2)))) then 740 else 738) (lv' := [(0, .ref 45), (1, .ref 0), (2, .ref 27), (3, .ref 44), (4, .int (nI i)), (5, .int (nI (gs_lookc S (xs (i + 1)) (xs (i + 2))))), (6, .long (gs_sharev S (xs (i + 1)) (xs (i + 2))))]) (st' := []) (w' := w2) rfl ?_
  refine gd_it (rfl) ?_
  refine gd_r E K 1 (pc' := 742) (lv' := [(0, .ref 45), (1, .ref 0), (2, .ref 27), (3, .ref 44), (4, .int (nI i)), (5, .int (nI (gs_lookc S (xs (i + 1)) (xs (i + 2))))), (6, .long (gs_sharev S (xs (i + 1)) (xs (i + 2))))]) (st' := [.int (nI (gs_lookc S (xs (i + 1)) (xs (i + 2))))]) (w' := w2) rfl ?_
  by_cases hc0 : gs_lookc S (xs (i + 1)) (xs (i + 2)) = 0
  · refine gd_r E K 1 (pc' := if (nI (gs_lookc S (xs (i + 1)) (xs (i + 2)))) = 0 then 745 else 756) (lv' := [(0, .ref 45), (1, .ref 0), (2, .ref 27), (3, .ref 44), (4, .int (nI i)), (5, .int (nI (gs_lookc S (xs (i + 1)) (xs (i + 2))))), (6, .long (gs_sharev S (xs (i + 1)) (xs (i + 2))))]) (st' := []) (w' := w2) rfl ?_
    refine gd_it ((gs_code0 (gs_lookc_3 _ _ _)).mpr hc0) ?_
    refine gd_r E K 2 (pc' := 747) (lv' := [(0, .ref 45), (1, .ref 0), (2, .ref 27), (3, .ref 44), (4, .int (nI i)), (5, .int (nI (gs_lookc S (xs (i + 1)) (xs (i + 2))))), (6, .long (gs_sharev S (xs (i + 1)) (xs (i + 2))))]) (st' := [.int 0, .ref 44]) (w' := w2) rfl ?_
    refine gd_laldv E (K.1 747 (.laload, 0) rfl).1 (j := 0) (by decide) (rfl) (rfl) (by decide) (by decide) (v := gs_sharev S (xs (i + 1)) (xs (i + 2))) (by rw [(f2.1 44 (Or.inr rfl)).2]; exact hv1 hc0) ?_
    refine gd_r E K 2 (pc' := 751) (lv' := [(0, .ref 45), (1, .ref 0), (2, .ref 27), (3, .ref 44), (4, .int (nI i)), (5, .int (nI (gs_lookc S (xs (i + 1)) (xs (i + 2))))), (6, .long (gs_sharev S (xs (i + 1)) (xs (i + 2))))]) (st' := [.int (lg_cmp (gs_sharev S (xs (i + 1)) (xs (i + 2))) (gs_sharev S (xs (i + 1)) (xs (i + 2))))]) (w' := w2) rfl ?_
    refine gd_r E K 1 (pc' := if (lg_cmp (gs_sharev S (xs (i + 1)) (xs (i + 2))) (gs_sharev S (xs (i + 1)) (xs (i + 2)))) = 0 then 756 else 754) (lv' := [(0, .ref 45), (1, .ref 0), (2, .ref 27), (3, .ref 44), (4, .int (nI i)), (5, .int (nI (gs_lookc S (xs (i + 1)) (xs (i + 2))))), (6, .long (gs_sharev S (xs (i + 1)) (xs (i + 2))))]) (st' := []) (w' := w2) rfl ?_
    refine gd_it ((lg_cmp_eq _ _).mpr rfl) ?_
    refine gd_r E K 1 (pc' := 889) (lv' := [(0, .ref 45), (1, .ref 0), (2, .ref 27), (3, .ref 44), (4, .int (nI i)), (5, .int (nI (gs_lookc S (xs (i + 1)) (xs (i + 2))))), (6, .long (gs_sharev S (xs (i + 1)) (xs (i + 2))))]) (st' := []) (w' := w2) rfl ?_
    refine gd_lvp [0, 1, 2, 3, 4] (lv' := [(0, .ref 45), (1, .ref 0), (2, .ref 27), (3, .ref 44), (4, .int (nI i))]) rfl ?_
    exact nxt w2 _ _ _ hC2 hM2 (hG)
  · refine gd_r E K 1 (pc' := if (nI (gs_lookc S (xs (i + 1)) (xs (i + 2)))) = 0 then 745 else 756) (lv' := [(0, .ref 45), (1, .ref 0), (2, .ref 27), (3, .ref 44), (4, .int (nI i)), (5, .int (nI (gs_lookc S (xs (i + 1)) (xs (i + 2))))), (6, .long (gs_sharev S (xs (i + 1)) (xs (i + 2))))]) (st' := []) (w' := w2) rfl ?_
    refine gd_if (fun h => hc0 ((gs_code0 (gs_lookc_3 _ _ _)).mp h)) ?_
    refine gd_r E K 1 (pc' := 889) (lv' := [(0, .ref 45), (1, .ref 0), (2, .ref 27), (3, .ref 44), (4, .int (nI i)), (5, .int (nI (gs_lookc S (xs (i + 1)) (xs (i + 2))))), (6, .long (gs_sharev S (xs (i + 1)) (xs (i + 2))))]) (st' := []) (w' := w2) rfl ?_
    refine gd_lvp [0, 1, 2, 3, 4] (lv' := [(0, .ref 45), (1, .ref 0), (2, .ref 27), (3, .ref 44), (4, .int (nI i))]) rfl ?_
    exact nxt w2 _ _ _ hC2 hM2 (hG)
set_option maxRecDepth 100000 in
theorem a_case12 {p : Program} {l : Launch} {e : Env} {s : State} {m : MethodId} {below : List Frame} {meth : Method} {c : Code} {D : va_G} {tC : FieldType → ClassId} {ad : Nat → Nat} {b L : Nat} {xs : Nat → Int32} (hls : l.stackTraces = false) (E : gd_E p s m #[Value.ref b] c c_A_law 8 R_A D tC ad (fun q => s.heap.size ≤ q) 45) (X : gd_XF (fun q => s.heap.size ≤ q) s s.heap) (hX : va_X b L xs s s.heap) (hbl : b < s.heap.size) (hab : ad 45 = b) (hA : ∀ q, gd_A ad 45 s.heap.size q → s.heap.size ≤ q) (hL : L ≤ 2048) {cells slots : Nat} (hcs : cells + 1 ≤ 601024 ∧ slots + 6 ≤ 7293034) {i : Nat} (hi : i + 4 ≤ L) {w : gd_W} {S : gs_T} {o G : Nat → Nat} (hC : gr_C w S o) (hM : gr_M w S G) (hG : gs_Good S) (nxt : ∀ w' S' o' G', gr_C w' S' o' → gr_M w' S' G' → gs_Good S' → gd_G p l e room_1 s m #[Value.ref b] below meth c D tC ad (fun q => s.heap.size ≤ q) 45 8 (cells + 1) (slots + 6) (lw_Z below #[Value.ref b] s) 889 [(0, .ref 45), (1, .ref 0), (2, .ref 27), (3, .ref 44), (4, .int (nI i))] [] w') : gd_G p l e room_1 s m #[Value.ref b] below meth c D tC ad (fun q => s.heap.size ≤ q) 45 8 cells slots (lw_Z below #[Value.ref b] s) 759 [(0, .ref 45), (1, .ref 0), (2, .ref 27), (3, .ref 44), (4, .int (nI i))] [] w := by
  have K := k_A_law_12
  have hinj := E.2.2.2.1
  refine gd_r E K 5 (pc' := 765) (lv' := [(0, .ref 45), (1, .ref 0), (2, .ref 27), (3, .ref 44), (4, .int (nI i))]) (st' := [.int ((nI i) + 1), .ref 45, .ref 0]) (w' := w) rfl ?_
  refine gd_sld E hX hbl hab (j := (i + 1)) (K.1 765 (.iaload, 0) rfl).1 (by rw [show (1 : Int32) = nI 1 from rfl, nI_add]) (by omega) hL ?_
  refine gd_r E K 4 (pc' := 771) (lv' := [(0, .ref 45), (1, .ref 0), (2, .ref 27), (3, .ref 44), (4, .int (nI i))]) (st' := [.int ((nI i) + 2), .ref 45, .int (xs (i + 1)), .ref 0]) (w' := w) rfl ?_
  refine gd_sld E hX hbl hab (j := (i + 2)) (K.1 771 (.iaload, 0) rfl).1 (by rw [show (2 : Int32) = nI 2 from rfl, nI_add]) (by omega) hL ?_
  refine gd_r E K 1 (pc' := 773) (lv' := [(0, .ref 45), (1, .ref 0), (2, .ref 27), (3, .ref 44), (4, .int (nI i))]) (st' := [.ref 44, .int (xs (i + 2)), .int (xs (i + 1)), .ref 0]) (w' := w) rfl ?_
  refine gd_cSw E X hA (av := [.ref 0, .int (xs (i + 1)), .int (xs (i + 2)), .ref 44]) (rest := []) (c4_reading hls hinj w hC hG (xs (i + 1)) (xs (i + 2))) (K.1 773 (.invokestatic 104, 0) rfl).1 (gd_in 517 rfl rfl) cw_A_reading ⟨Nat.le_of_ble_eq_true rfl, Nat.le_of_ble_eq_true rfl⟩ hcs rfl (Nat.le_of_ble_eq_true rfl) (fun r9 w1 h9 => ?_)
  obtain ⟨rfl, ⟨o1, hC1⟩, g1, hv1⟩ := h9
  have hM1 := g1.M hM
  refine gd_r E K 6 (pc' := 784) (lv' := [(0, .ref 45), (1, .ref 0), (2, .ref 27), (3, .ref 44), (4, .int (nI i)), (5, .int (nI (gs_readc S (xs (i + 1)) (xs (i + 2)))))]) (st' := [.int ((nI i) + 1), .ref 45, .ref 27]) (w' := w1) rfl ?_
  refine gd_sld E hX hbl hab (j := (i + 1)) (K.1 784 (.iaload, 0) rfl).1 (by rw [show (1 : Int32) = nI 1 from rfl, nI_add]) (by omega) hL ?_
  refine gd_r E K 4 (pc' := 790) (lv' := [(0, .ref 45), (1, .ref 0), (2, .ref 27), (3, .ref 44), (4, .int (nI i)), (5, .int (nI (gs_readc S (xs (i + 1)) (xs (i + 2)))))]) (st' := [.int ((nI i) + 2), .ref 45, .int (xs (i + 1)), .ref 27]) (w' := w1) rfl ?_
  refine gd_sld E hX hbl hab (j := (i + 2)) (K.1 790 (.iaload, 0) rfl).1 (by rw [show (2 : Int32) = nI 2 from rfl, nI_add]) (by omega) hL ?_
  refine gd_cVp E hA (av := [.int (xs (i + 1)), .int (xs (i + 2))]) (rest := []) (c2_Mreading hinj w1 hM1 (xs (i + 1)) (xs (i + 2))) (K.1 791 (.invokevirtual 106, 0) rfl).1 ml_A_106 cv_M_reading (by decide) (rfl) ⟨Nat.le_of_ble_eq_true rfl, Nat.le_of_ble_eq_true rfl⟩ hcs rfl (Nat.le_of_ble_eq_true rfl) (fun r9 w2 h9 => ?_)
  obtain ⟨rfl, hth, ⟨G2, hM2⟩, f2⟩ := h9
  refine gd_r E K 2 (pc' := 797) (lv' := [(0, .ref 45), (1, .ref 0), (2, .ref 27), (3, .ref 44), (4, .int (nI i)), (5, .int (nI (gs_readc S (xs (i + 1)) (xs (i + 2))))), (6, .int (gs_readv S (xs (i + 1)) (xs (i + 2))))]) (st' := [.ref 27]) (w' := w2) rfl ?_
  have hC2 := hC1.m f2
  refine gd_cV E hA (av := []) (rest := []) (c2_thrown hinj w2) (K.1 797 (.invokevirtual 64, 0) rfl).1 ml_A_64 cv_M_thrown (by decide) (rfl) ⟨Nat.le_of_ble_eq_true rfl, Nat.le_of_ble_eq_true rfl⟩ hcs rfl (Nat.le_of_ble_eq_true rfl) ?_
  refine gd_r E K 1 (pc' := 802) (lv' := [(0, .ref 45), (1, .ref 0), (2, .ref 27), (3, .ref 44), (4, .int (nI i)), (5, .int (nI (gs_readc S (xs (i + 1)) (xs (i + 2))))), (6, .int (gs_readv S (xs (i + 1)) (xs (i + 2))))]) (st' := [.int (nI (gs_readc S (xs (i + 1)) (xs (i + 2)))), .int (w2.1 27 0)]) (w' := w2) rfl ?_
  refine gd_cg (lv' := [(0, .ref 45), (1, .ref 0), (2, .ref 27), (3, .ref 44), (4, .int (nI i)), (5, .int (nI (gs_readc S (xs (i + 1)) (xs (i + 2))))), (6, .int (gs_readv S (xs (i + 1)) (xs (i + 2))))]) (st' := [.int (nI (gs_readc S (xs (i + 1)) (xs (i + 2)))), .int (nI (gs_readc S (xs (i + 1)) (xs (i + 2))))]) (w' := w2) ?_ (rfl) (by simp only [hth]) rfl
  refine gd_r E K 1 (pc' := if (nI (gs_readc S (xs (i + 1)) (xs (i + 2)))) = (nI (gs_readc S (xs (i + 1)) (xs (i + 2)))) then 807 else 805) (lv' := [(0, .ref 45), (1, .ref 0), (2, .ref 27), (3, .ref 44), (4, .int (nI i)), (5, .int (nI (gs_readc S (xs (i + 1)) (xs (i + 2))))), (6, .int (gs_readv S (xs (i + 1)) (xs (i + 2))))]) (st' := []) (w' := w2) rfl ?_
  refine gd_it (rfl) ?_
  refine gd_r E K 1 (pc' := 809) (lv' := [(0, .ref 45), (1, .ref 0), (2, .ref 27), (3, .ref 44), (4, .int (nI i)), (5, .int (nI (gs_readc S (xs (i + 1)) (xs (i + 2))))), (6, .int (gs_readv S (xs (i + 1)) (xs (i + 2))))]) (st' := [.int (nI (gs_readc S (xs (i + 1)) (xs (i + 2))))]) (w' := w2) rfl ?_
  by_cases hc0 : gs_readc S (xs (i + 1)) (xs (i + 2)) = 0
  · refine gd_r E K 1 (pc' := if (nI (gs_readc S (xs (i + 1)) (xs (i + 2)))) = 0 then 812 else 824) (lv' := [(0, .ref 45), (1, .ref 0), (2, .ref 27), (3, .ref 44), (4, .int (nI i)), (5, .int (nI (gs_readc S (xs (i + 1)) (xs (i + 2))))), (6, .int (gs_readv S (xs (i + 1)) (xs (i + 2))))]) (st' := []) (w' := w2) rfl ?_
    refine gd_it ((gs_code0 (gs_readc_3 _ _ _)).mpr hc0) ?_
    refine gd_r E K 2 (pc' := 814) (lv' := [(0, .ref 45), (1, .ref 0), (2, .ref 27), (3, .ref 44), (4, .int (nI i)), (5, .int (nI (gs_readc S (xs (i + 1)) (xs (i + 2))))), (6, .int (gs_readv S (xs (i + 1)) (xs (i + 2))))]) (st' := [.int 0, .ref 44]) (w' := w2) rfl ?_
    refine gd_laldv E (K.1 814 (.laload, 0) rfl).1 (j := 0) (by decide) (rfl) (rfl) (by decide) (by decide) (v := (gs_readv S (xs (i + 1)) (xs (i + 2))).toInt64) (by rw [(f2.1 44 (Or.inr rfl)).2]; exact hv1 hc0) ?_
    refine gd_r E K 3 (pc' := 819) (lv' := [(0, .ref 45), (1, .ref 0), (2, .ref 27), (3, .ref 44), (4, .int (nI i)), (5, .int (nI (gs_readc S (xs (i + 1)) (xs (i + 2))))), (6, .int (gs_readv S (xs (i + 1)) (xs (i + 2))))]) (st' := [.int (lg_cmp ((gs_readv S (xs (i + 1)) (xs (i + 2))).toInt64) ((gs_readv S (xs (i + 1)) (xs (i + 2))).toInt64))]) (w' := w2) rfl ?_
    refine gd_r E K 1 (pc' := if (lg_cmp ((gs_readv S (xs (i + 1)) (xs (i + 2))).toInt64) ((gs_readv S (xs (i + 1)) (xs (i + 2))).toInt64)) = 0 then 824 else 822) (lv' := [(0, .ref 45), (1, .ref 0), (2, .ref 27), (3, .ref 44), (4, .int (nI i)), (5, .int (nI (gs_readc S (xs (i + 1)) (xs (i + 2))))), (6, .int (gs_readv S (xs (i + 1)) (xs (i + 2))))]) (st' := []) (w' := w2) rfl ?_
    refine gd_it ((lg_cmp_eq _ _).mpr rfl) ?_
    refine gd_r E K 1 (pc' := 889) (lv' := [(0, .ref 45), (1, .ref 0), (2, .ref 27), (3, .ref 44), (4, .int (nI i)), (5, .int (nI (gs_readc S (xs (i + 1)) (xs (i + 2))))), (6, .int (gs_readv S (xs (i + 1)) (xs (i + 2))))]) (st' := []) (w' := w2) rfl ?_
    refine gd_lvp [0, 1, 2, 3, 4] (lv' := [(0, .ref 45), (1, .ref 0), (2, .ref 27), (3, .ref 44), (4, .int (nI i))]) rfl ?_
    exact nxt w2 _ _ _ hC2 hM2 (hG)
  · refine gd_r E K 1 (pc' := if (nI (gs_readc S (xs (i + 1)) (xs (i + 2)))) = 0 then 812 else 824) (lv' := [(0, .ref 45), (1, .ref 0), (2, .ref 27), (3, .ref 44), (4, .int (nI i)), (5, .int (nI (gs_readc S (xs (i + 1)) (xs (i + 2))))), (6, .int (gs_readv S (xs (i + 1)) (xs (i + 2))))]) (st' := []) (w' := w2) rfl ?_
    refine gd_if (fun h => hc0 ((gs_code0 (gs_readc_3 _ _ _)).mp h)) ?_
    refine gd_r E K 1 (pc' := 889) (lv' := [(0, .ref 45), (1, .ref 0), (2, .ref 27), (3, .ref 44), (4, .int (nI i)), (5, .int (nI (gs_readc S (xs (i + 1)) (xs (i + 2))))), (6, .int (gs_readv S (xs (i + 1)) (xs (i + 2))))]) (st' := []) (w' := w2) rfl ?_
    refine gd_lvp [0, 1, 2, 3, 4] (lv' := [(0, .ref 45), (1, .ref 0), (2, .ref 27), (3, .ref 44), (4, .int (nI i))]) rfl ?_
    exact nxt w2 _ _ _ hC2 hM2 (hG)
set_option maxRecDepth 100000 in
theorem a_case13 {p : Program} {l : Launch} {e : Env} {s : State} {m : MethodId} {below : List Frame} {meth : Method} {c : Code} {D : va_G} {tC : FieldType → ClassId} {ad : Nat → Nat} {b L : Nat} {xs : Nat → Int32} (hls : l.stackTraces = false) (E : gd_E p s m #[Value.ref b] c c_A_law 8 R_A D tC ad (fun q => s.heap.size ≤ q) 45) (X : gd_XF (fun q => s.heap.size ≤ q) s s.heap) (hX : va_X b L xs s s.heap) (hbl : b < s.heap.size) (hab : ad 45 = b) (hA : ∀ q, gd_A ad 45 s.heap.size q → s.heap.size ≤ q) (hL : L ≤ 2048) {cells slots : Nat} (hcs : cells + 1 ≤ 601024 ∧ slots + 6 ≤ 7293034) {i : Nat} (hi : i + 4 ≤ L) {w : gd_W} {S : gs_T} {o G : Nat → Nat} (hC : gr_C w S o) (hM : gr_M w S G) (hG : gs_Good S) (nxt : ∀ w' S' o' G', gr_C w' S' o' → gr_M w' S' G' → gs_Good S' → gd_G p l e room_1 s m #[Value.ref b] below meth c D tC ad (fun q => s.heap.size ≤ q) 45 8 (cells + 1) (slots + 6) (lw_Z below #[Value.ref b] s) 889 [(0, .ref 45), (1, .ref 0), (2, .ref 27), (3, .ref 44), (4, .int (nI i))] [] w') : gd_G p l e room_1 s m #[Value.ref b] below meth c D tC ad (fun q => s.heap.size ≤ q) 45 8 cells slots (lw_Z below #[Value.ref b] s) 827 [(0, .ref 45), (1, .ref 0), (2, .ref 27), (3, .ref 44), (4, .int (nI i))] [] w := by
  have K := k_A_law_13
  have hinj := E.2.2.2.1
  refine gd_wd (k := cells + 1) (j := slots + 6) (Nat.le_succ _) (Nat.le_add_right _ _) ?_
  refine gd_r E K 5 (pc' := 833) (lv' := [(0, .ref 45), (1, .ref 0), (2, .ref 27), (3, .ref 44), (4, .int (nI i))]) (st' := [.int ((nI i) + 1), .ref 45, .ref 0]) (w' := w) rfl ?_
  refine gd_sld E hX hbl hab (j := (i + 1)) (K.1 833 (.iaload, 0) rfl).1 (by rw [show (1 : Int32) = nI 1 from rfl, nI_add]) (by omega) hL ?_
  refine gd_cVp E hA (av := [.int (xs (i + 1))]) (rest := []) (c3_Gunits hinj w hC hG.2.2.2.2.2.2.1 (xs (i + 1))) (K.1 834 (.invokevirtual 107, 0) rfl).1 ml_A_107 cv_G_units (by decide) (rfl) ⟨Nat.le_of_ble_eq_true rfl, Nat.le_of_ble_eq_true rfl⟩ hcs rfl (Nat.le_of_ble_eq_true rfl) (fun r9 w1 h9 => ?_)
  obtain ⟨rfl, ⟨o1, hC1⟩, g1⟩ := h9
  have hM1 := g1.M hM
  refine gd_r E K 5 (pc' := 843) (lv' := [(0, .ref 45), (1, .ref 0), (2, .ref 27), (3, .ref 44), (4, .int (nI i))]) (st' := [.int ((nI i) + 1), .ref 45, .ref 27, .int (gs_unitv S (xs (i + 1)))]) (w' := w1) rfl ?_
  refine gd_sld E hX hbl hab (j := (i + 1)) (K.1 843 (.iaload, 0) rfl).1 (by rw [show (1 : Int32) = nI 1 from rfl, nI_add]) (by omega) hL ?_
  refine gd_cVp E hA (av := [.int (xs (i + 1))]) (rest := [.int (gs_unitv S (xs (i + 1)))]) (c2_Munits hinj w1 hM1 (xs (i + 1))) (K.1 844 (.invokevirtual 110, 0) rfl).1 ml_A_110 cv_M_units (by decide) (rfl) ⟨Nat.le_of_ble_eq_true rfl, Nat.le_of_ble_eq_true rfl⟩ hcs rfl (Nat.le_of_ble_eq_true rfl) (fun r9 w2 h9 => ?_)
  obtain ⟨rfl, -, ⟨G2, hM2⟩, f2⟩ := h9
  have hC2 := hC1.m f2
  refine gd_r E K 1 (pc' := if (gs_unitv S (xs (i + 1))) = (gs_unitv S (xs (i + 1))) then 889 else 850) (lv' := [(0, .ref 45), (1, .ref 0), (2, .ref 27), (3, .ref 44), (4, .int (nI i))]) (st' := []) (w' := w2) rfl ?_
  refine gd_it (rfl) ?_
  exact nxt w2 _ _ _ hC2 hM2 (hG)
set_option maxRecDepth 100000 in
theorem a_case14 {p : Program} {l : Launch} {e : Env} {s : State} {m : MethodId} {below : List Frame} {meth : Method} {c : Code} {D : va_G} {tC : FieldType → ClassId} {ad : Nat → Nat} {b L : Nat} {xs : Nat → Int32} (hls : l.stackTraces = false) (E : gd_E p s m #[Value.ref b] c c_A_law 8 R_A D tC ad (fun q => s.heap.size ≤ q) 45) (X : gd_XF (fun q => s.heap.size ≤ q) s s.heap) (hX : va_X b L xs s s.heap) (hbl : b < s.heap.size) (hab : ad 45 = b) (hA : ∀ q, gd_A ad 45 s.heap.size q → s.heap.size ≤ q) (hL : L ≤ 2048) {cells slots : Nat} (hcs : cells + 1 ≤ 601024 ∧ slots + 6 ≤ 7293034) {i : Nat} (hi : i + 4 ≤ L) {w : gd_W} {S : gs_T} {o G : Nat → Nat} (hC : gr_C w S o) (hM : gr_M w S G) (hG : gs_Good S) (nxt : ∀ w' S' o' G', gr_C w' S' o' → gr_M w' S' G' → gs_Good S' → gd_G p l e room_1 s m #[Value.ref b] below meth c D tC ad (fun q => s.heap.size ≤ q) 45 8 (cells + 1) (slots + 6) (lw_Z below #[Value.ref b] s) 889 [(0, .ref 45), (1, .ref 0), (2, .ref 27), (3, .ref 44), (4, .int (nI i))] [] w') : gd_G p l e room_1 s m #[Value.ref b] below meth c D tC ad (fun q => s.heap.size ≤ q) 45 8 cells slots (lw_Z below #[Value.ref b] s) 852 [(0, .ref 45), (1, .ref 0), (2, .ref 27), (3, .ref 44), (4, .int (nI i))] [] w := by
  have K := k_A_law_14
  have hinj := E.2.2.2.1
  refine gd_wd (k := cells + 1) (j := slots + 6) (Nat.le_succ _) (Nat.le_add_right _ _) ?_
  refine gd_r E K 5 (pc' := 858) (lv' := [(0, .ref 45), (1, .ref 0), (2, .ref 27), (3, .ref 44), (4, .int (nI i))]) (st' := [.int ((nI i) + 1), .ref 45, .ref 0]) (w' := w) rfl ?_
  refine gd_sld E hX hbl hab (j := (i + 1)) (K.1 858 (.iaload, 0) rfl).1 (by rw [show (1 : Int32) = nI 1 from rfl, nI_add]) (by omega) hL ?_
  refine gd_r E K 4 (pc' := 864) (lv' := [(0, .ref 45), (1, .ref 0), (2, .ref 27), (3, .ref 44), (4, .int (nI i))]) (st' := [.int ((nI i) + 2), .ref 45, .int (xs (i + 1)), .ref 0]) (w' := w) rfl ?_
  refine gd_sld E hX hbl hab (j := (i + 2)) (K.1 864 (.iaload, 0) rfl).1 (by rw [show (2 : Int32) = nI 2 from rfl, nI_add]) (by omega) hL ?_
  refine gd_cVp E hA (av := [.int (xs (i + 1)), .int (xs (i + 2))]) (rest := []) (c3_Gkind hinj w hC (xs (i + 1)) (xs (i + 2))) (K.1 865 (.invokevirtual 111, 0) rfl).1 ml_A_111 cv_G_kind (by decide) (rfl) ⟨Nat.le_of_ble_eq_true rfl, Nat.le_of_ble_eq_true rfl⟩ hcs rfl (Nat.le_of_ble_eq_true rfl) (fun r9 w1 h9 => ?_)
  obtain ⟨rfl, ⟨o1, hC1⟩, g1⟩ := h9
  have hM1 := g1.M hM
  refine gd_r E K 5 (pc' := 874) (lv' := [(0, .ref 45), (1, .ref 0), (2, .ref 27), (3, .ref 44), (4, .int (nI i))]) (st' := [.int ((nI i) + 1), .ref 45, .ref 27, .int (gs_kindv S (xs (i + 1)) (xs (i + 2)))]) (w' := w1) rfl ?_
  refine gd_sld E hX hbl hab (j := (i + 1)) (K.1 874 (.iaload, 0) rfl).1 (by rw [show (1 : Int32) = nI 1 from rfl, nI_add]) (by omega) hL ?_
  refine gd_r E K 4 (pc' := 880) (lv' := [(0, .ref 45), (1, .ref 0), (2, .ref 27), (3, .ref 44), (4, .int (nI i))]) (st' := [.int ((nI i) + 2), .ref 45, .int (xs (i + 1)), .ref 27, .int (gs_kindv S (xs (i + 1)) (xs (i + 2)))]) (w' := w1) rfl ?_
  refine gd_sld E hX hbl hab (j := (i + 2)) (K.1 880 (.iaload, 0) rfl).1 (by rw [show (2 : Int32) = nI 2 from rfl, nI_add]) (by omega) hL ?_
  refine gd_cVp E hA (av := [.int (xs (i + 1)), .int (xs (i + 2))]) (rest := [.int (gs_kindv S (xs (i + 1)) (xs (i + 2)))]) (c2_Mkind hinj w1 hM1 (xs (i + 1)) (xs (i + 2))) (K.1 881 (.invokevirtual 114, 0) rfl).1 ml_A_114 cv_M_kind (by decide) (rfl) ⟨Nat.le_of_ble_eq_true rfl, Nat.le_of_ble_eq_true rfl⟩ hcs rfl (Nat.le_of_ble_eq_true rfl) (fun r9 w2 h9 => ?_)
  obtain ⟨rfl, -, ⟨G2, hM2⟩, f2⟩ := h9
  have hC2 := hC1.m f2
  refine gd_r E K 1 (pc' := if (gs_kindv S (xs (i + 1)) (xs (i + 2))) = (gs_kindv S (xs (i + 1)) (xs (i + 2))) then 889 else 887) (lv' := [(0, .ref 45), (1, .ref 0), (2, .ref 27), (3, .ref 44), (4, .int (nI i))]) (st' := []) (w' := w2) rfl ?_
  refine gd_it (rfl) ?_
  exact nxt w2 _ _ _ hC2 hM2 (hG)
