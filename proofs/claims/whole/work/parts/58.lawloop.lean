set_option maxRecDepth 100000 in
theorem a_loop {p : Program} {l : Launch} {e : Env} {s : State} {m : MethodId} {below : List Frame} {meth : Method} {c : Code} {D : va_G} {tC : FieldType → ClassId} {ad : Nat → Nat} {b L : Nat} {xs : Nat → Int32} (hls : l.stackTraces = false) (E : gd_E p s m #[Value.ref b] c c_A_law 8 R_A D tC ad (fun q => s.heap.size ≤ q) 45) (X : gd_XF (fun q => s.heap.size ≤ q) s s.heap) (hX : va_X b L xs s s.heap) (hbl : b < s.heap.size) (hab : ad 45 = b) (hA : ∀ q, gd_A ad 45 s.heap.size q → s.heap.size ≤ q) (hL : L ≤ 2048) (hr : meth.sig.returnType = ret) (hlk : meth.locks = false) : ∀ (j i : Nat) (cells slots : Nat) (w : gd_W) (S : gs_T) (o G : Nat → Nat), i ≤ 2048 → L < i + 4 * j + 4 → cells + j ≤ 601024 → slots + 6 * j ≤ 7293034 → gr_C w S o → gr_M w S G → gs_Good S → gd_G p l e room_1 s m #[Value.ref b] below meth c D tC ad (fun q => s.heap.size ≤ q) 45 8 cells slots (lw_Z below #[Value.ref b] s) 23 [(0, .ref 45), (1, .ref 0), (2, .ref 27), (3, .ref 44), (4, .int (nI i))] [] w := by
  have K := k_A_law_h
  intro j
  induction j with
  | zero =>
    intro i cells slots w S o G hi hj hc1 hc2 hC hM hG
    refine gd_r E K 2 (pc' := 26) (lv' := [(0, .ref 45), (1, .ref 0), (2, .ref 27), (3, .ref 44), (4, .int (nI i))]) (st' := [.ref 45, .int (nI i)]) (w' := w) rfl ?_
    refine gd_slen E hX hbl hab (K.1 26 (.arraylength, 0) rfl).1 ?_
    refine gd_r E K 2 (pc' := 29) (lv' := [(0, .ref 45), (1, .ref 0), (2, .ref 27), (3, .ref 44), (4, .int (nI i))]) (st' := [.int ((nI L) - 4), .int (nI i)]) (w' := w) rfl ?_
    refine gd_r E K 1 (pc' := if ((nI L) - 4) < (nI i) then 895 else 32) (lv' := [(0, .ref 45), (1, .ref 0), (2, .ref 27), (3, .ref 44), (4, .int (nI i))]) (st' := []) (w' := w) rfl ?_
    refine gd_it ((gs_len4 hL (by omega)).mpr (by omega)) ?_
    refine gd_r E K 1 (pc' := 896) (lv' := [(0, .ref 45), (1, .ref 0), (2, .ref 27), (3, .ref 44), (4, .int (nI i))]) (st' := [.int 1]) (w' := w) rfl ?_
    exact gd_true E hr hlk (K.1 896 (.ireturn, 0) rfl).1 (by omega) (by omega)
  | succ j ih =>
    intro i cells slots w S o G hi hj hc1 hc2 hC hM hG
    refine gd_r E K 2 (pc' := 26) (lv' := [(0, .ref 45), (1, .ref 0), (2, .ref 27), (3, .ref 44), (4, .int (nI i))]) (st' := [.ref 45, .int (nI i)]) (w' := w) rfl ?_
    refine gd_slen E hX hbl hab (K.1 26 (.arraylength, 0) rfl).1 ?_
    refine gd_r E K 2 (pc' := 29) (lv' := [(0, .ref 45), (1, .ref 0), (2, .ref 27), (3, .ref 44), (4, .int (nI i))]) (st' := [.int ((nI L) - 4), .int (nI i)]) (w' := w) rfl ?_
    by_cases hend : L < i + 4
    · refine gd_r E K 1 (pc' := if ((nI L) - 4) < (nI i) then 895 else 32) (lv' := [(0, .ref 45), (1, .ref 0), (2, .ref 27), (3, .ref 44), (4, .int (nI i))]) (st' := []) (w' := w) rfl ?_
      refine gd_it ((gs_len4 hL (by omega)).mpr (by omega)) ?_
      refine gd_r E K 1 (pc' := 896) (lv' := [(0, .ref 45), (1, .ref 0), (2, .ref 27), (3, .ref 44), (4, .int (nI i))]) (st' := [.int 1]) (w' := w) rfl ?_
      exact gd_true E hr hlk (K.1 896 (.ireturn, 0) rfl).1 (by omega) (by omega)
    · refine gd_r E K 1 (pc' := if ((nI L) - 4) < (nI i) then 895 else 32) (lv' := [(0, .ref 45), (1, .ref 0), (2, .ref 27), (3, .ref 44), (4, .int (nI i))]) (st' := []) (w' := w) rfl ?_
      refine gd_if (fun h => hend ((gs_len4 hL (by omega)).mp h)) ?_
      refine gd_r E K 2 (pc' := 35) (lv' := [(0, .ref 45), (1, .ref 0), (2, .ref 27), (3, .ref 44), (4, .int (nI i))]) (st' := [.int (nI i), .ref 45]) (w' := w) rfl ?_
      refine gd_sld E hX hbl hab (j := i) (K.1 35 (.iaload, 0) rfl).1 (rfl) (by omega) hL ?_
      refine gd_r E K 2 (pc' := 39) (lv' := [(0, .ref 45), (1, .ref 0), (2, .ref 27), (3, .ref 44), (4, .int (nI i))]) (st' := [.int ((xs i) &&& 15)]) (w' := w) rfl ?_
      obtain ⟨t, ht, hte⟩ := gs_and15 (xs i)
      have nxt : ∀ w' S' o' G', gr_C w' S' o' → gr_M w' S' G' → gs_Good S' → gd_G p l e room_1 s m #[Value.ref b] below meth c D tC ad (fun q => s.heap.size ≤ q) 45 8 (cells + 1) (slots + 6) (lw_Z below #[Value.ref b] s) 889 [(0, .ref 45), (1, .ref 0), (2, .ref 27), (3, .ref 44), (4, .int (nI i))] [] w' := by
        intro w' S' o' G' hC' hM' hG'
        refine gd_r E K 2 (pc' := 23) (lv' := [(0, .ref 45), (1, .ref 0), (2, .ref 27), (3, .ref 44), (4, .int ((nI i) + 4))]) (st' := []) (w' := w') rfl ?_
        exact gd_cg (ih (i + 4) (cells + 1) (slots + 6) w' S' o' G' (by omega) (by omega) (by omega) (by omega) hC' hM' hG') (by rw [show (4 : Int32) = nI 4 from rfl, nI_add]) rfl rfl
      have hcs : cells + 1 ≤ 601024 ∧ slots + 6 ≤ 7293034 := ⟨by omega, by omega⟩
      have hi4 : i + 4 ≤ L := by omega
      rw [hte]
      rcases (by omega : t = 0 ∨ t = 1 ∨ t = 2 ∨ t = 3 ∨ t = 4 ∨ t = 5 ∨ t = 6 ∨ t = 7 ∨ t = 8 ∨ t = 9 ∨ t = 10 ∨ t = 11 ∨ t = 12 ∨ t = 13 ∨ t = 14 ∨ t = 15) with rfl | rfl | rfl | rfl | rfl | rfl | rfl | rfl | rfl | rfl | rfl | rfl | rfl | rfl | rfl | rfl
      · exact gd_tabIn E dsw_A_law (tgt := 112) (by decide) (by decide) (off := 73) rfl rfl (a_case0 hls E X hX hbl hab hA hL hcs hi4 hC hM hG nxt)
      · exact gd_tabIn E dsw_A_law (tgt := 161) (by decide) (by decide) (off := 122) rfl rfl (a_case1 hls E X hX hbl hab hA hL hcs hi4 hC hM hG nxt)
      · exact gd_tabIn E dsw_A_law (tgt := 217) (by decide) (by decide) (off := 178) rfl rfl (a_case2 hls E X hX hbl hab hA hL hcs hi4 hC hM hG nxt)
      · exact gd_tabIn E dsw_A_law (tgt := 297) (by decide) (by decide) (off := 258) rfl rfl (a_case3 hls E X hX hbl hab hA hL hcs hi4 hC hM hG nxt)
      · exact gd_tabIn E dsw_A_law (tgt := 365) (by decide) (by decide) (off := 326) rfl rfl (a_case4 hls E X hX hbl hab hA hL hcs hi4 hC hM hG nxt)
      · exact gd_tabIn E dsw_A_law (tgt := 449) (by decide) (by decide) (off := 410) rfl rfl (a_case5 hls E X hX hbl hab hA hL hcs hi4 hC hM hG nxt)
      · exact gd_tabIn E dsw_A_law (tgt := 505) (by decide) (by decide) (off := 466) rfl rfl (a_case6 hls E X hX hbl hab hA hL hcs hi4 hC hM hG nxt)
      · exact gd_tabIn E dsw_A_law (tgt := 561) (by decide) (by decide) (off := 522) rfl rfl (a_case7 hls E X hX hbl hab hA hL hcs hi4 hC hM hG nxt)
      · exact gd_tabIn E dsw_A_law (tgt := 574) (by decide) (by decide) (off := 535) rfl rfl (a_case8 hls E X hX hbl hab hA hL hcs hi4 hC hM hG nxt)
      · exact gd_tabIn E dsw_A_law (tgt := 587) (by decide) (by decide) (off := 548) rfl rfl (a_case9 hls E X hX hbl hab hA hL hcs hi4 hC hM hG nxt)
      · exact gd_tabIn E dsw_A_law (tgt := 655) (by decide) (by decide) (off := 616) rfl rfl (a_case10 hls E X hX hbl hab hA hL hcs hi4 hC hM hG nxt)
      · exact gd_tabIn E dsw_A_law (tgt := 692) (by decide) (by decide) (off := 653) rfl rfl (a_case11 hls E X hX hbl hab hA hL hcs hi4 hC hM hG nxt)
      · exact gd_tabIn E dsw_A_law (tgt := 759) (by decide) (by decide) (off := 720) rfl rfl (a_case12 hls E X hX hbl hab hA hL hcs hi4 hC hM hG nxt)
      · exact gd_tabIn E dsw_A_law (tgt := 827) (by decide) (by decide) (off := 788) rfl rfl (a_case13 hls E X hX hbl hab hA hL hcs hi4 hC hM hG nxt)
      · exact gd_tabIn E dsw_A_law (tgt := 852) (by decide) (by decide) (off := 813) rfl rfl (a_case14 hls E X hX hbl hab hA hL hcs hi4 hC hM hG nxt)
      · exact gd_tabOut E dsw_A_law (tgt := 889) (Or.inr (by decide)) rfl (gd_wd (Nat.le_succ _) (Nat.le_add_right _ _) (nxt w S o G hC hM hG))
