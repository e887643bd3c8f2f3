theorem gs_fst_step {f : Nat → Bool} {n k : Nat} (h : f n = false) : gs_fst f n (k + 1) = gs_fst f (n + 1) k := by rw [gs_fst, h]; rfl
theorem gs_fst_hit {f : Nat → Bool} {n k : Nat} (h : f n = true) : gs_fst f n (k + 1) = some n := by rw [gs_fst, h]; rfl
theorem gs_pr_neg {n : Nat} (hn : n < 2 ^ 31) : gs_pr n < 0 ↔ n = 0 := by
  cases n with
  | zero => exact ⟨fun _ => rfl, fun _ => by decide⟩
  | succ k => exact ⟨fun h => absurd h (nI_pos (by omega)), fun h => by omega⟩
set_option maxHeartbeats 1000000 in
set_option maxRecDepth 100000 in
theorem c3_search {l : Launch} {D : va_G} {tC : FieldType → ClassId} {ad : Nat → Nat} (hinj : ∀ i j, ad i = ad j → i = j) (w : gd_W) (P : Nat → Nat → Prop) (hP : gc_tk w P) (R : Nat → Nat → Bool) (Dd : Nat → Prop) (dd : Int64) (hdd : ∀ c, c < 64 → (gm_bit dd c = true ↔ Dd c)) (fr go f : Nat) (hfr : fr < 64) (hgo : go < 64) (hf : f ≤ 61) (hR0 : ∀ c, c < 64 → R 0 c = decide (c = fr)) (hRS : ∀ n, n < 60 → ∀ c, c < 64 → (R (n + 1) c = true ↔ (∃ m b, m < 5 ∧ gm_mv c m = some b ∧ R n b = true) ∧ ¬ Dd c ∧ ¬ gc_sh P c (n + 1))) : gd_Cp l D tC ad 45 3 65 y_F_search c_F_search 9 (some .int) [.ref 22, .int (nI fr), .int (nI go), .long dd, .int (nI f)] w (fun r w' => gc_f 24 w w' ∧ r = some (.int (gm_nO (gs_fst (fun t => decide (f ≤ t) && R t go) 0 61))) ∧ ∀ t, gs_fst (fun t => decide (f ≤ t) && R t go) 0 61 = some t → ∀ s1, s1 ≤ t → ∀ c, c < 64 → gm_bit (w'.2.1 24 s1) c = R s1 c) := by
  refine gd_Cp_of rfl hinj (Nat.le_of_ble_eq_true rfl) ?_
  intro p e s m args below meth c E hr hlk
  have K := k_F_search
  have hA : ∀ q, gd_A ad 45 s.heap.size q → gd_A ad 45 s.heap.size q := fun _ h => h
  have loop : ∀ j t w1, t + j = 61 → gc_f 24 w w1 → (∀ s1, s1 < max t 1 → ∀ c, c < 64 → gm_bit (w1.2.1 24 s1) c = R s1 c) → gs_fst (fun t => decide (f ≤ t) && R t go) 0 61 = gs_fst (fun t => decide (f ≤ t) && R t go) t j → gd_G p l e (gd_rm 3 65) s m args below meth c D tC ad (gd_A ad 45 s.heap.size) 45 9 0 0 (MQ below (gd_Qp D tC ad 45 s.heap.size (fun r w' => gc_f 24 w w' ∧ r = some (.int (gm_nO (gs_fst (fun t => decide (f ≤ t) && R t go) 0 61))) ∧ ∀ t, gs_fst (fun t => decide (f ≤ t) && R t go) 0 61 = some t → ∀ s1, s1 ≤ t → ∀ c, c < 64 → gm_bit (w'.2.1 24 s1) c = R s1 c)) args s 0 0 (gd_A ad 45 s.heap.size)) 19 [(0, .ref 22), (1, .int (nI fr)), (2, .int (nI go)), (3, .long dd), (5, .int (nI f)), (6, .long (gm_one go)), (8, .int (nI t))] [] w1 := by
    intro j
    induction j with
    | zero =>
      intro t w1 ht hw hb he
      refine gd_r E K 2 (pc' := 23) (lv' := [(0, .ref 22), (1, .int (nI fr)), (2, .int (nI go)), (3, .long dd), (5, .int (nI f)), (6, .long (gm_one go)), (8, .int (nI t))]) (st' := [.int 60, .int (nI t)]) (w' := w1) rfl ?_
      refine gd_r E K 1 (pc' := if 60 < (nI t) then 98 else 26) (lv' := [(0, .ref 22), (1, .int (nI fr)), (2, .int (nI go)), (3, .long dd), (5, .int (nI f)), (6, .long (gm_one go)), (8, .int (nI t))]) (st' := []) (w' := w1) rfl ?_
      refine gd_it (nI_lt (show 60 < t by omega) (by omega)) ?_
      refine gd_r E K 1 (pc' := 99) (lv' := [(0, .ref 22), (1, .int (nI fr)), (2, .int (nI go)), (3, .long dd), (5, .int (nI f)), (6, .long (gm_one go)), (8, .int (nI t))]) (st' := [.int (-1)]) (w' := w1) rfl ?_
      have hnone : gs_fst (fun t => decide (f ≤ t) && R t go) 0 61 = none := by rw [he]; rfl
      exact gd_iretp E hr hlk (K.1 99 (.ireturn, 0) rfl).1 (⟨hw, by rw [hnone]; rfl, fun t h => by rw [hnone] at h; cases h⟩)
    | succ j ih =>
      intro t w1 ht hw hb he
      refine gd_r E K 2 (pc' := 23) (lv' := [(0, .ref 22), (1, .int (nI fr)), (2, .int (nI go)), (3, .long dd), (5, .int (nI f)), (6, .long (gm_one go)), (8, .int (nI t))]) (st' := [.int 60, .int (nI t)]) (w' := w1) rfl ?_
      refine gd_r E K 1 (pc' := if 60 < (nI t) then 98 else 26) (lv' := [(0, .ref 22), (1, .int (nI fr)), (2, .int (nI go)), (3, .long dd), (5, .int (nI f)), (6, .long (gm_one go)), (8, .int (nI t))]) (st' := []) (w' := w1) rfl ?_
      refine gd_if (nI_nlt (show t ≤ 60 by omega) (by decide)) ?_
      refine gd_r E K 1 (pc' := 28) (lv' := [(0, .ref 22), (1, .int (nI fr)), (2, .int (nI go)), (3, .long dd), (5, .int (nI f)), (6, .long (gm_one go)), (8, .int (nI t))]) (st' := [.int (nI t)]) (w' := w1) rfl ?_
      have mid : ∀ w2, gc_f 24 w w2 → (∀ s1, s1 < t + 1 → ∀ c, c < 64 → gm_bit (w2.2.1 24 s1) c = R s1 c) → gd_G p l e (gd_rm 3 65) s m args below meth c D tC ad (gd_A ad 45 s.heap.size) 45 9 0 0 (MQ below (gd_Qp D tC ad 45 s.heap.size (fun r w' => gc_f 24 w w' ∧ r = some (.int (gm_nO (gs_fst (fun t => decide (f ≤ t) && R t go) 0 61))) ∧ ∀ t, gs_fst (fun t => decide (f ≤ t) && R t go) 0 61 = some t → ∀ s1, s1 ≤ t → ∀ c, c < 64 → gm_bit (w'.2.1 24 s1) c = R s1 c)) args s 0 0 (gd_A ad 45 s.heap.size)) 67 [(0, .ref 22), (1, .int (nI fr)), (2, .int (nI go)), (3, .long dd), (5, .int (nI f)), (6, .long (gm_one go)), (8, .int (nI t))] [] w2 := by
        intro w2 hw2 hb2
        refine gd_r E K 2 (pc' := 71) (lv' := [(0, .ref 22), (1, .int (nI fr)), (2, .int (nI go)), (3, .long dd), (5, .int (nI f)), (6, .long (gm_one go)), (8, .int (nI t))]) (st' := [.int (nI f), .int (nI t)]) (w' := w2) rfl ?_
        by_cases h1 : t < f
        · refine gd_r E K 1 (pc' := if (nI t) < (nI f) then 92 else 74) (lv' := [(0, .ref 22), (1, .int (nI fr)), (2, .int (nI go)), (3, .long dd), (5, .int (nI f)), (6, .long (gm_one go)), (8, .int (nI t))]) (st' := []) (w' := w2) rfl ?_
          refine gd_it (nI_lt h1 (by omega)) ?_
          have hFt : (fun t => decide (f ≤ t) && R t go) t = false := by show (decide (f ≤ t) && R t go) = false; rw [decide_eq_false (by omega)]; rfl
          refine gd_r E K 2 (pc' := 19) (lv' := [(0, .ref 22), (1, .int (nI fr)), (2, .int (nI go)), (3, .long dd), (5, .int (nI f)), (6, .long (gm_one go)), (8, .int ((nI t) + 1))]) (st' := []) (w' := w2) rfl ?_
          exact gd_cg (ih (t + 1) w2 (by omega) hw2 (fun s1 h1 => hb2 s1 (by omega)) (by rw [he, gs_fst_step hFt])) (by rw [nI_1]) rfl rfl
        · refine gd_r E K 1 (pc' := if (nI t) < (nI f) then 92 else 74) (lv' := [(0, .ref 22), (1, .int (nI fr)), (2, .int (nI go)), (3, .long dd), (5, .int (nI f)), (6, .long (gm_one go)), (8, .int (nI t))]) (st' := []) (w' := w2) rfl ?_
          refine gd_if (nI_nlt (by omega) (by omega)) ?_
          refine gd_r E K 3 (pc' := 80) (lv' := [(0, .ref 22), (1, .int (nI fr)), (2, .int (nI go)), (3, .long dd), (5, .int (nI f)), (6, .long (gm_one go)), (8, .int (nI t))]) (st' := [.int (nI t), .ref 24]) (w' := w2) rfl ?_
          refine gd_laldv E (K.1 80 (.laload, 0) rfl).1 (j := t) (by decide) (rfl) (rfl) (by omega) (by decide) (v := w2.2.1 24 t) (rfl) ?_
          refine gd_r E K 4 (pc' := 86) (lv' := [(0, .ref 22), (1, .int (nI fr)), (2, .int (nI go)), (3, .long dd), (5, .int (nI f)), (6, .long (gm_one go)), (8, .int (nI t))]) (st' := [.int (lg_cmp ((w2.2.1 24 t) &&& (gm_one go)) 0)]) (w' := w2) rfl ?_
          have hbt := hb2 t (by omega) go hgo
          cases hg : R t go with
          | false =>
            refine gd_r E K 1 (pc' := if (lg_cmp ((w2.2.1 24 t) &&& (gm_one go)) 0) = 0 then 92 else 89) (lv' := [(0, .ref 22), (1, .int (nI fr)), (2, .int (nI go)), (3, .long dd), (5, .int (nI f)), (6, .long (gm_one go)), (8, .int (nI t))]) (st' := []) (w' := w2) rfl ?_
            refine gd_it ((lg_cmp_eq _ _).mpr ((gm_and_one hgo).mpr (by rw [hbt]; exact hg))) ?_
            have hFt : (fun t => decide (f ≤ t) && R t go) t = false := by show (decide (f ≤ t) && R t go) = false; rw [hg, Bool.and_false]
            refine gd_r E K 2 (pc' := 19) (lv' := [(0, .ref 22), (1, .int (nI fr)), (2, .int (nI go)), (3, .long dd), (5, .int (nI f)), (6, .long (gm_one go)), (8, .int ((nI t) + 1))]) (st' := []) (w' := w2) rfl ?_
            exact gd_cg (ih (t + 1) w2 (by omega) hw2 (fun s1 h1 => hb2 s1 (by omega)) (by rw [he, gs_fst_step hFt])) (by rw [nI_1]) rfl rfl
          | true =>
            refine gd_r E K 1 (pc' := if (lg_cmp ((w2.2.1 24 t) &&& (gm_one go)) 0) = 0 then 92 else 89) (lv' := [(0, .ref 22), (1, .int (nI fr)), (2, .int (nI go)), (3, .long dd), (5, .int (nI f)), (6, .long (gm_one go)), (8, .int (nI t))]) (st' := []) (w' := w2) rfl ?_
            refine gd_if (fun h => by have := (gm_and_one hgo).mp ((lg_cmp_eq _ _).mp h); rw [hbt, hg] at this; cases this) ?_
            refine gd_r E K 1 (pc' := 91) (lv' := [(0, .ref 22), (1, .int (nI fr)), (2, .int (nI go)), (3, .long dd), (5, .int (nI f)), (6, .long (gm_one go)), (8, .int (nI t))]) (st' := [.int (nI t)]) (w' := w2) rfl ?_
            have hFt : (fun t => decide (f ≤ t) && R t go) t = true := by show (decide (f ≤ t) && R t go) = true; rw [hg, decide_eq_true (by omega)]; rfl
            have hsome : gs_fst (fun t => decide (f ≤ t) && R t go) 0 61 = some t := by rw [he, gs_fst_hit hFt]
            exact gd_iretp E hr hlk (K.1 91 (.ireturn, 0) rfl).1 (⟨hw2, by rw [hsome]; rfl, fun t2 h2 s1 h3 => by rw [hsome] at h2; cases h2; exact hb2 s1 (by omega)⟩)
      by_cases h0 : t = 0
      · refine gd_r E K 1 (pc' := if (nI t) ≤ 0 then 67 else 31) (lv' := [(0, .ref 22), (1, .int (nI fr)), (2, .int (nI go)), (3, .long dd), (5, .int (nI f)), (6, .long (gm_one go)), (8, .int (nI t))]) (st' := []) (w' := w1) rfl ?_
        refine gd_it ((gd_le0 (by omega)).mpr h0) ?_
        exact mid w1 hw (fun s1 h1 => hb s1 (by omega))
      · refine gd_r E K 1 (pc' := if (nI t) ≤ 0 then 67 else 31) (lv' := [(0, .ref 22), (1, .int (nI fr)), (2, .int (nI go)), (3, .long dd), (5, .int (nI f)), (6, .long (gm_one go)), (8, .int (nI t))]) (st' := []) (w' := w1) rfl ?_
        refine gd_if (fun h => h0 ((gd_le0 (by omega)).mp h)) ?_
        refine gd_r E K 8 (pc' := 45) (lv' := [(0, .ref 22), (1, .int (nI fr)), (2, .int (nI go)), (3, .long dd), (5, .int (nI f)), (6, .long (gm_one go)), (8, .int (nI t))]) (st' := [.int ((nI t) - 1), .ref 24, .int (nI t), .ref 24]) (w' := w1) rfl ?_
        refine gd_laldv E (K.1 45 (.laload, 0) rfl).1 (j := t - 1) (by decide) (rfl) (by rw [show (1 : Int32) = nI 1 from rfl, pk_sub (by omega)]) (by omega) (by decide) (v := w1.2.1 24 (t - 1)) (rfl) ?_
        refine gd_cS E hA (av := [.long (w1.2.1 24 (t - 1))]) (rest := [.int (nI t), .ref 24]) (c2_move hinj _ w1) (K.1 46 (.invokestatic 61, 0) rfl).1 ml_F_61 cv_S_oneMoveFrom ⟨Nat.le_of_ble_eq_true rfl, Nat.le_of_ble_eq_true rfl⟩ ⟨Nat.zero_le _, Nat.zero_le _⟩ rfl (Nat.le_of_ble_eq_true rfl) ?_
        refine gd_r E K 6 (pc' := 58) (lv' := [(0, .ref 22), (1, .int (nI fr)), (2, .int (nI go)), (3, .long dd), (5, .int (nI f)), (6, .long (gm_one go)), (8, .int (nI t))]) (st' := [.int (nI t), .ref 22, .long ((gm_ud (w1.2.1 24 (t - 1)) ||| gm_sw (w1.2.1 24 (t - 1))) &&& (dd ^^^ (-1))), .int (nI t), .ref 24]) (w' := w1) rfl ?_
        have hP1 : gc_tk w1 P := fun t1 h1 => by rw [hw.2.2 23 (by decide)]; exact hP t1 h1
        refine gd_cV E hA (av := [.int (nI t)]) (rest := [.long ((gm_ud (w1.2.1 24 (t - 1)) ||| gm_sw (w1.2.1 24 (t - 1))) &&& (dd ^^^ (-1))), .int (nI t), .ref 24]) (c3_shutAt hinj w1 t (by omega)) (K.1 58 (.invokevirtual 58, 0) rfl).1 ml_F_58 cv_F_shutAt (by decide) (rfl) ⟨Nat.le_of_ble_eq_true rfl, Nat.le_of_ble_eq_true rfl⟩ ⟨Nat.zero_le _, Nat.zero_le _⟩ rfl (Nat.le_of_ble_eq_true rfl) ?_
        refine gd_r E K 3 (pc' := 66) (lv' := [(0, .ref 22), (1, .int (nI fr)), (2, .int (nI go)), (3, .long dd), (5, .int (nI f)), (6, .long (gm_one go)), (8, .int (nI t))]) (st' := [.long (((gm_ud (w1.2.1 24 (t - 1)) ||| gm_sw (w1.2.1 24 (t - 1))) &&& (dd ^^^ (-1))) &&& ((gm_ud (gm_sw (gc_un w1 t))) ^^^ (-1))), .int (nI t), .ref 24]) (w' := w1) rfl ?_
        refine gd_last E (K.1 66 (.lastore, 0) rfl).1 (j := t) (by decide) (rfl) (rfl) (by omega) (by decide) ?_
        refine mid _ (hw.trans (gc_f.set _ _ _)) (fun s1 h1 c hc => ?_)
        rw [gd_rL_s]
        by_cases e0 : s1 = t
        · subst e0
          rw [gd_ul_s, gm_bit_and, gm_bit_and, gm_bit_not _ hc, gm_bit_not _ hc]
          have r1 := hRS (s1 - 1) (by omega) c hc
          rw [show s1 - 1 + 1 = s1 by omega] at r1
          have r2 := gm_bit_move (w1.2.1 24 (s1 - 1)) hc
          have r3 := hdd c hc
          have r4 := gc_un_bit hP1 (show s1 ≤ 60 by omega) hc
          have r5 : (∃ m b, m < 5 ∧ gm_mv c m = some b ∧ gm_bit (w1.2.1 24 (s1 - 1)) b = true) ↔ ∃ m b, m < 5 ∧ gm_mv c m = some b ∧ R (s1 - 1) b = true := by
            constructor
            · rintro ⟨m, b, k1, k2, k3⟩; exact ⟨m, b, k1, k2, by rw [← hb (s1 - 1) (by omega) b (gm_mv_lt hc k2)]; exact k3⟩
            · rintro ⟨m, b, k1, k2, k3⟩; exact ⟨m, b, k1, k2, by rw [hb (s1 - 1) (by omega) b (gm_mv_lt hc k2)]; exact k3⟩
          rw [Bool.eq_iff_iff, Bool.and_eq_true, Bool.and_eq_true, Bool.not_eq_true', Bool.not_eq_true', r1, r2, r5, ← r3, ← r4]
          simp only [Bool.not_eq_true, and_assoc]
        · rw [gd_ul_n e0]; exact hb s1 (by omega) c hc
  refine gd_r E K 1 (pc' := 1) (lv' := [(0, .ref 22), (1, .int (nI fr)), (2, .int (nI go)), (3, .long dd), (5, .int (nI f))]) (st' := [.int (nI go)]) (w' := w) rfl ?_
  refine gd_cS E hA (av := [.int (nI go)]) (rest := []) (c2_only hinj (nI go) w) (K.1 1 (.invokestatic 37, 0) rfl).1 ml_F_37 cv_S_only ⟨Nat.le_of_ble_eq_true rfl, Nat.le_of_ble_eq_true rfl⟩ ⟨Nat.zero_le _, Nat.zero_le _⟩ rfl (Nat.le_of_ble_eq_true rfl) ?_
  refine gd_r E K 5 (pc' := 12) (lv' := [(0, .ref 22), (1, .int (nI fr)), (2, .int (nI go)), (3, .long dd), (5, .int (nI f)), (6, .long (gm_one go))]) (st' := [.int (nI fr), .int 0, .ref 24]) (w' := w) rfl ?_
  refine gd_cS E hA (av := [.int (nI fr)]) (rest := [.int 0, .ref 24]) (c2_only hinj (nI fr) w) (K.1 12 (.invokestatic 37, 0) rfl).1 ml_F_37 cv_S_only ⟨Nat.le_of_ble_eq_true rfl, Nat.le_of_ble_eq_true rfl⟩ ⟨Nat.zero_le _, Nat.zero_le _⟩ rfl (Nat.le_of_ble_eq_true rfl) ?_
  refine gd_last E (K.1 15 (.lastore, 0) rfl).1 (j := 0) (by decide) (rfl) (rfl) (by decide) (by decide) ?_
  refine gd_r E K 2 (pc' := 19) (lv' := [(0, .ref 22), (1, .int (nI fr)), (2, .int (nI go)), (3, .long dd), (5, .int (nI f)), (6, .long (gm_one go)), (8, .int 0)]) (st' := []) (w' := gd_rL w 24 (vp_updL (w.2.1 24) 0 (gm_one fr))) rfl ?_
  refine gd_cg (loop 61 0 (gd_rL w 24 (vp_updL (w.2.1 24) 0 (gm_one fr))) (by omega) (gc_f.set _ _ _) (fun s1 h1 c hc => ?_) rfl) rfl rfl rfl
  have hs0 : s1 = 0 := by omega
  subst hs0
  rw [gd_rL_s, gd_ul_s, gm_bit_one hfr hc, hR0 c hc]
set_option maxRecDepth 100000 in
theorem c3_leastMove {l : Launch} {D : va_G} {tC : FieldType → ClassId} {ad : Nat → Nat} (hinj : ∀ i j, ad i = ad j → i = j) (w : gd_W) (x : Nat) (hx : x < 64) (y0 : Int64) (g : Nat → Bool) (hg : ∀ c, c < 64 → gm_bit y0 c = g c) : gd_Ct l D tC ad 45 2 44 y_F_leastMove c_F_leastMove 5 (some .int) [.int (nI x), .long y0] w (some (.int (nI (gs_lm fun m => gs_atO g (gm_mv x m))))) w := by
  refine gd_Ct_of rfl hinj (Nat.le_of_ble_eq_true rfl) ?_
  intro p e s m args below meth c E hr hlk
  have K := k_F_leastMove
  have hA : ∀ q, gd_A ad 45 s.heap.size q → gd_A ad 45 s.heap.size q := fun _ h => h
  have s5 : gs_atO g (gm_mv x 0) = false → gs_atO g (gm_mv x 1) = false → gs_atO g (gm_mv x 2) = false → gs_atO g (gm_mv x 3) = false → gs_atO g (gm_mv x 4) = false → gd_G p l e (gd_rm 2 44) s m args below meth c D tC ad (gd_A ad 45 s.heap.size) 45 5 0 0 (MQ below (gd_Q D tC ad 45 s.heap.size (some (.int (nI (gs_lm fun m => gs_atO g (gm_mv x m))))) w) args s 0 0 (gd_A ad 45 s.heap.size)) 2 [(0, .int (nI x)), (1, .long y0), (3, .int 5)] [] w := by
    intro e0 e1 e2 e3 e4
    refine gd_r E K 4 (pc' := 41) (lv' := [(0, .int (nI x)), (1, .long y0), (3, .int 5)]) (st' := [.int 0]) (w' := w) rfl ?_
    exact gd_iretq E hr hlk (K.1 41 (.ireturn, 0) rfl).1 (by simp [gs_lm, e0, e1, e2, e3, e4]; try rfl) (rfl)
  have s4 : gs_atO g (gm_mv x 0) = false → gs_atO g (gm_mv x 1) = false → gs_atO g (gm_mv x 2) = false → gs_atO g (gm_mv x 3) = false → gd_G p l e (gd_rm 2 44) s m args below meth c D tC ad (gd_A ad 45 s.heap.size) 45 5 0 0 (MQ below (gd_Q D tC ad 45 s.heap.size (some (.int (nI (gs_lm fun m => gs_atO g (gm_mv x m))))) w) args s 0 0 (gd_A ad 45 s.heap.size)) 2 [(0, .int (nI x)), (1, .long y0), (3, .int 4)] [] w := by
    intro e0 e1 e2 e3
    refine gd_r E K 5 (pc' := 9) (lv' := [(0, .int (nI x)), (1, .long y0), (3, .int 4)]) (st' := [.int 4, .int (nI x)]) (w' := w) rfl ?_
    refine gd_cS E hA (av := [.int (nI x), .int 4]) (rest := []) (c2_after hinj x 4 hx (by decide) w) (K.1 9 (.invokestatic 50, 0) rfl).1 ml_F_50 cv_S_after ⟨Nat.le_of_ble_eq_true rfl, Nat.le_of_ble_eq_true rfl⟩ ⟨Nat.zero_le _, Nat.zero_le _⟩ rfl (Nat.le_of_ble_eq_true rfl) ?_
    refine gd_r E K 3 (pc' := 17) (lv' := [(0, .int (nI x)), (1, .long y0), (3, .int 4), (4, .int (gm_nO (gm_mv x 4)))]) (st' := [.int (-1), .int (gm_nO (gm_mv x 4))]) (w' := w) rfl ?_
    cases hm : gm_mv x 4 with
    | none =>
      refine gd_r E K 1 (pc' := if (gm_nO (none)) = (-1) then 34 else 20) (lv' := [(0, .int (nI x)), (1, .long y0), (3, .int 4), (4, .int (gm_nO (none)))]) (st' := []) (w' := w) rfl ?_
      refine gd_it (by rfl) ?_
      refine gd_r E K 2 (pc' := 2) (lv' := [(0, .int (nI x)), (1, .long y0), (3, .int 5), (4, .int (gm_nO (none)))]) (st' := []) (w' := w) rfl ?_
      refine gd_lvp [0, 1, 2] (lv' := [(0, .int (nI x)), (1, .long y0), (3, .int 5)]) rfl ?_
      exact s5 e0 e1 e2 e3 (by rw [hm]; rfl)
    | some b =>
      have hb := gm_mv_lt hx hm
      refine gd_r E K 1 (pc' := if (gm_nO (some b)) = (-1) then 34 else 20) (lv' := [(0, .int (nI x)), (1, .long y0), (3, .int 4), (4, .int (gm_nO (some b)))]) (st' := []) (w' := w) rfl ?_
      refine gd_if (fun h => by have := (gm_nO_m1 (x := some b) (fun a h => by cases h; omega)).mp h; cases this) ?_
      refine gd_r E K 2 (pc' := 23) (lv' := [(0, .int (nI x)), (1, .long y0), (3, .int 4), (4, .int (gm_nO (some b)))]) (st' := [.int (gm_nO (some b)), .long y0]) (w' := w) rfl ?_
      refine gd_cS E hA (av := [.int (gm_nO (some b))]) (rest := [.long y0]) (c2_only hinj (gm_nO (some b)) w) (K.1 23 (.invokestatic 37, 0) rfl).1 ml_F_37 cv_S_only ⟨Nat.le_of_ble_eq_true rfl, Nat.le_of_ble_eq_true rfl⟩ ⟨Nat.zero_le _, Nat.zero_le _⟩ rfl (Nat.le_of_ble_eq_true rfl) ?_
      refine gd_r E K 3 (pc' := 29) (lv' := [(0, .int (nI x)), (1, .long y0), (3, .int 4), (4, .int (gm_nO (some b)))]) (st' := [.int (lg_cmp (y0 &&& (gm_one b)) 0)]) (w' := w) rfl ?_
      cases hgb : g b with
      | false =>
        refine gd_r E K 1 (pc' := if (lg_cmp (y0 &&& (gm_one b)) 0) = 0 then 34 else 32) (lv' := [(0, .int (nI x)), (1, .long y0), (3, .int 4), (4, .int (gm_nO (some b)))]) (st' := []) (w' := w) rfl ?_
        refine gd_it ((lg_cmp_eq _ _).mpr ((gm_and_one hb).mpr (by rw [hg b hb]; exact hgb))) ?_
        refine gd_r E K 2 (pc' := 2) (lv' := [(0, .int (nI x)), (1, .long y0), (3, .int 5), (4, .int (gm_nO (some b)))]) (st' := []) (w' := w) rfl ?_
        refine gd_lvp [0, 1, 2] (lv' := [(0, .int (nI x)), (1, .long y0), (3, .int 5)]) rfl ?_
        exact s5 e0 e1 e2 e3 (by rw [hm]; exact hgb)
      | true =>
        refine gd_r E K 1 (pc' := if (lg_cmp (y0 &&& (gm_one b)) 0) = 0 then 34 else 32) (lv' := [(0, .int (nI x)), (1, .long y0), (3, .int 4), (4, .int (gm_nO (some b)))]) (st' := []) (w' := w) rfl ?_
        refine gd_if (fun h => by have := (gm_and_one hb).mp ((lg_cmp_eq _ _).mp h); rw [hg b hb, hgb] at this; cases this) ?_
        refine gd_r E K 1 (pc' := 33) (lv' := [(0, .int (nI x)), (1, .long y0), (3, .int 4), (4, .int (gm_nO (some b)))]) (st' := [.int 4]) (w' := w) rfl ?_
        have et : gs_atO g (gm_mv x 4) = true := by rw [hm]; exact hgb
        exact gd_iretq E hr hlk (K.1 33 (.ireturn, 0) rfl).1 (by simp [gs_lm, e0, e1, e2, e3, et]; try rfl) (rfl)
  have s3 : gs_atO g (gm_mv x 0) = false → gs_atO g (gm_mv x 1) = false → gs_atO g (gm_mv x 2) = false → gd_G p l e (gd_rm 2 44) s m args below meth c D tC ad (gd_A ad 45 s.heap.size) 45 5 0 0 (MQ below (gd_Q D tC ad 45 s.heap.size (some (.int (nI (gs_lm fun m => gs_atO g (gm_mv x m))))) w) args s 0 0 (gd_A ad 45 s.heap.size)) 2 [(0, .int (nI x)), (1, .long y0), (3, .int 3)] [] w := by
    intro e0 e1 e2
    refine gd_r E K 5 (pc' := 9) (lv' := [(0, .int (nI x)), (1, .long y0), (3, .int 3)]) (st' := [.int 3, .int (nI x)]) (w' := w) rfl ?_
    refine gd_cS E hA (av := [.int (nI x), .int 3]) (rest := []) (c2_after hinj x 3 hx (by decide) w) (K.1 9 (.invokestatic 50, 0) rfl).1 ml_F_50 cv_S_after ⟨Nat.le_of_ble_eq_true rfl, Nat.le_of_ble_eq_true rfl⟩ ⟨Nat.zero_le _, Nat.zero_le _⟩ rfl (Nat.le_of_ble_eq_true rfl) ?_
    refine gd_r E K 3 (pc' := 17) (lv' := [(0, .int (nI x)), (1, .long y0), (3, .int 3), (4, .int (gm_nO (gm_mv x 3)))]) (st' := [.int (-1), .int (gm_nO (gm_mv x 3))]) (w' := w) rfl ?_
    cases hm : gm_mv x 3 with
    | none =>
      refine gd_r E K 1 (pc' := if (gm_nO (none)) = (-1) then 34 else 20) (lv' := [(0, .int (nI x)), (1, .long y0), (3, .int 3), (4, .int (gm_nO (none)))]) (st' := []) (w' := w) rfl ?_
      refine gd_it (by rfl) ?_
      refine gd_r E K 2 (pc' := 2) (lv' := [(0, .int (nI x)), (1, .long y0), (3, .int 4), (4, .int (gm_nO (none)))]) (st' := []) (w' := w) rfl ?_
      refine gd_lvp [0, 1, 2] (lv' := [(0, .int (nI x)), (1, .long y0), (3, .int 4)]) rfl ?_
      exact s4 e0 e1 e2 (by rw [hm]; rfl)
    | some b =>
      have hb := gm_mv_lt hx hm
      refine gd_r E K 1 (pc' := if (gm_nO (some b)) = (-1) then 34 else 20) (lv' := [(0, .int (nI x)), (1, .long y0), (3, .int 3), (4, .int (gm_nO (some b)))]) (st' := []) (w' := w) rfl ?_
      refine gd_if (fun h => by have := (gm_nO_m1 (x := some b) (fun a h => by cases h; omega)).mp h; cases this) ?_
      refine gd_r E K 2 (pc' := 23) (lv' := [(0, .int (nI x)), (1, .long y0), (3, .int 3), (4, .int (gm_nO (some b)))]) (st' := [.int (gm_nO (some b)), .long y0]) (w' := w) rfl ?_
      refine gd_cS E hA (av := [.int (gm_nO (some b))]) (rest := [.long y0]) (c2_only hinj (gm_nO (some b)) w) (K.1 23 (.invokestatic 37, 0) rfl).1 ml_F_37 cv_S_only ⟨Nat.le_of_ble_eq_true rfl, Nat.le_of_ble_eq_true rfl⟩ ⟨Nat.zero_le _, Nat.zero_le _⟩ rfl (Nat.le_of_ble_eq_true rfl) ?_
      refine gd_r E K 3 (pc' := 29) (lv' := [(0, .int (nI x)), (1, .long y0), (3, .int 3), (4, .int (gm_nO (some b)))]) (st' := [.int (lg_cmp (y0 &&& (gm_one b)) 0)]) (w' := w) rfl ?_
      cases hgb : g b with
      | false =>
        refine gd_r E K 1 (pc' := if (lg_cmp (y0 &&& (gm_one b)) 0) = 0 then 34 else 32) (lv' := [(0, .int (nI x)), (1, .long y0), (3, .int 3), (4, .int (gm_nO (some b)))]) (st' := []) (w' := w) rfl ?_
        refine gd_it ((lg_cmp_eq _ _).mpr ((gm_and_one hb).mpr (by rw [hg b hb]; exact hgb))) ?_
        refine gd_r E K 2 (pc' := 2) (lv' := [(0, .int (nI x)), (1, .long y0), (3, .int 4), (4, .int (gm_nO (some b)))]) (st' := []) (w' := w) rfl ?_
        refine gd_lvp [0, 1, 2] (lv' := [(0, .int (nI x)), (1, .long y0), (3, .int 4)]) rfl ?_
        exact s4 e0 e1 e2 (by rw [hm]; exact hgb)
      | true =>
        refine gd_r E K 1 (pc' := if (lg_cmp (y0 &&& (gm_one b)) 0) = 0 then 34 else 32) (lv' := [(0, .int (nI x)), (1, .long y0), (3, .int 3), (4, .int (gm_nO (some b)))]) (st' := []) (w' := w) rfl ?_
        refine gd_if (fun h => by have := (gm_and_one hb).mp ((lg_cmp_eq _ _).mp h); rw [hg b hb, hgb] at this; cases this) ?_
        refine gd_r E K 1 (pc' := 33) (lv' := [(0, .int (nI x)), (1, .long y0), (3, .int 3), (4, .int (gm_nO (some b)))]) (st' := [.int 3]) (w' := w) rfl ?_
        have et : gs_atO g (gm_mv x 3) = true := by rw [hm]; exact hgb
        exact gd_iretq E hr hlk (K.1 33 (.ireturn, 0) rfl).1 (by simp [gs_lm, e0, e1, e2, et]; try rfl) (rfl)
  have s2 : gs_atO g (gm_mv x 0) = false → gs_atO g (gm_mv x 1) = false → gd_G p l e (gd_rm 2 44) s m args below meth c D tC ad (gd_A ad 45 s.heap.size) 45 5 0 0 (MQ below (gd_Q D tC ad 45 s.heap.size (some (.int (nI (gs_lm fun m => gs_atO g (gm_mv x m))))) w) args s 0 0 (gd_A ad 45 s.heap.size)) 2 [(0, .int (nI x)), (1, .long y0), (3, .int 2)] [] w := by
    intro e0 e1
    refine gd_r E K 5 (pc' := 9) (lv' := [(0, .int (nI x)), (1, .long y0), (3, .int 2)]) (st' := [.int 2, .int (nI x)]) (w' := w) rfl ?_
    refine gd_cS E hA (av := [.int (nI x), .int 2]) (rest := []) (c2_after hinj x 2 hx (by decide) w) (K.1 9 (.invokestatic 50, 0) rfl).1 ml_F_50 cv_S_after ⟨Nat.le_of_ble_eq_true rfl, Nat.le_of_ble_eq_true rfl⟩ ⟨Nat.zero_le _, Nat.zero_le _⟩ rfl (Nat.le_of_ble_eq_true rfl) ?_
    refine gd_r E K 3 (pc' := 17) (lv' := [(0, .int (nI x)), (1, .long y0), (3, .int 2), (4, .int (gm_nO (gm_mv x 2)))]) (st' := [.int (-1), .int (gm_nO (gm_mv x 2))]) (w' := w) rfl ?_
    cases hm : gm_mv x 2 with
    | none =>
      refine gd_r E K 1 (pc' := if (gm_nO (none)) = (-1) then 34 else 20) (lv' := [(0, .int (nI x)), (1, .long y0), (3, .int 2), (4, .int (gm_nO (none)))]) (st' := []) (w' := w) rfl ?_
      refine gd_it (by rfl) ?_
      refine gd_r E K 2 (pc' := 2) (lv' := [(0, .int (nI x)), (1, .long y0), (3, .int 3), (4, .int (gm_nO (none)))]) (st' := []) (w' := w) rfl ?_
      refine gd_lvp [0, 1, 2] (lv' := [(0, .int (nI x)), (1, .long y0), (3, .int 3)]) rfl ?_
      exact s3 e0 e1 (by rw [hm]; rfl)
    | some b =>
      have hb := gm_mv_lt hx hm
      refine gd_r E K 1 (pc' := if (gm_nO (some b)) = (-1) then 34 else 20) (lv' := [(0, .int (nI x)), (1, .long y0), (3, .int 2), (4, .int (gm_nO (some b)))]) (st' := []) (w' := w) rfl ?_
      refine gd_if (fun h => by have := (gm_nO_m1 (x := some b) (fun a h => by cases h; omega)).mp h; cases this) ?_
      refine gd_r E K 2 (pc' := 23) (lv' := [(0, .int (nI x)), (1, .long y0), (3, .int 2), (4, .int (gm_nO (some b)))]) (st' := [.int (gm_nO (some b)), .long y0]) (w' := w) rfl ?_
      refine gd_cS E hA (av := [.int (gm_nO (some b))]) (rest := [.long y0]) (c2_only hinj (gm_nO (some b)) w) (K.1 23 (.invokestatic 37, 0) rfl).1 ml_F_37 cv_S_only ⟨Nat.le_of_ble_eq_true rfl, Nat.le_of_ble_eq_true rfl⟩ ⟨Nat.zero_le _, Nat.zero_le _⟩ rfl (Nat.le_of_ble_eq_true rfl) ?_
      refine gd_r E K 3 (pc' := 29) (lv' := [(0, .int (nI x)), (1, .long y0), (3, .int 2), (4, .int (gm_nO (some b)))]) (st' := [.int (lg_cmp (y0 &&& (gm_one b)) 0)]) (w' := w) rfl ?_
      cases hgb : g b with
      | false =>
        refine gd_r E K 1 (pc' := if (lg_cmp (y0 &&& (gm_one b)) 0) = 0 then 34 else 32) (lv' := [(0, .int (nI x)), (1, .long y0), (3, .int 2), (4, .int (gm_nO (some b)))]) (st' := []) (w' := w) rfl ?_
        refine gd_it ((lg_cmp_eq _ _).mpr ((gm_and_one hb).mpr (by rw [hg b hb]; exact hgb))) ?_
        refine gd_r E K 2 (pc' := 2) (lv' := [(0, .int (nI x)), (1, .long y0), (3, .int 3), (4, .int (gm_nO (some b)))]) (st' := []) (w' := w) rfl ?_
        refine gd_lvp [0, 1, 2] (lv' := [(0, .int (nI x)), (1, .long y0), (3, .int 3)]) rfl ?_
        exact s3 e0 e1 (by rw [hm]; exact hgb)
      | true =>
        refine gd_r E K 1 (pc' := if (lg_cmp (y0 &&& (gm_one b)) 0) = 0 then 34 else 32) (lv' := [(0, .int (nI x)), (1, .long y0), (3, .int 2), (4, .int (gm_nO (some b)))]) (st' := []) (w' := w) rfl ?_
        refine gd_if (fun h => by have := (gm_and_one hb).mp ((lg_cmp_eq _ _).mp h); rw [hg b hb, hgb] at this; cases this) ?_
        refine gd_r E K 1 (pc' := 33) (lv' := [(0, .int (nI x)), (1, .long y0), (3, .int 2), (4, .int (gm_nO (some b)))]) (st' := [.int 2]) (w' := w) rfl ?_
        have et : gs_atO g (gm_mv x 2) = true := by rw [hm]; exact hgb
        exact gd_iretq E hr hlk (K.1 33 (.ireturn, 0) rfl).1 (by simp [gs_lm, e0, e1, et]; try rfl) (rfl)
  have s1 : gs_atO g (gm_mv x 0) = false → gd_G p l e (gd_rm 2 44) s m args below meth c D tC ad (gd_A ad 45 s.heap.size) 45 5 0 0 (MQ below (gd_Q D tC ad 45 s.heap.size (some (.int (nI (gs_lm fun m => gs_atO g (gm_mv x m))))) w) args s 0 0 (gd_A ad 45 s.heap.size)) 2 [(0, .int (nI x)), (1, .long y0), (3, .int 1)] [] w := by
    intro e0
    refine gd_r E K 5 (pc' := 9) (lv' := [(0, .int (nI x)), (1, .long y0), (3, .int 1)]) (st' := [.int 1, .int (nI x)]) (w' := w) rfl ?_
    refine gd_cS E hA (av := [.int (nI x), .int 1]) (rest := []) (c2_after hinj x 1 hx (by decide) w) (K.1 9 (.invokestatic 50, 0) rfl).1 ml_F_50 cv_S_after ⟨Nat.le_of_ble_eq_true rfl, Nat.le_of_ble_eq_true rfl⟩ ⟨Nat.zero_le _, Nat.zero_le _⟩ rfl (Nat.le_of_ble_eq_true rfl) ?_
    refine gd_r E K 3 (pc' := 17) (lv' := [(0, .int (nI x)), (1, .long y0), (3, .int 1), (4, .int (gm_nO (gm_mv x 1)))]) (st' := [.int (-1), .int (gm_nO (gm_mv x 1))]) (w' := w) rfl ?_
    cases hm : gm_mv x 1 with
    | none =>
      refine gd_r E K 1 (pc' := if (gm_nO (none)) = (-1) then 34 else 20) (lv' := [(0, .int (nI x)), (1, .long y0), (3, .int 1), (4, .int (gm_nO (none)))]) (st' := []) (w' := w) rfl ?_
      refine gd_it (by rfl) ?_
      refine gd_r E K 2 (pc' := 2) (lv' := [(0, .int (nI x)), (1, .long y0), (3, .int 2), (4, .int (gm_nO (none)))]) (st' := []) (w' := w) rfl ?_
      refine gd_lvp [0, 1, 2] (lv' := [(0, .int (nI x)), (1, .long y0), (3, .int 2)]) rfl ?_
      exact s2 e0 (by rw [hm]; rfl)
    | some b =>
      have hb := gm_mv_lt hx hm
      refine gd_r E K 1 (pc' := if (gm_nO (some b)) = (-1) then 34 else 20) (lv' := [(0, .int (nI x)), (1, .long y0), (3, .int 1), (4, .int (gm_nO (some b)))]) (st' := []) (w' := w) rfl ?_
      refine gd_if (fun h => by have := (gm_nO_m1 (x := some b) (fun a h => by cases h; omega)).mp h; cases this) ?_
      refine gd_r E K 2 (pc' := 23) (lv' := [(0, .int (nI x)), (1, .long y0), (3, .int 1), (4, .int (gm_nO (some b)))]) (st' := [.int (gm_nO (some b)), .long y0]) (w' := w) rfl ?_
      refine gd_cS E hA (av := [.int (gm_nO (some b))]) (rest := [.long y0]) (c2_only hinj (gm_nO (some b)) w) (K.1 23 (.invokestatic 37, 0) rfl).1 ml_F_37 cv_S_only ⟨Nat.le_of_ble_eq_true rfl, Nat.le_of_ble_eq_true rfl⟩ ⟨Nat.zero_le _, Nat.zero_le _⟩ rfl (Nat.le_of_ble_eq_true rfl) ?_
      refine gd_r E K 3 (pc' := 29) (lv' := [(0, .int (nI x)), (1, .long y0), (3, .int 1), (4, .int (gm_nO (some b)))]) (st' := [.int (lg_cmp (y0 &&& (gm_one b)) 0)]) (w' := w) rfl ?_
      cases hgb : g b with
      | false =>
        refine gd_r E K 1 (pc' := if (lg_cmp (y0 &&& (gm_one b)) 0) = 0 then 34 else 32) (lv' := [(0, .int (nI x)), (1, .long y0), (3, .int 1), (4, .int (gm_nO (some b)))]) (st' := []) (w' := w) rfl ?_
        refine gd_it ((lg_cmp_eq _ _).mpr ((gm_and_one hb).mpr (by rw [hg b hb]; exact hgb))) ?_
        refine gd_r E K 2 (pc' := 2) (lv' := [(0, .int (nI x)), (1, .long y0), (3, .int 2), (4, .int (gm_nO (some b)))]) (st' := []) (w' := w) rfl ?_
        refine gd_lvp [0, 1, 2] (lv' := [(0, .int (nI x)), (1, .long y0), (3, .int 2)]) rfl ?_
        exact s2 e0 (by rw [hm]; exact hgb)
      | true =>
        refine gd_r E K 1 (pc' := if (lg_cmp (y0 &&& (gm_one b)) 0) = 0 then 34 else 32) (lv' := [(0, .int (nI x)), (1, .long y0), (3, .int 1), (4, .int (gm_nO (some b)))]) (st' := []) (w' := w) rfl ?_
        refine gd_if (fun h => by have := (gm_and_one hb).mp ((lg_cmp_eq _ _).mp h); rw [hg b hb, hgb] at this; cases this) ?_
        refine gd_r E K 1 (pc' := 33) (lv' := [(0, .int (nI x)), (1, .long y0), (3, .int 1), (4, .int (gm_nO (some b)))]) (st' := [.int 1]) (w' := w) rfl ?_
        have et : gs_atO g (gm_mv x 1) = true := by rw [hm]; exact hgb
        exact gd_iretq E hr hlk (K.1 33 (.ireturn, 0) rfl).1 (by simp [gs_lm, e0, et]; try rfl) (rfl)
  have s0 : gd_G p l e (gd_rm 2 44) s m args below meth c D tC ad (gd_A ad 45 s.heap.size) 45 5 0 0 (MQ below (gd_Q D tC ad 45 s.heap.size (some (.int (nI (gs_lm fun m => gs_atO g (gm_mv x m))))) w) args s 0 0 (gd_A ad 45 s.heap.size)) 2 [(0, .int (nI x)), (1, .long y0), (3, .int 0)] [] w := by
    refine gd_r E K 5 (pc' := 9) (lv' := [(0, .int (nI x)), (1, .long y0), (3, .int 0)]) (st' := [.int 0, .int (nI x)]) (w' := w) rfl ?_
    refine gd_cS E hA (av := [.int (nI x), .int 0]) (rest := []) (c2_after hinj x 0 hx (by decide) w) (K.1 9 (.invokestatic 50, 0) rfl).1 ml_F_50 cv_S_after ⟨Nat.le_of_ble_eq_true rfl, Nat.le_of_ble_eq_true rfl⟩ ⟨Nat.zero_le _, Nat.zero_le _⟩ rfl (Nat.le_of_ble_eq_true rfl) ?_
    refine gd_r E K 3 (pc' := 17) (lv' := [(0, .int (nI x)), (1, .long y0), (3, .int 0), (4, .int (gm_nO (gm_mv x 0)))]) (st' := [.int (-1), .int (gm_nO (gm_mv x 0))]) (w' := w) rfl ?_
    cases hm : gm_mv x 0 with
    | none =>
      refine gd_r E K 1 (pc' := if (gm_nO (none)) = (-1) then 34 else 20) (lv' := [(0, .int (nI x)), (1, .long y0), (3, .int 0), (4, .int (gm_nO (none)))]) (st' := []) (w' := w) rfl ?_
      refine gd_it (by rfl) ?_
      refine gd_r E K 2 (pc' := 2) (lv' := [(0, .int (nI x)), (1, .long y0), (3, .int 1), (4, .int (gm_nO (none)))]) (st' := []) (w' := w) rfl ?_
      refine gd_lvp [0, 1, 2] (lv' := [(0, .int (nI x)), (1, .long y0), (3, .int 1)]) rfl ?_
      exact s1 (by rw [hm]; rfl)
    | some b =>
      have hb := gm_mv_lt hx hm
      refine gd_r E K 1 (pc' := if (gm_nO (some b)) = (-1) then 34 else 20) (lv' := [(0, .int (nI x)), (1, .long y0), (3, .int 0), (4, .int (gm_nO (some b)))]) (st' := []) (w' := w) rfl ?_
      refine gd_if (fun h => by have := (gm_nO_m1 (x := some b) (fun a h => by cases h; omega)).mp h; cases this) ?_
      refine gd_r E K 2 (pc' := 23) (lv' := [(0, .int (nI x)), (1, .long y0), (3, .int 0), (4, .int (gm_nO (some b)))]) (st' := [.int (gm_nO (some b)), .long y0]) (w' := w) rfl ?_
      refine gd_cS E hA (av := [.int (gm_nO (some b))]) (rest := [.long y0]) (c2_only hinj (gm_nO (some b)) w) (K.1 23 (.invokestatic 37, 0) rfl).1 ml_F_37 cv_S_only ⟨Nat.le_of_ble_eq_true rfl, Nat.le_of_ble_eq_true rfl⟩ ⟨Nat.zero_le _, Nat.zero_le _⟩ rfl (Nat.le_of_ble_eq_true rfl) ?_
      refine gd_r E K 3 (pc' := 29) (lv' := [(0, .int (nI x)), (1, .long y0), (3, .int 0), (4, .int (gm_nO (some b)))]) (st' := [.int (lg_cmp (y0 &&& (gm_one b)) 0)]) (w' := w) rfl ?_
      cases hgb : g b with
      | false =>
        refine gd_r E K 1 (pc' := if (lg_cmp (y0 &&& (gm_one b)) 0) = 0 then 34 else 32) (lv' := [(0, .int (nI x)), (1, .long y0), (3, .int 0), (4, .int (gm_nO (some b)))]) (st' := []) (w' := w) rfl ?_
        refine gd_it ((lg_cmp_eq _ _).mpr ((gm_and_one hb).mpr (by rw [hg b hb]; exact hgb))) ?_
        refine gd_r E K 2 (pc' := 2) (lv' := [(0, .int (nI x)), (1, .long y0), (3, .int 1), (4, .int (gm_nO (some b)))]) (st' := []) (w' := w) rfl ?_
        refine gd_lvp [0, 1, 2] (lv' := [(0, .int (nI x)), (1, .long y0), (3, .int 1)]) rfl ?_
        exact s1 (by rw [hm]; exact hgb)
      | true =>
        refine gd_r E K 1 (pc' := if (lg_cmp (y0 &&& (gm_one b)) 0) = 0 then 34 else 32) (lv' := [(0, .int (nI x)), (1, .long y0), (3, .int 0), (4, .int (gm_nO (some b)))]) (st' := []) (w' := w) rfl ?_
        refine gd_if (fun h => by have := (gm_and_one hb).mp ((lg_cmp_eq _ _).mp h); rw [hg b hb, hgb] at this; cases this) ?_
        refine gd_r E K 1 (pc' := 33) (lv' := [(0, .int (nI x)), (1, .long y0), (3, .int 0), (4, .int (gm_nO (some b)))]) (st' := [.int 0]) (w' := w) rfl ?_
        have et : gs_atO g (gm_mv x 0) = true := by rw [hm]; exact hgb
        exact gd_iretq E hr hlk (K.1 33 (.ireturn, 0) rfl).1 (by simp [gs_lm, et]; try rfl) (rfl)
  refine gd_r E K 2 (pc' := 2) (lv' := [(0, .int (nI x)), (1, .long y0), (3, .int 0)]) (st' := []) (w' := w) rfl ?_
  exact s0
set_option maxHeartbeats 1000000 in
set_option maxRecDepth 100000 in
theorem c3_trace {l : Launch} {D : va_G} {tC : FieldType → ClassId} {ad : Nat → Nat} (hinj : ∀ i j, ad i = ad j → i = j) {S : gs_T} {T : Nat → Nat → Option Nat} {cnt : Nat} {jn : Bool} (w : gd_W) (q : Nat) (hq : q < 6) (fr go en : Nat) (hfr : fr < 64) (hgo : go < 64) (hway : gs_way S T cnt fr go jn = some en) (hpl : w.1 (4 + 3 * q) 3 = nI fr) (hb : ∀ s1, s1 ≤ en → ∀ c, c < 64 → gm_bit (w.2.1 24 s1) c = gs_rch S T cnt fr s1 c) : gd_Cp l D tC ad 45 3 68 y_F_trace c_F_trace 7 none [.ref 22, .ref (4 + 3 * q), .int (nI go), .int (nI en)] w (fun r w' => r = none ∧ w'.2.2 = w.2.2 ∧ (∀ a, a ≠ 24 → w'.2.1 a = w.2.1 a) ∧ (∀ a, a ≠ 4 + 3 * q → a ≠ 5 + 3 * q → w'.1 a = w.1 a) ∧ w'.1 (4 + 3 * q) = upd (upd (w.1 (4 + 3 * q)) 6 (nI en)) 7 0 ∧ ∀ i, i < en → w'.1 (5 + 3 * q) i = nI (gs_rtm (gs_led (gs_rch S T cnt fr) go en) en fr i)) := by
  refine gd_Cp_of rfl hinj (Nat.le_of_ble_eq_true rfl) ?_
  intro p e s m args below meth c E hr hlk
  have K := k_F_trace
  have hA : ∀ q, gd_A ad 45 s.heap.size q → gd_A ad 45 s.heap.size q := fun _ h => h
  have hen := gs_way_le hway
  have loop2 : ∀ w1, gc_f 24 w w1 → (∀ s1, s1 ≤ en → ∀ c, c < 64 → gm_bit (w1.2.1 24 s1) c = gs_led (gs_rch S T cnt fr) go en (en - s1) c) → ∀ j t w2, t + j = en → (w2.2 = w1.2 ∧ (∀ a, a ≠ 5 + 3 * q → w2.1 a = w1.1 a) ∧ ∀ i, i < t → w2.1 (5 + 3 * q) i = nI (gs_rtm (gs_led (gs_rch S T cnt fr) go en) en fr i)) → gd_G p l e (gd_rm 3 68) s m args below meth c D tC ad (gd_A ad 45 s.heap.size) 45 7 0 0 (MQ below (gd_Qp D tC ad 45 s.heap.size (fun r w' => r = none ∧ w'.2.2 = w.2.2 ∧ (∀ a, a ≠ 24 → w'.2.1 a = w.2.1 a) ∧ (∀ a, a ≠ 4 + 3 * q → a ≠ 5 + 3 * q → w'.1 a = w.1 a) ∧ w'.1 (4 + 3 * q) = upd (upd (w.1 (4 + 3 * q)) 6 (nI en)) 7 0 ∧ ∀ i, i < en → w'.1 (5 + 3 * q) i = nI (gs_rtm (gs_led (gs_rch S T cnt fr) go en) en fr i))) args s 0 0 (gd_A ad 45 s.heap.size)) 57 [(0, .ref 22), (1, .ref (4 + 3 * q)), (2, .int (nI go)), (3, .int (nI en)), (4, .int (nI (gs_rtc (gs_led (gs_rch S T cnt fr) go en) en fr t))), (5, .int (nI t))] [] w2 := by
    intro w1 hw1 hb1 j
    induction j with
    | zero =>
        intro t w2 ht hI
        refine gd_r E K 2 (pc' := 60) (lv' := [(0, .ref 22), (1, .ref (4 + 3 * q)), (2, .int (nI go)), (3, .int (nI en)), (4, .int (nI (gs_rtc (gs_led (gs_rch S T cnt fr) go en) en fr t))), (5, .int (nI t))]) (st' := [.int (nI en), .int (nI t)]) (w' := w2) rfl ?_
        refine gd_r E K 1 (pc' := if (nI en) ≤ (nI t) then 103 else 63) (lv' := [(0, .ref 22), (1, .ref (4 + 3 * q)), (2, .int (nI go)), (3, .int (nI en)), (4, .int (nI (gs_rtc (gs_led (gs_rch S T cnt fr) go en) en fr t))), (5, .int (nI t))]) (st' := []) (w' := w2) rfl ?_
        refine gd_it (nI_le (by omega) (by omega)) ?_
        refine gd_r E K 2 (pc' := 105) (lv' := [(0, .ref 22), (1, .ref (4 + 3 * q)), (2, .int (nI go)), (3, .int (nI en)), (4, .int (nI (gs_rtc (gs_led (gs_rch S T cnt fr) go en) en fr t))), (5, .int (nI t))]) (st' := [.int (nI en), .ref (4 + 3 * q)]) (w' := w2) rfl ?_
        refine gd_cVp E hA (av := [.int (nI en)]) (rest := []) (c3_takeRoute hinj w2 q hq (nI en)) (K.1 105 (.invokevirtual 70, 0) rfl).1 ml_F_70 cv_D_takeRoute (by omega) (gd_shd hq) ⟨Nat.le_of_ble_eq_true rfl, Nat.le_of_ble_eq_true rfl⟩ ⟨Nat.zero_le _, Nat.zero_le _⟩ rfl (Nat.le_of_ble_eq_true rfl) (fun r9 w3 h9 => ?_)
        obtain ⟨rfl, rfl⟩ := h9
        exact gd_vretp E hr hlk (K.1 108 (.return_, 0) rfl).1 (⟨rfl, by show w2.2.2 = _; rw [hI.1, hw1.2.1], fun a ha => by show w2.2.1 a = _; rw [hI.1]; exact hw1.2.2 a ha, fun a a1 a2 => by rw [gd_rI_n a1, hI.2.1 a a2, hw1.1], by rw [gd_rI_s, hI.2.1 _ (by omega), hw1.1], fun i hi => by rw [gd_rI_n (by omega)]; exact hI.2.2 i (by omega)⟩)
    | succ j ih =>
        intro t w2 ht hI
        refine gd_r E K 2 (pc' := 60) (lv' := [(0, .ref 22), (1, .ref (4 + 3 * q)), (2, .int (nI go)), (3, .int (nI en)), (4, .int (nI (gs_rtc (gs_led (gs_rch S T cnt fr) go en) en fr t))), (5, .int (nI t))]) (st' := [.int (nI en), .int (nI t)]) (w' := w2) rfl ?_
        refine gd_r E K 1 (pc' := if (nI en) ≤ (nI t) then 103 else 63) (lv' := [(0, .ref 22), (1, .ref (4 + 3 * q)), (2, .int (nI go)), (3, .int (nI en)), (4, .int (nI (gs_rtc (gs_led (gs_rch S T cnt fr) go en) en fr t))), (5, .int (nI t))]) (st' := []) (w' := w2) rfl ?_
        refine gd_if (nI_ge (by omega) (by omega)) ?_
        refine gd_r E K 6 (pc' := 73) (lv' := [(0, .ref 22), (1, .ref (4 + 3 * q)), (2, .int (nI go)), (3, .int (nI en)), (4, .int (nI (gs_rtc (gs_led (gs_rch S T cnt fr) go en) en fr t))), (5, .int (nI t))]) (st' := [.int ((nI t) + 1), .ref 24, .int (nI (gs_rtc (gs_led (gs_rch S T cnt fr) go en) en fr t))]) (w' := w2) rfl ?_
        obtain ⟨c1, c2⟩ := gs_rtc_ok hfr hgo hway t (by omega)
        obtain ⟨m1, m2⟩ := gs_rtc_mv hfr hgo hway (show t < en by omega)
        have m5 := gs_lm_spec m1
        refine gd_laldv E (K.1 73 (.laload, 0) rfl).1 (j := t + 1) (by decide) (rfl) (by rw [nI_1]) (by omega) (by decide) (v := w1.2.1 24 (t + 1)) (by rw [hI.1]) ?_
        refine gd_cS E hA (av := [.int (nI (gs_rtc (gs_led (gs_rch S T cnt fr) go en) en fr t)), .long (w1.2.1 24 (t + 1))]) (rest := []) (c3_leastMove hinj w2 _ c1 (w1.2.1 24 (t + 1)) (gs_led (gs_rch S T cnt fr) go en (en - (t + 1))) (fun c hc => hb1 (t + 1) (by omega) c hc)) (K.1 74 (.invokestatic 66, 0) rfl).1 ml_F_66 cv_F_leastMove ⟨Nat.le_of_ble_eq_true rfl, Nat.le_of_ble_eq_true rfl⟩ ⟨Nat.zero_le _, Nat.zero_le _⟩ rfl (Nat.le_of_ble_eq_true rfl) ?_
        refine gd_r E K 2 (pc' := 80) (lv' := [(0, .ref 22), (1, .ref (4 + 3 * q)), (2, .int (nI go)), (3, .int (nI en)), (4, .int (nI (gs_rtc (gs_led (gs_rch S T cnt fr) go en) en fr t))), (5, .int (nI t)), (6, .int (nI (gs_rtm (gs_led (gs_rch S T cnt fr) go en) en fr t)))]) (st' := [.ref (4 + 3 * q)]) (w' := w2) rfl ?_
        refine gd_getd E K (K.1 80 (.getfield 43, 0) rfl).1 rfl (by omega) (gd_shd hq) rfl (v := .ref (5 + 3 * q)) (gd_avd0 _ hq) ?_
        refine gd_r E K 2 (pc' := 87) (lv' := [(0, .ref 22), (1, .ref (4 + 3 * q)), (2, .int (nI go)), (3, .int (nI en)), (4, .int (nI (gs_rtc (gs_led (gs_rch S T cnt fr) go en) en fr t))), (5, .int (nI t)), (6, .int (nI (gs_rtm (gs_led (gs_rch S T cnt fr) go en) en fr t)))]) (st' := [.int (nI (gs_rtm (gs_led (gs_rch S T cnt fr) go en) en fr t)), .int (nI t), .ref (5 + 3 * q)]) (w' := w2) rfl ?_
        refine gd_iast E (K.1 87 (.iastore, 0) rfl).1 (j := t) (by omega) (gd_shd0 hq) (rfl) (by omega) (by decide) ?_
        refine gd_r E K 2 (pc' := 92) (lv' := [(0, .ref 22), (1, .ref (4 + 3 * q)), (2, .int (nI go)), (3, .int (nI en)), (4, .int (nI (gs_rtc (gs_led (gs_rch S T cnt fr) go en) en fr t))), (5, .int (nI t)), (6, .int (nI (gs_rtm (gs_led (gs_rch S T cnt fr) go en) en fr t)))]) (st' := [.int (nI (gs_rtm (gs_led (gs_rch S T cnt fr) go en) en fr t)), .int (nI (gs_rtc (gs_led (gs_rch S T cnt fr) go en) en fr t))]) (w' := gd_rI w2 (5 + 3 * q) (upd (w2.1 (5 + 3 * q)) t (nI (gs_rtm (gs_led (gs_rch S T cnt fr) go en) en fr t)))) rfl ?_
        refine gd_cS E hA (av := [.int (nI (gs_rtc (gs_led (gs_rch S T cnt fr) go en) en fr t)), .int (nI (gs_rtm (gs_led (gs_rch S T cnt fr) go en) en fr t))]) (rest := []) (c2_after hinj _ (gs_rtm (gs_led (gs_rch S T cnt fr) go en) en fr t) c1 m5.1 _) (K.1 92 (.invokestatic 50, 0) rfl).1 ml_F_50 cv_S_after ⟨Nat.le_of_ble_eq_true rfl, Nat.le_of_ble_eq_true rfl⟩ ⟨Nat.zero_le _, Nat.zero_le _⟩ rfl (Nat.le_of_ble_eq_true rfl) ?_
        refine gd_r E K 3 (pc' := 57) (lv' := [(0, .ref 22), (1, .ref (4 + 3 * q)), (2, .int (nI go)), (3, .int (nI en)), (4, .int (gm_nO (gm_mv (gs_rtc (gs_led (gs_rch S T cnt fr) go en) en fr t) (gs_rtm (gs_led (gs_rch S T cnt fr) go en) en fr t)))), (5, .int ((nI t) + 1)), (6, .int (nI (gs_rtm (gs_led (gs_rch S T cnt fr) go en) en fr t)))]) (st' := []) (w' := gd_rI w2 (5 + 3 * q) (upd (w2.1 (5 + 3 * q)) t (nI (gs_rtm (gs_led (gs_rch S T cnt fr) go en) en fr t)))) rfl ?_
        refine gd_lvp [0, 1, 2, 3, 4, 5] (lv' := [(0, .ref 22), (1, .ref (4 + 3 * q)), (2, .int (nI go)), (3, .int (nI en)), (4, .int (gm_nO (gm_mv (gs_rtc (gs_led (gs_rch S T cnt fr) go en) en fr t) (gs_rtm (gs_led (gs_rch S T cnt fr) go en) en fr t)))), (5, .int ((nI t) + 1))]) rfl ?_
        refine gd_cg (ih (t + 1) (gd_rI w2 (5 + 3 * q) (upd (w2.1 (5 + 3 * q)) t (nI (gs_rtm (gs_led (gs_rch S T cnt fr) go en) en fr t)))) (by omega) ⟨hI.1, fun a ha => by rw [gd_rI_n ha]; exact hI.2.1 a ha, fun i hi => ?_⟩) (by rw [m2, nI_1]; rfl) rfl rfl
        rw [gd_rI_s]
        by_cases e0 : i = t
        · subst e0; rw [gd_u_s]
        · rw [gd_u_n e0]; exact hI.2.2 i (by omega)
  have loop1 : ∀ n w1, n ≤ en → gc_f 24 w w1 → (∀ s1, n ≤ s1 → s1 ≤ en → ∀ c, c < 64 → gm_bit (w1.2.1 24 s1) c = gs_led (gs_rch S T cnt fr) go en (en - s1) c) → (∀ s1, s1 < n → ∀ c, c < 64 → gm_bit (w1.2.1 24 s1) c = gs_rch S T cnt fr s1 c) → gd_G p l e (gd_rm 3 68) s m args below meth c D tC ad (gd_A ad 45 s.heap.size) 45 7 0 0 (MQ below (gd_Qp D tC ad 45 s.heap.size (fun r w' => r = none ∧ w'.2.2 = w.2.2 ∧ (∀ a, a ≠ 24 → w'.2.1 a = w.2.1 a) ∧ (∀ a, a ≠ 4 + 3 * q → a ≠ 5 + 3 * q → w'.1 a = w.1 a) ∧ w'.1 (4 + 3 * q) = upd (upd (w.1 (4 + 3 * q)) 6 (nI en)) 7 0 ∧ ∀ i, i < en → w'.1 (5 + 3 * q) i = nI (gs_rtm (gs_led (gs_rch S T cnt fr) go en) en fr i))) args s 0 0 (gd_A ad 45 s.heap.size)) 15 [(0, .ref 22), (1, .ref (4 + 3 * q)), (2, .int (nI go)), (3, .int (nI en)), (4, .int (gs_pr n))] [] w1 := by
    intro n
    induction n with
    | zero =>
        intro w1 hn hw1 g1 g2
        refine gd_r E K 1 (pc' := 17) (lv' := [(0, .ref 22), (1, .ref (4 + 3 * q)), (2, .int (nI go)), (3, .int (nI en)), (4, .int (gs_pr 0))]) (st' := [.int (gs_pr 0)]) (w' := w1) rfl ?_
        refine gd_r E K 1 (pc' := if (gs_pr 0) < 0 then 48 else 20) (lv' := [(0, .ref 22), (1, .ref (4 + 3 * q)), (2, .int (nI go)), (3, .int (nI en)), (4, .int (gs_pr 0))]) (st' := []) (w' := w1) rfl ?_
        refine gd_it (by decide) ?_
        have hp1 : w1.1 (4 + 3 * q) 3 = nI fr := by rw [hw1.1]; exact hpl
        refine gd_r E K 1 (pc' := 49) (lv' := [(0, .ref 22), (1, .ref (4 + 3 * q)), (2, .int (nI go)), (3, .int (nI en)), (4, .int (gs_pr 0))]) (st' := [.ref (4 + 3 * q)]) (w' := w1) rfl ?_
        refine gd_getd E K (K.1 49 (.getfield 34, 0) rfl).1 rfl (by omega) (gd_shd hq) rfl (v := .int (nI fr)) (by show Value.int _ = Value.int _; rw [hp1]) ?_
        refine gd_r E K 3 (pc' := 57) (lv' := [(0, .ref 22), (1, .ref (4 + 3 * q)), (2, .int (nI go)), (3, .int (nI en)), (4, .int (nI fr)), (5, .int 0)]) (st' := []) (w' := w1) rfl ?_
        exact gd_cg (loop2 w1 hw1 (fun s1 h1 => g1 s1 (Nat.zero_le _) h1) en 0 w1 (by omega) ⟨rfl, fun _ _ => rfl, fun i hi => by omega⟩) rfl rfl rfl
    | succ k ih =>
        intro w1 hn hw1 g1 g2
        refine gd_cg (lv' := [(0, .ref 22), (1, .ref (4 + 3 * q)), (2, .int (nI go)), (3, .int (nI en)), (4, .int (nI k))]) (st' := []) (w' := w1) ?_ (rfl) (rfl) (rfl)
        refine gd_r E K 1 (pc' := 17) (lv' := [(0, .ref 22), (1, .ref (4 + 3 * q)), (2, .int (nI go)), (3, .int (nI en)), (4, .int (nI k))]) (st' := [.int (nI k)]) (w' := w1) rfl ?_
        refine gd_r E K 1 (pc' := if (nI k) < 0 then 48 else 20) (lv' := [(0, .ref 22), (1, .ref (4 + 3 * q)), (2, .int (nI go)), (3, .int (nI en)), (4, .int (nI k))]) (st' := []) (w' := w1) rfl ?_
        refine gd_if (nI_pos (by omega)) ?_
        refine gd_r E K 4 (pc' := 27) (lv' := [(0, .ref 22), (1, .ref (4 + 3 * q)), (2, .int (nI go)), (3, .int (nI en)), (4, .int (nI k))]) (st' := [.int (nI k), .ref 24, .int (nI k), .ref 24]) (w' := w1) rfl ?_
        refine gd_laldv E (K.1 27 (.laload, 0) rfl).1 (j := k) (by decide) (rfl) (rfl) (by omega) (by decide) (v := w1.2.1 24 k) (rfl) ?_
        refine gd_r E K 5 (pc' := 36) (lv' := [(0, .ref 22), (1, .ref (4 + 3 * q)), (2, .int (nI go)), (3, .int (nI en)), (4, .int (nI k))]) (st' := [.int ((nI k) + 1), .ref 24, .long (w1.2.1 24 k), .int (nI k), .ref 24]) (w' := w1) rfl ?_
        refine gd_laldv E (K.1 36 (.laload, 0) rfl).1 (j := k + 1) (by decide) (rfl) (by rw [nI_1]) (by omega) (by decide) (v := w1.2.1 24 (k + 1)) (rfl) ?_
        refine gd_cS E hA (av := [.long (w1.2.1 24 (k + 1))]) (rest := [.long (w1.2.1 24 k), .int (nI k), .ref 24]) (c2_move hinj _ w1) (K.1 37 (.invokestatic 61, 0) rfl).1 ml_F_61 cv_S_oneMoveFrom ⟨Nat.le_of_ble_eq_true rfl, Nat.le_of_ble_eq_true rfl⟩ ⟨Nat.zero_le _, Nat.zero_le _⟩ rfl (Nat.le_of_ble_eq_true rfl) ?_
        refine gd_r E K 1 (pc' := 41) (lv' := [(0, .ref 22), (1, .ref (4 + 3 * q)), (2, .int (nI go)), (3, .int (nI en)), (4, .int (nI k))]) (st' := [.long ((w1.2.1 24 k) &&& (gm_ud (w1.2.1 24 (k + 1)) ||| gm_sw (w1.2.1 24 (k + 1)))), .int (nI k), .ref 24]) (w' := w1) rfl ?_
        refine gd_last E (K.1 41 (.lastore, 0) rfl).1 (j := k) (by decide) (rfl) (rfl) (by omega) (by decide) ?_
        refine gd_r E K 2 (pc' := 15) (lv' := [(0, .ref 22), (1, .ref (4 + 3 * q)), (2, .int (nI go)), (3, .int (nI en)), (4, .int ((nI k) + (-1)))]) (st' := []) (w' := gd_rL w1 24 (vp_updL (w1.2.1 24) k ((w1.2.1 24 k) &&& (gm_ud (w1.2.1 24 (k + 1)) ||| gm_sw (w1.2.1 24 (k + 1)))))) rfl ?_
        refine gd_cg (ih (gd_rL w1 24 (vp_updL (w1.2.1 24) k ((w1.2.1 24 k) &&& (gm_ud (w1.2.1 24 (k + 1)) ||| gm_sw (w1.2.1 24 (k + 1)))))) (by omega) (hw1.trans (gc_f.set _ _ _)) (fun s1 h1 h2 c hc => ?_) (fun s1 h1 c hc => by rw [gd_rL_s, gd_ul_n (by omega)]; exact g2 s1 (by omega) c hc)) (by rw [gs_pr_add]) rfl rfl
        rw [gd_rL_s]
        by_cases e0 : s1 = k
        · subst e0
          rw [gd_ul_s, gm_bit_and, g2 s1 (by omega) c hc, show en - s1 = (en - (s1 + 1)) + 1 by omega, gs_led, show en - (en - (s1 + 1) + 1) = s1 by omega, Bool.and_comm]
          congr 1
          rw [Bool.eq_iff_iff, gm_bit_move _ hc, gs_any_iff]
          constructor
          · rintro ⟨m, b, k1, k2, k3⟩; exact ⟨m, k1, gs_atO_iff.mpr ⟨b, k2, by rw [← g1 (s1 + 1) (by omega) (by omega) b (gm_mv_lt hc k2)]; exact k3⟩⟩
          · rintro ⟨m, k1, k2⟩
            obtain ⟨b, k3, k4⟩ := gs_atO_iff.mp k2
            exact ⟨m, b, k1, k3, by rw [g1 (s1 + 1) (by omega) (by omega) b (gm_mv_lt hc k3)]; exact k4⟩
        · rw [gd_ul_n e0]; exact g1 s1 (by omega) h2 c hc
  refine gd_r E K 4 (pc' := 6) (lv' := [(0, .ref 22), (1, .ref (4 + 3 * q)), (2, .int (nI go)), (3, .int (nI en))]) (st' := [.int (nI go), .int (nI en), .ref 24]) (w' := w) rfl ?_
  refine gd_cS E hA (av := [.int (nI go)]) (rest := [.int (nI en), .ref 24]) (c2_only hinj (nI go) w) (K.1 6 (.invokestatic 37, 0) rfl).1 ml_F_37 cv_S_only ⟨Nat.le_of_ble_eq_true rfl, Nat.le_of_ble_eq_true rfl⟩ ⟨Nat.zero_le _, Nat.zero_le _⟩ rfl (Nat.le_of_ble_eq_true rfl) ?_
  refine gd_last E (K.1 9 (.lastore, 0) rfl).1 (j := en) (by decide) (rfl) (rfl) (by omega) (by decide) ?_
  refine gd_r E K 4 (pc' := 15) (lv' := [(0, .ref 22), (1, .ref (4 + 3 * q)), (2, .int (nI go)), (3, .int (nI en)), (4, .int ((nI en) - 1))]) (st' := []) (w' := gd_rL w 24 (vp_updL (w.2.1 24) en (gm_one go))) rfl ?_
  refine gd_cg (loop1 en (gd_rL w 24 (vp_updL (w.2.1 24) en (gm_one go))) (Nat.le_refl _) (gc_f.set _ _ _) (fun s1 h1 h2 c hc => ?_) (fun s1 h1 c hc => by rw [gd_rL_s, gd_ul_n (by omega)]; exact hb s1 (by omega) c hc)) (by rw [gs_pr_sub]) rfl rfl
  have hs1 : s1 = en := by omega
  rw [hs1, gd_rL_s, gd_ul_s, gm_bit_one hgo hc, Nat.sub_self, gs_led]
