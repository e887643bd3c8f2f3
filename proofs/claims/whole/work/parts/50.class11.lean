set_option maxRecDepth 100000 in
theorem c3_GmoveAll {l : Launch} {D : va_G} {tC : FieldType → ClassId} {ad : Nat → Nat} (hinj : ∀ i j, ad i = ad j → i = j) {S : gs_T} {o : Nat → Nat} (w : gd_W) (hL : gc_L w S (gs_aw S) (gs_al S) o) (hw : gs_wys S) : gd_Cp l D tC ad 45 3 64 y_G_moveAll c_G_moveAll 2 none [.ref 0] w (fun r w' => r = none ∧ gc_mf w w' ∧ gc_L w' (gs_s1 S) (gs_aw (gs_s1 S)) (gs_al (gs_s1 S)) o ∧ gc_fl w' o (gs_al (gs_s1 S)) (gs_mvd S)) := by
  refine gd_Cp_of rfl hinj (Nat.le_of_ble_eq_true rfl) ?_
  intro p e s m args below meth c E hr hlk
  have K := k_G_moveAll
  have hA : ∀ q, gd_A ad 45 s.heap.size q → gd_A ad 45 s.heap.size q := fun _ h => h
  have hl6 := hL.1.2
  have loop : ∀ j i w1, i + j = (gs_al S).length → gc_mi S o w w1 i → gd_G p l e (gd_rm 3 64) s m args below meth c D tC ad (gd_A ad 45 s.heap.size) 45 2 0 0 (MQ below (gd_Qp D tC ad 45 s.heap.size (fun r w' => r = none ∧ gc_mf w w' ∧ gc_L w' (gs_s1 S) (gs_aw (gs_s1 S)) (gs_al (gs_s1 S)) o ∧ gc_fl w' o (gs_al (gs_s1 S)) (gs_mvd S))) args s 0 0 (gd_A ad 45 s.heap.size)) 2 [(0, .ref 0), (1, .int (nI i))] [] w1 := by
    intro j
    induction j with
    | zero =>
      intro i w1 hi hf
      refine gd_r E K 4 (pc' := 10) (lv' := [(0, .ref 0), (1, .int (nI i))]) (st' := [.int (w1.1 2 1), .int (nI i)]) (w' := w1) rfl ?_
      refine gd_cg (lv' := [(0, .ref 0), (1, .int (nI i))]) (st' := [.int (nI (gs_al S).length), .int (nI i)]) (w' := w1) ?_ (rfl) (by simp only [show w1.1 2 1 = nI (gs_al S).length by rw [hf.1.1 2 (by decide)]; exact hL.1.1]) rfl
      refine gd_r E K 1 (pc' := if (nI (gs_al S).length) ≤ (nI i) then 31 else 13) (lv' := [(0, .ref 0), (1, .int (nI i))]) (st' := []) (w' := w1) rfl ?_
      refine gd_it (nI_le (by omega) (by omega)) ?_
      exact gd_vretp E hr hlk (K.1 31 (.return_, 0) rfl).1 (⟨rfl, hf.1, hf.done hL (by omega)⟩)
    | succ j ih =>
      intro i w1 hi hf
      have hg := List.getElem?_eq_getElem (show i < (gs_al S).length by omega)
      generalize hx : (gs_al S)[i] = x at hg
      obtain ⟨l1, l2, l3, l4, -⟩ := hL.got hg
      obtain ⟨E1, hE1⟩ := (hf.2 i x hg).2 (Nat.le_refl _)
      refine gd_r E K 4 (pc' := 10) (lv' := [(0, .ref 0), (1, .int (nI i))]) (st' := [.int (w1.1 2 1), .int (nI i)]) (w' := w1) rfl ?_
      refine gd_cg (lv' := [(0, .ref 0), (1, .int (nI i))]) (st' := [.int (nI (gs_al S).length), .int (nI i)]) (w' := w1) ?_ (rfl) (by simp only [show w1.1 2 1 = nI (gs_al S).length by rw [hf.1.1 2 (by decide)]; exact hL.1.1]) rfl
      refine gd_r E K 1 (pc' := if (nI (gs_al S).length) ≤ (nI i) then 31 else 13) (lv' := [(0, .ref 0), (1, .int (nI i))]) (st' := []) (w' := w1) rfl ?_
      refine gd_if (nI_ge (by omega) (by omega)) ?_
      refine gd_r E K 4 (pc' := 21) (lv' := [(0, .ref 0), (1, .int (nI i))]) (st' := [.int (nI i), .ref 3]) (w' := w1) rfl ?_
      refine gd_aald E (K.1 21 (.aaload, 0) rfl).1 (j := i) (q := 4 + 3 * (o i)) (by decide) rfl (rfl) (by omega) (by decide) (by rw [hf.1.2]; exact l4) ?_
      refine gd_cVp E hA (av := []) (rest := []) (c3_makeMove hinj w1 (o i) l3 x hE1 (hw x (gs_al_at hg)).1) (K.1 22 (.invokevirtual 226, 0) rfl).1 ml_G_226 cv_D_makeMove (by omega) (gd_shd l3) ⟨Nat.le_of_ble_eq_true rfl, Nat.le_of_ble_eq_true rfl⟩ ⟨Nat.zero_le _, Nat.zero_le _⟩ rfl (Nat.le_of_ble_eq_true rfl) (fun r9 w2 h9 => ?_)
      obtain ⟨rfl, mk⟩ := h9
      refine gd_r E K 2 (pc' := 2) (lv' := [(0, .ref 0), (1, .int ((nI i) + 1))]) (st' := []) (w' := w2) rfl ?_
      exact gd_cg (ih (i + 1) w2 (by omega) (hf.step hL hg hE1 (hw x (gs_al_at hg)).1 mk)) (by rw [nI_1]) rfl rfl
  refine gd_r E K 2 (pc' := 2) (lv' := [(0, .ref 0), (1, .int 0)]) (st' := []) (w' := w) rfl ?_
  exact gd_cg (loop _ 0 w (Nat.zero_add _) (gc_mi.zero hL)) rfl rfl rfl
set_option maxRecDepth 100000 in
theorem c3_GjoinArrived {l : Launch} {D : va_G} {tC : FieldType → ClassId} {ad : Nat → Nat} (hinj : ∀ i j, ad i = ad j → i = j) {S : gs_T} {o : Nat → Nat} {F : Nat → Bool} (w : gd_W) (hC : gr_C w S o) (hG : gs_Go S) (hF : gc_fl w o (gs_al S) F) : gd_Cp l D tC ad 45 3 67 y_G_joinArrived c_G_joinArrived 4 none [.ref 0] w (fun r w' => r = none ∧ ∃ o', gr_C w' (gs_un2 S (gs_made S)) o' ∧ gc_fl w' o' (gs_al (gs_un2 S (gs_made S))) F ∧ gf_c w w') := by
  refine gd_Cp_of rfl hinj (Nat.le_of_ble_eq_true rfl) ?_
  intro p e s m args below meth c E hr hlk
  have K := k_G_joinArrived
  have hA : ∀ q, gd_A ad 45 s.heap.size q → gd_A ad 45 s.heap.size q := fun _ h => h
  have hl6 := hC.1.1.2
  have loop : ∀ i w1, i ≤ (gs_al S).length → gc_ji S F w w1 i → gd_G p l e (gd_rm 3 67) s m args below meth c D tC ad (gd_A ad 45 s.heap.size) 45 4 0 0 (MQ below (gd_Qp D tC ad 45 s.heap.size (fun r w' => r = none ∧ ∃ o', gr_C w' (gs_un2 S (gs_made S)) o' ∧ gc_fl w' o' (gs_al (gs_un2 S (gs_made S))) F ∧ gf_c w w')) args s 0 0 (gd_A ad 45 s.heap.size)) 10 [(0, .ref 0), (1, .int (gs_pr i))] [] w1 := by
    intro i
    induction i with
    | zero =>
      intro w1 hi hf
      refine gd_r E K 1 (pc' := 11) (lv' := [(0, .ref 0), (1, .int (gs_pr 0))]) (st' := [.int (gs_pr 0)]) (w' := w1) rfl ?_
      refine gd_r E K 1 (pc' := if (gs_pr 0) < 0 then 74 else 14) (lv' := [(0, .ref 0), (1, .int (gs_pr 0))]) (st' := []) (w' := w1) rfl ?_
      refine gd_it (by decide) ?_
      exact gd_vretp E hr hlk (K.1 74 (.return_, 0) rfl).1 (⟨rfl, hf.done hG⟩)
    | succ i ih =>
      intro w1 hi hf
      obtain ⟨P, oo, h1, h2, h3, h4, h5, h6⟩ := hf
      have hd := List.getElem?_eq_getElem (show i < (gs_al S).length by omega)
      generalize hx : (gs_al S)[i] = d at hd
      have hdP : (gs_al (gs_unC S P))[i]? = some d := by rw [h4 i (by omega)]; exact hd
      have hB : gs_unB S P d = false := by unfold gs_unB; rw [show P d = false by cases hh : P d with | false => rfl | true => exact absurd ((h3 i d hd).mp hh) (by omega)]; rfl
      obtain ⟨liI, liL⟩ := gs_unC_li hB
      obtain ⟨l1, l2, l3, l4, E1, hE1⟩ := h1.1.got hdP
      have e8 := hE1.2.2.2.2.2.2.1.1
      have hib := hE1.2.2.2.2.2.2.1.2
      have hlb := hE1.2.2.2.2.1.2
      refine gd_cg (lv' := [(0, .ref 0), (1, .int (nI i))]) (st' := []) (w' := w1) ?_ (rfl) (rfl) (rfl)
      refine gd_r E K 1 (pc' := 11) (lv' := [(0, .ref 0), (1, .int (nI i))]) (st' := [.int (nI i)]) (w' := w1) rfl ?_
      refine gd_r E K 1 (pc' := if (nI i) < 0 then 74 else 14) (lv' := [(0, .ref 0), (1, .int (nI i))]) (st' := []) (w' := w1) rfl ?_
      refine gd_if (nI_pos (by omega)) ?_
      refine gd_r E K 4 (pc' := 22) (lv' := [(0, .ref 0), (1, .int (nI i))]) (st' := [.int (nI i), .ref 3]) (w' := w1) rfl ?_
      refine gd_aald E (K.1 22 (.aaload, 0) rfl).1 (j := i) (q := 4 + 3 * (oo i)) (by decide) rfl (rfl) (by omega) (by decide) (l4) ?_
      refine gd_r E K 2 (pc' := 25) (lv' := [(0, .ref 0), (1, .int (nI i)), (2, .ref (4 + 3 * (oo i)))]) (st' := [.ref (4 + 3 * (oo i))]) (w' := w1) rfl ?_
      refine gd_getd E K (K.1 25 (.getfield 142, 0) rfl).1 rfl (by omega) (gd_shd l3) rfl (v := .int (gs_pr (gs_i (gs_unC S P) d))) (by show Value.int _ = Value.int _; rw [e8]) ?_
      refine gd_r E K 1 (pc' := 29) (lv' := [(0, .ref 0), (1, .int (nI i)), (2, .ref (4 + 3 * (oo i)))]) (st' := [.int (-1), .int (gs_pr (gs_i (gs_unC S P) d))]) (w' := w1) rfl ?_
      by_cases hi0 : gs_i (gs_unC S P) d = 0
      · refine gd_r E K 1 (pc' := if (gs_pr (gs_i (gs_unC S P) d)) = (-1) then 68 else 32) (lv' := [(0, .ref 0), (1, .int (nI i)), (2, .ref (4 + 3 * (oo i)))]) (st' := []) (w' := w1) rfl ?_
        refine gd_it ((gs_pr_m1 (by omega)).mpr hi0) ?_
        refine gd_r E K 2 (pc' := 10) (lv' := [(0, .ref 0), (1, .int ((nI i) + (-1))), (2, .ref (4 + 3 * (oo i)))]) (st' := []) (w' := w1) rfl ?_
        refine gd_lvp [0, 1] (lv' := [(0, .ref 0), (1, .int ((nI i) + (-1)))]) rfl ?_
        exact gd_cg (ih w1 (by omega) (gc_ji.skip h1 h2 h3 h4 h5 h6 hd (by rw [← liI, hi0]; rintro ⟨z, -⟩; omega))) (by rw [gs_pr_add]) rfl rfl
      · refine gd_r E K 1 (pc' := if (gs_pr (gs_i (gs_unC S P) d)) = (-1) then 68 else 32) (lv' := [(0, .ref 0), (1, .int (nI i)), (2, .ref (4 + 3 * (oo i)))]) (st' := []) (w' := w1) rfl ?_
        refine gd_if (fun h => hi0 ((gs_pr_m1 (by omega)).mp h)) ?_
        refine gd_r E K 1 (pc' := 33) (lv' := [(0, .ref 0), (1, .int (nI i)), (2, .ref (4 + 3 * (oo i)))]) (st' := [.ref (4 + 3 * (oo i))]) (w' := w1) rfl ?_
        refine gd_cV E hA (av := []) (rest := []) (c3_left hinj w1 (oo i) l3 d hE1) (K.1 33 (.invokevirtual 187, 0) rfl).1 ml_G_187 cv_D_movesLeft (by omega) (gd_shd l3) ⟨Nat.le_of_ble_eq_true rfl, Nat.le_of_ble_eq_true rfl⟩ ⟨Nat.zero_le _, Nat.zero_le _⟩ rfl (Nat.le_of_ble_eq_true rfl) ?_
        by_cases hl0 : gs_l (gs_unC S P) d = 0
        · refine gd_r E K 1 (pc' := if (nI (gs_l (gs_unC S P) d)) = 0 then 39 else 68) (lv' := [(0, .ref 0), (1, .int (nI i)), (2, .ref (4 + 3 * (oo i)))]) (st' := []) (w' := w1) rfl ?_
          refine gd_it (by rw [hl0]; rfl) ?_
          obtain ⟨e, he⟩ : ∃ e, gs_i (gs_unC S P) d = e + 1 := ⟨gs_i (gs_unC S P) d - 1, by omega⟩
          have hdal := gs_al_at hdP
          obtain ⟨z1, z2, z3, z4, z5, z6, z7⟩ := h2.into hdal (by omega)
          rw [show gs_i (gs_unC S P) d - 1 = e by omega] at z1 z2 z3 z4 z6
          have he60 : e < 60 := by have := z1.1; have := h1.2.1.2; omega
          refine gd_r E K 3 (pc' := 44) (lv' := [(0, .ref 0), (1, .int (nI i)), (2, .ref (4 + 3 * (oo i)))]) (st' := [.ref (4 + 3 * (oo i)), .ref 2]) (w' := w1) rfl ?_
          refine gd_getd E K (K.1 44 (.getfield 142, 0) rfl).1 rfl (by omega) (gd_shd l3) rfl (v := .int (gs_pr (gs_i (gs_unC S P) d))) (by show Value.int _ = Value.int _; rw [e8]) ?_
          refine gd_cg (lv' := [(0, .ref 0), (1, .int (nI i)), (2, .ref (4 + 3 * (oo i)))]) (st' := [.int (nI e), .ref 2]) (w' := w1) ?_ (rfl) (by rw [he]; rfl) (rfl)
          refine gd_cVp E hA (av := [.int (nI e)]) (rest := []) (c3_find hinj w1 h1.1 (nI e)) (K.1 47 (.invokevirtual 104, 0) rfl).1 ml_G_104 cv_L_find (by decide) rfl ⟨Nat.le_of_ble_eq_true rfl, Nat.le_of_ble_eq_true rfl⟩ ⟨Nat.zero_le _, Nat.zero_le _⟩ rfl (Nat.le_of_ble_eq_true rfl) (fun r9 w9 h9 => ?_)
          obtain ⟨rfl, ⟨iy, e2, hi2, hd2, rfl⟩ | ⟨hno2, rfl⟩⟩ := h9
          · obtain ⟨hliy, h6iy, hqiy, hriy, Eiy, hEiy⟩ := h1.1.got hi2
            have hal2 := gs_al_at hi2
            have he2 : e = e2 := (nI_eq (by omega) (by have := hEiy.1.2; omega)).mp hd2
            subst he2
            have hxy : i ≠ iy := fun h => by rw [← h, hdP] at hi2; exact z2 (Option.some.inj hi2).symm
            have hoo := h1.1.off l2 h6iy hxy
            refine gd_r E K 5 (pc' := 57) (lv' := [(0, .ref 0), (1, .int (nI i)), (2, .ref (4 + 3 * (oo i))), (3, .ref (4 + 3 * (oo iy)))]) (st' := [.ref (4 + 3 * (oo i)), .ref (4 + 3 * (oo iy))]) (w' := w1) rfl ?_
            refine gd_cVp E hA (av := [.ref (4 + 3 * (oo i))]) (rest := []) (c3_takeIn hinj w1 (oo iy) hqiy (oo i) l3 hoo (gs_p (gs_unC S P) e) (gs_p (gs_unC S P) d) hEiy.2.2.2.1.2 hE1.2.2.2.1.2 (gs_sh (gs_unC S P) e) (gs_sh (gs_unC S P) d) (gs_u (gs_unC S P) e) (gs_u (gs_unC S P) d) hEiy.2.2.2.1.1 hE1.2.2.2.1.1 hEiy.2.2.2.2.2.2.2.2.2 hE1.2.2.2.2.2.2.2.2.2 hEiy.2.2.1.1 hE1.2.2.1.1) (K.1 57 (.invokevirtual 229, 0) rfl).1 ml_G_229 cv_D_takeIn (by omega) (gd_shd hqiy) ⟨Nat.le_of_ble_eq_true rfl, Nat.le_of_ble_eq_true rfl⟩ ⟨Nat.zero_le _, Nat.zero_le _⟩ rfl (Nat.le_of_ble_eq_true rfl) (fun r9 w3 h9 => ?_)
            obtain ⟨rfl, w2, t1, t2⟩ := h9
            rw [z6, z5] at t2
            refine gd_r E K 3 (pc' := 65) (lv' := [(0, .ref 0), (1, .int (nI i)), (2, .ref (4 + 3 * (oo i))), (3, .ref (4 + 3 * (oo iy)))]) (st' := [.ref (4 + 3 * (oo i)), .ref 2]) (w' := w3) rfl ?_
            have hcn : w3.1 2 1 = nI (gs_al (gs_unC S P)).length := by rw [t2, gd_rI_n (by omega), t1.1 2 (by omega)]; exact h1.1.1.1
            have hls3 : ∀ i, i < 6 → w3.2.2 3 i = some (4 + 3 * oo i) ∧ oo i < 6 := fun i hi => by rw [t2]; show w2.2.2 3 i = _ ∧ _; rw [t1.2.2.2.2.1]; exact h1.1.2.1 i hi
            refine gd_cVp E hA (av := [.ref (4 + 3 * (oo i))]) (rest := []) (c3_remove hinj w3 (gs_al (gs_unC S P)).length i oo h1.1.1.2 l1 hcn hls3 h1.1.2.2.1) (K.1 65 (.invokevirtual 171, 0) rfl).1 ml_G_171 cv_L_remove (by decide) (rfl) ⟨Nat.le_of_ble_eq_true rfl, Nat.le_of_ble_eq_true rfl⟩ ⟨Nat.zero_le _, Nat.zero_le _⟩ rfl (Nat.le_of_ble_eq_true rfl) (fun r9 w4 h9 => ?_)
            obtain ⟨rfl, rr⟩ := h9
            refine gd_r E K 2 (pc' := 10) (lv' := [(0, .ref 0), (1, .int ((nI i) + (-1))), (2, .ref (4 + 3 * (oo i))), (3, .ref (4 + 3 * (oo iy)))]) (st' := []) (w' := w4) rfl ?_
            refine gd_lvp [0, 1] (lv' := [(0, .ref 0), (1, .int ((nI i) + (-1)))]) rfl ?_
            exact gd_cg (ih w4 (by omega) (gc_ji.take hG h1 h2 h3 h4 h5 h6 hd (by rw [← liI]; exact he) (by rw [← liL]; exact hl0) he hi2 t1 t2 rr)) (by rw [gs_pr_add]) rfl rfl
          · have hisd2 := gs_isd_no h1.2.1.2 hno2
            exact absurd rfl (hno2 e (gs_al_mem.mpr z1))
        · refine gd_r E K 1 (pc' := if (nI (gs_l (gs_unC S P) d)) = 0 then 39 else 68) (lv' := [(0, .ref 0), (1, .int (nI i)), (2, .ref (4 + 3 * (oo i)))]) (st' := []) (w' := w1) rfl ?_
          refine gd_if (fun h => hl0 (by rw [show (0 : Int32) = nI 0 from rfl, nI_eq (by omega) (by decide)] at h; exact h)) ?_
          refine gd_r E K 2 (pc' := 10) (lv' := [(0, .ref 0), (1, .int ((nI i) + (-1))), (2, .ref (4 + 3 * (oo i)))]) (st' := []) (w' := w1) rfl ?_
          refine gd_lvp [0, 1] (lv' := [(0, .ref 0), (1, .int ((nI i) + (-1)))]) rfl ?_
          exact gd_cg (ih w1 (by omega) (gc_ji.skip h1 h2 h3 h4 h5 h6 hd (by rw [← liL]; rintro ⟨-, z⟩; exact hl0 z))) (by rw [gs_pr_add]) rfl rfl
  refine gd_r E K 5 (pc' := 9) (lv' := [(0, .ref 0)]) (st' := [.int ((w.1 2 1) - 1)]) (w' := w) rfl ?_
  refine gd_cg (lv' := [(0, .ref 0)]) (st' := [.int ((nI (gs_al S).length) - 1)]) (w' := w) ?_ (rfl) (by simp only [hC.1.1.1]) rfl
  refine gd_cg (lv' := [(0, .ref 0)]) (st' := [.int (gs_pr (gs_al S).length)]) (w' := w) ?_ (rfl) (by rw [gs_pr_sub]) (rfl)
  refine gd_r E K 1 (pc' := 10) (lv' := [(0, .ref 0), (1, .int (gs_pr (gs_al S).length))]) (st' := []) (w' := w) rfl ?_
  exact gd_cg (loop _ w (Nat.le_refl _) (gc_ji.start hC hG hF rfl)) rfl rfl rfl
set_option maxRecDepth 100000 in
theorem c3_GreadMoved {l : Launch} {D : va_G} {tC : FieldType → ClassId} {ad : Nat → Nat} (hinj : ∀ i j, ad i = ad j → i = j) {S : gs_T} {o : Nat → Nat} {X : Nat → Nat} {F : Nat → Bool} (w : gd_W) (hC : gr_C w S o) (hF : gc_fl w o (gs_al S) F) (hFX : ∀ d, gs_alive S d → (F d = true ↔ 63 < X d)) (N : Nat) (hN : gs_made S = N) : gd_Cp l D tC ad 45 1 23 y_G_readMoved c_G_readMoved 4 (some .int) [.ref 0] w (fun r w' => r = some (.int (nI (gs_rcn S X N))) ∧ gr_C w' (gs_rset S (gs_rdn S X N)) o ∧ gf_c w w') := by
  refine gd_Cp_of rfl hinj (Nat.le_of_ble_eq_true rfl) ?_
  intro p e s m args below meth c E hr hlk
  have K := k_G_readMoved
  have hA : ∀ q, gd_A ad 45 s.heap.size q → gd_A ad 45 s.heap.size q := fun _ h => h
  subst hN
  have hl6 := hC.1.1.2
  have loop : ∀ j i w1, i + j = (gs_al S).length → gc_rf w w1 → gc_ring w1 (gs_rdl S X ((gs_al S).take i)) → gd_G p l e (gd_rm 1 23) s m args below meth c D tC ad (gd_A ad 45 s.heap.size) 45 4 0 0 (MQ below (gd_Qp D tC ad 45 s.heap.size (fun r w' => r = some (.int (nI (gs_rcn S X (gs_made S)))) ∧ gr_C w' (gs_rset S (gs_rdn S X (gs_made S))) o ∧ gf_c w w')) args s 0 0 (gd_A ad 45 s.heap.size)) 4 [(0, .ref 0), (1, .int (nI (gs_rcl S X ((gs_al S).take i)))), (2, .int (nI i))] [] w1 := by
    intro j
    induction j with
    | zero =>
      intro i w1 hi hf hr9
      refine gd_r E K 4 (pc' := 12) (lv' := [(0, .ref 0), (1, .int (nI (gs_rcl S X ((gs_al S).take i)))), (2, .int (nI i))]) (st' := [.int (w1.1 2 1), .int (nI i)]) (w' := w1) rfl ?_
      refine gd_cg (lv' := [(0, .ref 0), (1, .int (nI (gs_rcl S X ((gs_al S).take i)))), (2, .int (nI i))]) (st' := [.int (nI (gs_al S).length), .int (nI i)]) (w' := w1) ?_ (rfl) (by simp only [show w1.1 2 1 = nI (gs_al S).length by rw [hf.1 2 (by decide) (by decide)]; exact hC.1.1.1]) rfl
      refine gd_r E K 1 (pc' := if (nI (gs_al S).length) ≤ (nI i) then 66 else 15) (lv' := [(0, .ref 0), (1, .int (nI (gs_rcl S X ((gs_al S).take i)))), (2, .int (nI i))]) (st' := []) (w' := w1) rfl ?_
      refine gd_it (nI_le (by omega) (by omega)) ?_
      refine gd_r E K 1 (pc' := 67) (lv' := [(0, .ref 0), (1, .int (nI (gs_rcl S X ((gs_al S).take i)))), (2, .int (nI i))]) (st' := [.int (nI (gs_rcl S X ((gs_al S).take i)))]) (w' := w1) rfl ?_
      have hta : (gs_al S).take i = gs_al S := List.take_of_length_le (by omega)
      rw [hta] at hr9
      exact gd_iretp E hr hlk (K.1 67 (.ireturn, 0) rfl).1 (by rw [hta, (gs_rdn_l (S := S) (X := X) (gs_made S)).1, (gs_rdn_l (S := S) (X := X) (gs_made S)).2]; exact ⟨rfl, hC.read hf hr9, hf.c⟩)
    | succ j ih =>
      intro i w1 hi hf hr9
      have hg := List.getElem?_eq_getElem (show i < (gs_al S).length by omega)
      generalize hx : (gs_al S)[i] = x at hg
      obtain ⟨l1, l2, l3, l4, E1, hE1⟩ := hC.1.got hg
      have hal := gs_al_at hg
      have hck := hE1.2.1.2
      have row : ∀ a, a ≠ 25 → a ≠ 26 → w1.1 a = w.1 a := hf.1
      have e10 : w1.1 (4 + 3 * (o i)) 10 = gs_b (F x) := by rw [row _ (by omega) (by omega)]; exact hF i x hg
      have e2 : w1.1 (4 + 3 * (o i)) 2 = nI x := by rw [row _ (by omega) (by omega)]; exact hE1.1.1
      have e3 : w1.1 (4 + 3 * (o i)) 3 = nI (gs_c S x) := by rw [row _ (by omega) (by omega)]; exact hE1.2.1.1
      have e4 : w1.1 (4 + 3 * (o i)) 4 = nI (gs_u S x) := by rw [row _ (by omega) (by omega)]; exact hE1.2.2.1.1
      have e5 : w1.1 0 5 = gs_time S := by rw [row 0 (by decide) (by decide)]; exact hC.2.2.2.2.1
      have hsn := gs_sens_iff (S := S) (X := X) hal.2 (hFX x hal)
      refine gd_r E K 4 (pc' := 12) (lv' := [(0, .ref 0), (1, .int (nI (gs_rcl S X ((gs_al S).take i)))), (2, .int (nI i))]) (st' := [.int (w1.1 2 1), .int (nI i)]) (w' := w1) rfl ?_
      refine gd_cg (lv' := [(0, .ref 0), (1, .int (nI (gs_rcl S X ((gs_al S).take i)))), (2, .int (nI i))]) (st' := [.int (nI (gs_al S).length), .int (nI i)]) (w' := w1) ?_ (rfl) (by simp only [show w1.1 2 1 = nI (gs_al S).length by rw [hf.1 2 (by decide) (by decide)]; exact hC.1.1.1]) rfl
      refine gd_r E K 1 (pc' := if (nI (gs_al S).length) ≤ (nI i) then 66 else 15) (lv' := [(0, .ref 0), (1, .int (nI (gs_rcl S X ((gs_al S).take i)))), (2, .int (nI i))]) (st' := []) (w' := w1) rfl ?_
      refine gd_if (nI_ge (by omega) (by omega)) ?_
      refine gd_r E K 4 (pc' := 23) (lv' := [(0, .ref 0), (1, .int (nI (gs_rcl S X ((gs_al S).take i)))), (2, .int (nI i))]) (st' := [.int (nI i), .ref 3]) (w' := w1) rfl ?_
      refine gd_aald E (K.1 23 (.aaload, 0) rfl).1 (j := i) (q := 4 + 3 * (o i)) (by decide) rfl (rfl) (by omega) (by decide) (by rw [hf.2]; exact l4) ?_
      refine gd_r E K 2 (pc' := 26) (lv' := [(0, .ref 0), (1, .int (nI (gs_rcl S X ((gs_al S).take i)))), (2, .int (nI i)), (3, .ref (4 + 3 * (o i)))]) (st' := [.ref (4 + 3 * (o i))]) (w' := w1) rfl ?_
      refine gd_getd E K (K.1 26 (.getfield 232, 0) rfl).1 rfl (by omega) (gd_shd l3) rfl (v := .int (gs_b (F x))) (by show Value.int _ = Value.int _; rw [e10]) ?_
      cases hFx : F x with
      | false =>
        refine gd_r E K 1 (pc' := if (gs_b (false)) = 0 then 60 else 32) (lv' := [(0, .ref 0), (1, .int (nI (gs_rcl S X ((gs_al S).take i)))), (2, .int (nI i)), (3, .ref (4 + 3 * (o i)))]) (st' := []) (w' := w1) rfl ?_
        refine gd_it (by decide) ?_
        have hs9 : gs_sens S X x = false := by rw [hsn, hFx, Bool.false_and]
        refine gd_r E K 2 (pc' := 4) (lv' := [(0, .ref 0), (1, .int (nI (gs_rcl S X ((gs_al S).take i)))), (2, .int ((nI i) + 1)), (3, .ref (4 + 3 * (o i)))]) (st' := []) (w' := w1) rfl ?_
        refine gd_lvp [0, 1, 2] (lv' := [(0, .ref 0), (1, .int (nI (gs_rcl S X ((gs_al S).take i)))), (2, .int ((nI i) + 1))]) rfl ?_
        exact gd_cg (ih (i + 1) w1 (by omega) (hf) (by rw [gs_take hg, gs_rdl_snoc, hs9]; exact hr9)) (by rw [gs_take hg, gs_rcl_snoc, hs9]; rw [nI_1]; rfl) rfl rfl
      | true =>
        refine gd_r E K 1 (pc' := if (gs_b (true)) = 0 then 60 else 32) (lv' := [(0, .ref 0), (1, .int (nI (gs_rcl S X ((gs_al S).take i)))), (2, .int (nI i)), (3, .ref (4 + 3 * (o i)))]) (st' := []) (w' := w1) rfl ?_
        refine gd_if (by decide) ?_
        refine gd_r E K 3 (pc' := 37) (lv' := [(0, .ref 0), (1, .int (nI (gs_rcl S X ((gs_al S).take i)))), (2, .int (nI i)), (3, .ref (4 + 3 * (o i)))]) (st' := [.ref (4 + 3 * (o i)), .ref 1]) (w' := w1) rfl ?_
        refine gd_getd E K (K.1 37 (.getfield 119, 0) rfl).1 rfl (by omega) (gd_shd l3) rfl (v := .int (nI (gs_c S x))) (by show Value.int _ = Value.int _; rw [e3]) ?_
        obtain ⟨k1, k2⟩ := hC.2.2.1 (gs_c S x) hck
        refine gd_ialdv E (K.1 40 (.iaload, 0) rfl).1 (j := gs_c S x) (by decide) (rfl) (rfl) (hck) (by decide) (v := nI (gs_k S (gs_c S x))) (by rw [row 1 (by decide) (by decide)]; exact k1) ?_
        refine gd_r E K 1 (pc' := 42) (lv' := [(0, .ref 0), (1, .int (nI (gs_rcl S X ((gs_al S).take i)))), (2, .int (nI i)), (3, .ref (4 + 3 * (o i)))]) (st' := [.int 3, .int (nI (gs_k S (gs_c S x)))]) (w' := w1) rfl ?_
        by_cases hk3 : gs_k S (gs_c S x) = 3
        · refine gd_r E K 1 (pc' := if (nI (gs_k S (gs_c S x))) = 3 then 45 else 60) (lv' := [(0, .ref 0), (1, .int (nI (gs_rcl S X ((gs_al S).take i)))), (2, .int (nI i)), (3, .ref (4 + 3 * (o i)))]) (st' := []) (w' := w1) rfl ?_
          refine gd_it (by rw [hk3]; rfl) ?_
          refine gd_r E K 5 (pc' := 54) (lv' := [(0, .ref 0), (1, .int (nI (gs_rcl S X ((gs_al S).take i)))), (2, .int (nI i)), (3, .ref (4 + 3 * (o i)))]) (st' := [.int (w1.1 0 5), .ref (4 + 3 * (o i)), .ref 25]) (w' := w1) rfl ?_
          refine gd_cg (lv' := [(0, .ref 0), (1, .int (nI (gs_rcl S X ((gs_al S).take i)))), (2, .int (nI i)), (3, .ref (4 + 3 * (o i)))]) (st' := [.int (gs_time S), .ref (4 + 3 * (o i)), .ref 25]) (w' := w1) ?_ (rfl) (by simp only [e5]) rfl
          refine gd_cVp E hA (av := [.ref (4 + 3 * (o i)), .int (gs_time S)]) (rest := []) (c3_Radd hinj w1 _ hr9 (o i) l3 x (gs_c S x) (gs_u S x) (gs_time S) e2 e3 e4) (K.1 54 (.invokevirtual 236, 0) rfl).1 ml_G_236 cv_R_add (by decide) (rfl) ⟨Nat.le_of_ble_eq_true rfl, Nat.le_of_ble_eq_true rfl⟩ ⟨Nat.zero_le _, Nat.zero_le _⟩ rfl (Nat.le_of_ble_eq_true rfl) (fun r9 w2 h9 => ?_)
          obtain ⟨rfl, rf, rg⟩ := h9
          have hs9 : gs_sens S X x = true := by rw [hsn, hFx, decide_eq_true hk3, Bool.and_self]
          refine gd_r E K 3 (pc' := 4) (lv' := [(0, .ref 0), (1, .int ((nI (gs_rcl S X ((gs_al S).take i))) + 1)), (2, .int ((nI i) + 1)), (3, .ref (4 + 3 * (o i)))]) (st' := []) (w' := w2) rfl ?_
          refine gd_lvp [0, 1, 2] (lv' := [(0, .ref 0), (1, .int ((nI (gs_rcl S X ((gs_al S).take i))) + 1)), (2, .int ((nI i) + 1))]) rfl ?_
          exact gd_cg (ih (i + 1) w2 (by omega) (⟨fun a h1 h2 => (rf.1 a h1 h2).trans (hf.1 a h1 h2), rf.2.trans hf.2⟩) (by rw [gs_take hg, gs_rdl_snoc, hs9]; exact rg)) (by rw [gs_take hg, gs_rcl_snoc, hs9]; simp only [nI_1, if_true]) rfl rfl
        · refine gd_r E K 1 (pc' := if (nI (gs_k S (gs_c S x))) = 3 then 45 else 60) (lv' := [(0, .ref 0), (1, .int (nI (gs_rcl S X ((gs_al S).take i)))), (2, .int (nI i)), (3, .ref (4 + 3 * (o i)))]) (st' := []) (w' := w1) rfl ?_
          refine gd_if (fun h => hk3 (by rw [show (3 : Int32) = nI 3 from rfl, nI_eq (by omega) (by decide)] at h; exact h)) ?_
          have hs9 : gs_sens S X x = false := by rw [hsn, decide_eq_false hk3, Bool.and_false]
          refine gd_r E K 2 (pc' := 4) (lv' := [(0, .ref 0), (1, .int (nI (gs_rcl S X ((gs_al S).take i)))), (2, .int ((nI i) + 1)), (3, .ref (4 + 3 * (o i)))]) (st' := []) (w' := w1) rfl ?_
          refine gd_lvp [0, 1, 2] (lv' := [(0, .ref 0), (1, .int (nI (gs_rcl S X ((gs_al S).take i)))), (2, .int ((nI i) + 1))]) rfl ?_
          exact gd_cg (ih (i + 1) w1 (by omega) (hf) (by rw [gs_take hg, gs_rdl_snoc, hs9]; exact hr9)) (by rw [gs_take hg, gs_rcl_snoc, hs9]; rw [nI_1]; rfl) rfl rfl
  refine gd_r E K 4 (pc' := 4) (lv' := [(0, .ref 0), (1, .int 0), (2, .int 0)]) (st' := []) (w' := w) rfl ?_
  exact gd_cg (loop _ 0 w (Nat.zero_add _) ⟨fun _ _ _ => rfl, rfl⟩ hC.2.2.2.2.2.2.2) rfl rfl rfl
set_option maxRecDepth 100000 in
theorem c3_Grun {l : Launch} (hls : l.stackTraces = false) {D : va_G} {tC : FieldType → ClassId} {ad : Nat → Nat} (hinj : ∀ i j, ad i = ad j → i = j) {S : gs_T} {o : Nat → Nat} (w : gd_W) (hC : gr_C w S o) (hG : gs_Good S) (n : Int32) : gd_Cx l D tC ad 45 6 90 y_G_run c_G_run 4 (some .int) [.ref 0, .int n] w (fun r w' => (gs_run S n).1 = 0 ∧ gs_cp (gs_run S n).2.2 (.int (nI (gs_run S n).2.1)) w r w') (fun E w' => (gs_run S n).1 = 1 ∧ gs_cx S "java/lang/IllegalArgumentException" w E w') := by
  refine gd_Cx_of rfl hinj (Nat.le_of_ble_eq_true rfl) ?_
  intro p e s m args below meth c E X ht hr hlk
  have K := k_G_run
  have hA : ∀ q, gd_A ad 45 s.heap.size q → gd_A ad 45 s.heap.size q := fun _ h => h
  refine gd_r E K 1 (pc' := 1) (lv' := [(0, .ref 0), (1, .int n)]) (st' := [.int n]) (w' := w) rfl ?_
  refine gd_r E K 1 (pc' := if n < 0 then 10 else 4) (lv' := [(0, .ref 0), (1, .int n)]) (st' := []) (w' := w) rfl ?_
  refine gd_ite (fun h1 => ?_) (fun h1 => ?_)
  · exact gd_thr E X ht hlk hls xa_IAE st_175 (K.1 10 (.new 67, 0) rfl).1 (K.1 13 (.dup, 0) rfl).1 (K.1 14 (.ldc 175, 0) rfl).1 (K.1 16 (.invokespecial 71, 0) rfl).1 (K.1 19 (.athrow, 0) rfl).1 (by decide) (⟨by rw [gs_run, if_pos (Or.inl h1)], rfl, ⟨o, hC⟩, gf_c.refl w⟩)
  · refine gd_r E K 2 (pc' := 7) (lv' := [(0, .ref 0), (1, .int n)]) (st' := [.int 100, .int n]) (w' := w) rfl ?_
    refine gd_r E K 1 (pc' := if n ≤ 100 then 20 else 10) (lv' := [(0, .ref 0), (1, .int n)]) (st' := []) (w' := w) rfl ?_
    refine gd_ite (fun h2 => ?_) (fun h2 => ?_)
    · obtain ⟨N, hN, rfl⟩ := nI_of h1
      have hN1 : N ≤ 100 := by rw [show (100 : Int32) = nI 100 from rfl, nI_leI hN (by decide)] at h2; exact h2
      have hrun : gs_run S (nI N) = (0, gs_its S N, gs_it S N) := by rw [gs_run, if_neg (by rintro (h | h); (exact h1 h); (exact absurd h2 (Int32.not_le.mpr h))), nI_clamp hN]
      have loop : ∀ j i w1 o1, i + j = N → gr_C w1 (gs_it S i) o1 → gf_c w w1 → gd_G p l e (gd_rx 6 90) s m args below meth c D tC ad (gd_A ad 45 s.heap.size) 45 4 0 0 (vx_MQ below (gd_Qp D tC ad 45 s.heap.size (fun r w' => (gs_run S (nI N)).1 = 0 ∧ gs_cp (gs_run S (nI N)).2.2 (.int (nI (gs_run S (nI N)).2.1)) w r w')) (gd_XC D tC ad 45 s.heap.size (fun E w' => (gs_run S (nI N)).1 = 1 ∧ gs_cx S "java/lang/IllegalArgumentException" w E w')) args s 1 6 (gd_A ad 45 s.heap.size)) 24 [(0, .ref 0), (1, .int (nI N)), (2, .int (nI (gs_its S i))), (3, .int (nI i))] [] w1 := by
        intro j
        induction j with
        | zero =>
          intro i w1 o1 hi hC1 g1
          have hiN : i = N := by omega
          subst hiN
          refine gd_r E K 2 (pc' := 26) (lv' := [(0, .ref 0), (1, .int (nI i)), (2, .int (nI (gs_its S i))), (3, .int (nI i))]) (st' := [.int (nI i), .int (nI i)]) (w' := w1) rfl ?_
          refine gd_r E K 1 (pc' := if (nI i) ≤ (nI i) then 60 else 29) (lv' := [(0, .ref 0), (1, .int (nI i)), (2, .int (nI (gs_its S i))), (3, .int (nI i))]) (st' := []) (w' := w1) rfl ?_
          refine gd_it (nI_le (by omega) (by omega)) ?_
          refine gd_r E K 1 (pc' := 61) (lv' := [(0, .ref 0), (1, .int (nI i)), (2, .int (nI (gs_its S i))), (3, .int (nI i))]) (st' := [.int (nI (gs_its S i))]) (w' := w1) rfl ?_
          refine gd_xr ?_
          exact gd_iretp E hr hlk (K.1 61 (.ireturn, 0) rfl).1 (by rw [hrun]; exact ⟨rfl, rfl, ⟨o1, hC1⟩, g1⟩)
        | succ j ih =>
          intro i w1 o1 hi hC1 g1
          have hGi := gs_Good_it hG i
          generalize hSi : gs_it S i = Si at hC1 hGi
          refine gd_r E K 2 (pc' := 26) (lv' := [(0, .ref 0), (1, .int (nI N)), (2, .int (nI (gs_its S i))), (3, .int (nI i))]) (st' := [.int (nI N), .int (nI i)]) (w' := w1) rfl ?_
          refine gd_r E K 1 (pc' := if (nI N) ≤ (nI i) then 60 else 29) (lv' := [(0, .ref 0), (1, .int (nI N)), (2, .int (nI (gs_its S i))), (3, .int (nI i))]) (st' := []) (w' := w1) rfl ?_
          refine gd_if (nI_ge (by omega) (by omega)) ?_
          refine gd_r E K 7 (pc' := 40) (lv' := [(0, .ref 0), (1, .int (nI N)), (2, .int (nI (gs_its S i))), (3, .int (nI i))]) (st' := [.ref 0]) (w' := gd_rI w1 0 (upd (w1.1 0) 5 ((w1.1 0 5) + 1))) rfl ?_
          refine gd_cVp E hA (av := []) (rest := []) (c3_GmoveAll hinj (gd_rI w1 0 (upd (w1.1 0) 5 ((w1.1 0 5) + 1))) (gc_L.tick hC1) hGi.1) (K.1 40 (.invokevirtual 177, 0) rfl).1 ml_G_177 cv_G_moveAll (by decide) (rfl) ⟨Nat.le_of_ble_eq_true rfl, Nat.le_of_ble_eq_true rfl⟩ ⟨Nat.zero_le _, Nat.zero_le _⟩ rfl (Nat.le_of_ble_eq_true rfl) (fun r9 w2 h9 => ?_)
          obtain ⟨rfl, mf, L2, fl2⟩ := h9
          refine gd_r E K 1 (pc' := 44) (lv' := [(0, .ref 0), (1, .int (nI N)), (2, .int (nI (gs_its S i))), (3, .int (nI i))]) (st' := [.ref 0]) (w' := w2) rfl ?_
          have hC2 := hC1.tick mf L2
          refine gd_cVp E hA (av := []) (rest := []) (c3_GjoinArrived hinj w2 hC2 (gs_s1_Go hGi) fl2) (K.1 44 (.invokevirtual 180, 0) rfl).1 ml_G_180 cv_G_joinArrived (by decide) (rfl) ⟨Nat.le_of_ble_eq_true rfl, Nat.le_of_ble_eq_true rfl⟩ ⟨Nat.zero_le _, Nat.zero_le _⟩ rfl (Nat.le_of_ble_eq_true rfl) (fun r9 w3 h9 => ?_)
          obtain ⟨rfl, o3, hC3, fl3, g3⟩ := h9
          refine gd_r E K 2 (pc' := 49) (lv' := [(0, .ref 0), (1, .int (nI N)), (2, .int (nI (gs_its S i))), (3, .int (nI i))]) (st' := [.ref 0, .int (nI (gs_its S i))]) (w' := w3) rfl ?_
          have hFX : ∀ d, gs_alive (gs_s2 Si) d → (gs_mvd Si d = true ↔ 63 < gs_sX Si d) := fun d hd => by
            have hd1 := gs_s2_alive hGi hd
            obtain ⟨jj, hjj⟩ := gs_al_ex hd1
            obtain ⟨-, -, -, -, EE, hEE⟩ := hC1.1.got hjj
            rw [gs_sX_iff hGi hd1 (fun h0 => (hEE.2.2.2.2.2.2.2.2.1 0 h0).2), gs_mvd, decide_eq_true_iff]
          refine gd_cVp E hA (av := []) (rest := [.int (nI (gs_its S i))]) (c3_GreadMoved (S := gs_s2 Si) (X := gs_sX Si) hinj w3 hC3 fl3 hFX (gs_made Si) gs_s2_made) (K.1 49 (.invokevirtual 183, 0) rfl).1 ml_G_183 cv_G_readMoved (by decide) (rfl) ⟨Nat.le_of_ble_eq_true rfl, Nat.le_of_ble_eq_true rfl⟩ ⟨Nat.zero_le _, Nat.zero_le _⟩ rfl (Nat.le_of_ble_eq_true rfl) (fun r9 w4 h9 => ?_)
          obtain ⟨rfl, hC4, g4⟩ := h9
          refine gd_r E K 4 (pc' := 24) (lv' := [(0, .ref 0), (1, .int (nI N)), (2, .int ((nI (gs_its S i)) + (nI (gs_rcn (gs_s2 Si) (gs_sX Si) (gs_made Si))))), (3, .int ((nI i) + 1))]) (st' := []) (w' := w4) rfl ?_
          refine gd_cg (ih (i + 1) w4 o3 (by omega) (by rw [gs_it, hSi]; exact hC4) (g1.trans (((gf_c.I w1 (by decide) _).trans mf.c).trans (g3.trans g4)))) ?_ rfl rfl
          rw [gs_its, hSi, nI_1, nI_add]; rfl
      refine gd_r E K 4 (pc' := 24) (lv' := [(0, .ref 0), (1, .int (nI N)), (2, .int 0), (3, .int 0)]) (st' := []) (w' := w) rfl ?_
      exact gd_cg (loop N 0 w o (Nat.zero_add _) hC (gf_c.refl w)) rfl rfl rfl
    · exact gd_thr E X ht hlk hls xa_IAE st_175 (K.1 10 (.new 67, 0) rfl).1 (K.1 13 (.dup, 0) rfl).1 (K.1 14 (.ldc 175, 0) rfl).1 (K.1 16 (.invokespecial 71, 0) rfl).1 (K.1 19 (.athrow, 0) rfl).1 (by decide) (⟨by rw [gs_run, if_pos (Or.inr (Int32.not_le.mp h2))], rfl, ⟨o, hC⟩, gf_c.refl w⟩)
