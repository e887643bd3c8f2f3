theorem gc_new_n {f : Nat → Int32} {n c : Int32} {j : Nat} (h : j = 0 ∨ j = 1 ∨ j = 5 ∨ 10 < j) : gc_new f n c j = f j := by
  unfold gc_new
  rw [gd_u_n (by omega), gd_u_n (by omega), gd_u_n (by omega), gd_u_n (by omega), gd_u_n (by omega), gd_u_n (by omega), gd_u_n (by omega), gd_u_n (by omega)]
theorem gr_E.new {w' : gd_W} {S' : gs_T} {A' : Nat → Option Nat} {q n c p : Nat} {f0 : Nat → Int32} (hn : n < 60) (hc : c < 64) (hp : p ≤ 60) (h1 : ∀ j, j ≠ 5 → w'.1 (4 + 3 * q) j = gc_new f0 (nI n) (nI c) j) (h5 : w'.1 (4 + 3 * q) 5 = nI p) (hs : ∀ j, j < 4 → w'.2.1 (6 + 3 * q) j = gs_sh S' n j)
    (s0 : gs_u S' n = 1) (s1 : gs_c S' n = c) (s2 : gs_p S' n = p) (s3 : gs_l S' n = 0) (s4 : gs_i S' n = 0) (hA : A' n = none) : gr_E w' S' A' q n 0 := by
  refine ⟨⟨by rw [h1 2 (by decide)]; rfl, hn⟩, ⟨by rw [h1 3 (by decide), s1]; rfl, by rw [s1]; exact hc⟩, ⟨by rw [h1 4 (by decide), s0]; rfl, by rw [s0]; decide⟩, ⟨by rw [h5, s2], by rw [s2]; exact hp⟩, ⟨by rw [h1 6 (by decide), s3]; rfl, by rw [s3]; decide⟩, by rw [h1 7 (by decide)]; rfl, ⟨by rw [h1 8 (by decide), s4]; rfl, by rw [s4]; decide⟩, ⟨by rw [h1 9 (by decide), hA]; rfl, fun x hx => by rw [hA] at hx; cases hx⟩, fun k hk => by rw [s3] at hk; omega, hs⟩
theorem gs_aw_add {S S' : gs_T} (hm : gs_made S' = gs_made S + 1) (hat : ∀ x, x < gs_made S → gs_u S' x = gs_u S x ∧ gs_i S' x = gs_i S x) (hi : gs_i S' (gs_made S) = 0) (d : Nat) : gs_aw S' d = gs_aw S d := by
  unfold gs_aw
  rw [hm, gs_com, if_neg (by rw [hi]; omega)]
  exact gs_com_congr hat
theorem gs_dispS_at {S : gs_T} {k c x : Nat} (h : x ≠ gs_made S) : gs_at S (gs_dispS S k c) x := by
  refine ⟨fun f => ?_, fun j hj => ?_⟩
  · simp only [gs_dispS, gs_sc, gs_fd, gs_sh4, gs_sset, gs_add, h, and_false, if_false]
  · simp only [gs_dispS, gs_sc, gs_fd, gs_sh4, gs_sset, gs_add, h, false_and, if_false]
theorem gs_dispS_sh {S : gs_T} {k c j : Nat} (hj : j < 4) : gs_sh (gs_dispS S k c) (gs_made S) j = if j = k then 1 else 0 := by
  rcases (by omega : j = 0 ∨ j = 1 ∨ j = 2 ∨ j = 3) with rfl | rfl | rfl | rfl <;> simp [gs_dispS, gs_sc, gs_fd, gs_sh4, gs_sset, gs_add, gs_sh]
theorem gs_dispS_u {S : gs_T} {k c : Nat} : gs_u (gs_dispS S k c) (gs_made S) = 1 := by simp [gs_u, gs_c, gs_p, gs_l, gs_i, gs_dispS, gs_sc, gs_fd, gs_sh4, gs_sset, gs_add]
theorem gs_dispS_c {S : gs_T} {k c : Nat} : gs_c (gs_dispS S k c) (gs_made S) = c := by simp [gs_u, gs_c, gs_p, gs_l, gs_i, gs_dispS, gs_sc, gs_fd, gs_sh4, gs_sset, gs_add]
theorem gs_dispS_p {S : gs_T} {k c : Nat} : gs_p (gs_dispS S k c) (gs_made S) = 0 := by simp [gs_u, gs_c, gs_p, gs_l, gs_i, gs_dispS, gs_sc, gs_fd, gs_sh4, gs_sset, gs_add]
theorem gs_dispS_l {S : gs_T} {k c : Nat} : gs_l (gs_dispS S k c) (gs_made S) = 0 := by simp [gs_u, gs_c, gs_p, gs_l, gs_i, gs_dispS, gs_sc, gs_fd, gs_sh4, gs_sset, gs_add]
theorem gs_dispS_i {S : gs_T} {k c : Nat} : gs_i (gs_dispS S k c) (gs_made S) = 0 := by simp [gs_u, gs_c, gs_p, gs_l, gs_i, gs_dispS, gs_sc, gs_fd, gs_sh4, gs_sset, gs_add]
theorem gs_dispS_made {S : gs_T} {k c : Nat} : gs_made (gs_dispS S k c) = gs_made S + 1 := rfl
theorem gs_dispS_out {S : gs_T} {k c : Nat} : gs_out (gs_dispS S k c) = gs_out S + 1 := rfl
theorem gs_dispS_alive {S : gs_T} {k c x : Nat} : gs_alive (gs_dispS S k c) x ↔ gs_alive S x ∨ x = gs_made S := by
  unfold gs_alive
  rw [gs_dispS_made]
  by_cases e : x = gs_made S
  · subst e
    rw [gs_dispS_u]
    exact ⟨fun _ => Or.inr rfl, fun _ => ⟨by omega, by omega⟩⟩
  · rw [show gs_u (gs_dispS S k c) x = gs_u S x from (gs_dispS_at e).1 0]
    constructor
    · rintro ⟨h1, h2⟩; exact Or.inl ⟨by omega, h2⟩
    · rintro (⟨h1, h2⟩ | h)
      · exact ⟨by omega, h2⟩
      · exact absurd h e
theorem gs_dispS_aw {S : gs_T} {k c : Nat} (d : Nat) : gs_aw (gs_dispS S k c) d = gs_aw S d := gs_aw_add gs_dispS_made (fun x hx => ⟨(gs_dispS_at (by omega)).1 0, (gs_dispS_at (by omega)).1 4⟩) gs_dispS_i d
theorem gs_src_lt {S : gs_T} {k c : Nat} (h : gs_src S k = some c) : c < 64 := by have := (gs_fst_some _ h).2.1; omega
set_option maxRecDepth 100000 in
theorem c3_Gdispense {l : Launch} (hls : l.stackTraces = false) {D : va_G} {tC : FieldType → ClassId} {ad : Nat → Nat} (hinj : ∀ i j, ad i = ad j → i = j) {S : gs_T} {o : Nat → Nat} (w : gd_W) (hC : gr_C w S o) (hG : gs_Good S) (x : Int32) : gd_Cx l D tC ad 45 6 117 y_G_dispense c_G_dispense 4 (some .int) [.ref 0, .int x] w (fun r w' => (gs_disp S x).1 = 0 ∧ gs_cp (gs_disp S x).2.2 (.int (nI (gs_disp S x).2.1)) w r w') (fun E w' => ((gs_disp S x).1 = 1 ∧ gs_cx S "java/lang/IllegalArgumentException" w E w') ∨ ((gs_disp S x).1 = 2 ∧ gs_cx S "java/util/NoSuchElementException" w E w') ∨ ((gs_disp S x).1 = 3 ∧ gs_cx S "java/lang/IllegalStateException" w E w')) := by
  refine gd_Cx_of rfl hinj (Nat.le_of_ble_eq_true rfl) ?_
  intro p e s m args below meth c E X ht hr hlk
  have K := k_G_dispense
  have hA : ∀ q, gd_A ad 45 s.heap.size q → gd_A ad 45 s.heap.size q := fun _ h => h
  have hlen : (gs_al S).length = gs_cnt (gs_u S) (gs_made S) := gs_ot_all _ _
  have hc6 := hG.2.1.1
  have hN := hG.2.1.2
  refine gd_r E K 1 (pc' := 1) (lv' := [(0, .ref 0), (1, .int x)]) (st' := [.int x]) (w' := w) rfl ?_
  refine gd_r E K 1 (pc' := if x < 0 then 9 else 4) (lv' := [(0, .ref 0), (1, .int x)]) (st' := []) (w' := w) rfl ?_
  refine gd_ite (fun h1 => ?_) (fun h1 => ?_)
  · exact gd_thr E X ht hlk hls xa_IAE st_69 (K.1 9 (.new 67, 0) rfl).1 (K.1 12 (.dup, 0) rfl).1 (K.1 13 (.ldc 69, 0) rfl).1 (K.1 15 (.invokespecial 71, 0) rfl).1 (K.1 18 (.athrow, 0) rfl).1 (by decide) (Or.inl ⟨by rw [gs_disp, if_pos (Or.inl h1)], rfl, ⟨o, hC⟩, gf_c.refl w⟩)
  · refine gd_r E K 2 (pc' := 6) (lv' := [(0, .ref 0), (1, .int x)]) (st' := [.int 4, .int x]) (w' := w) rfl ?_
    refine gd_r E K 1 (pc' := if x < 4 then 19 else 9) (lv' := [(0, .ref 0), (1, .int x)]) (st' := []) (w' := w) rfl ?_
    refine gd_ite (fun h2 => ?_) (fun h2 => ?_)
    · have hok : ¬ (x < 0 ∨ 4 ≤ x) := by rintro (h | h); (exact h1 h); (exact absurd h2 (Int32.not_lt.mpr h))
      obtain ⟨k, hk, rfl⟩ := nI_of h1
      have hk4 : k < 4 := by rw [show (4 : Int32) = nI 4 from rfl, nI_ltI hk (by decide)] at h2; exact h2
      have hd : gs_disp S (nI k) = match gs_src S k with | none => (2, 0, S) | some c => if gs_full S then (3, 0, S) else (0, gs_made S, gs_dispS S k c) := by rw [gs_disp, if_neg hok, nI_clamp hk]; rfl
      refine gd_r E K 2 (pc' := 21) (lv' := [(0, .ref 0), (1, .int (nI k))]) (st' := [.int (nI k), .ref 0]) (w' := w) rfl ?_
      refine gd_cVp E hA (av := [.int (nI k)]) (rest := []) (c3_clearSource hinj w hC hG.1 k hk4) (K.1 21 (.invokevirtual 74, 0) rfl).1 ml_G_74 cv_G_clearSource (by decide) (rfl) ⟨Nat.le_of_ble_eq_true rfl, Nat.le_of_ble_eq_true rfl⟩ ⟨Nat.zero_le _, Nat.zero_le _⟩ rfl (Nat.le_of_ble_eq_true rfl) (fun r9 w2 h9 => ?_)
      obtain ⟨rfl, f2⟩ := h9
      have hC2 := f2.C (by decide) hC
      have g2 := f2.c (by decide)
      refine gd_r E K 3 (pc' := 27) (lv' := [(0, .ref 0), (1, .int (nI k)), (2, .int (gm_nO (gs_src S k)))]) (st' := [.int (-1), .int (gm_nO (gs_src S k))]) (w' := w2) rfl ?_
      cases hs : gs_src S k with
      | none =>
        refine gd_r E K 1 (pc' := if (gm_nO (none)) = (-1) then 30 else 40) (lv' := [(0, .ref 0), (1, .int (nI k)), (2, .int (gm_nO (none)))]) (st' := []) (w' := w2) rfl ?_
        refine gd_it (by rfl) ?_
        exact gd_thrN E X ht hlk hls xa_NSE st_80 (K.1 30 (.new 78, 0) rfl).1 (K.1 33 (.dup, 0) rfl).1 (K.1 34 (.ldc 80, 0) rfl).1 (K.1 36 (.invokespecial 82, 0) rfl).1 (K.1 39 (.athrow, 0) rfl).1 (by decide) (Or.inr (Or.inl ⟨by rw [hd, hs], rfl, ⟨o, hC2⟩, g2⟩))
      | some c0 =>
        have hc0 := gs_src_lt hs
        refine gd_r E K 1 (pc' := if (gm_nO (some c0)) = (-1) then 30 else 40) (lv' := [(0, .ref 0), (1, .int (nI k)), (2, .int (gm_nO (some c0)))]) (st' := []) (w' := w2) rfl ?_
        refine gd_if (fun h => by have := (gm_nO_m1 (x := some c0) (fun a h => by cases h; omega)).mp h; cases this) ?_
        refine gd_r E K 4 (pc' := 49) (lv' := [(0, .ref 0), (1, .int (nI k)), (2, .int (gm_nO (some c0)))]) (st' := [.int 6, .int (w2.1 2 1)]) (w' := w2) rfl ?_
        refine gd_cg (lv' := [(0, .ref 0), (1, .int (nI k)), (2, .int (gm_nO (some c0)))]) (st' := [.int 6, .int (nI (gs_al S).length)]) (w' := w2) ?_ (rfl) (by simp only [hC2.1.1.1]) rfl
        by_cases hcn : gs_cnt (gs_u S) (gs_made S) = 6
        · refine gd_r E K 1 (pc' := if 6 ≤ (nI (gs_al S).length) then 64 else 52) (lv' := [(0, .ref 0), (1, .int (nI k)), (2, .int (gm_nO (some c0)))]) (st' := []) (w' := w2) rfl ?_
          refine gd_it (by rw [hlen, hcn]; decide) ?_
          have hfu : gs_full S = true := decide_eq_true (Or.inl hcn)
          exact gd_thr E X ht hlk hls xa_ISE st_88 (K.1 64 (.new 86, 0) rfl).1 (K.1 67 (.dup, 0) rfl).1 (K.1 68 (.ldc 88, 0) rfl).1 (K.1 70 (.invokespecial 90, 0) rfl).1 (K.1 73 (.athrow, 0) rfl).1 (by decide) (Or.inr (Or.inr ⟨by rw [hd, hs]; simp [hfu], rfl, ⟨o, hC2⟩, g2⟩))
        · refine gd_r E K 1 (pc' := if 6 ≤ (nI (gs_al S).length) then 64 else 52) (lv' := [(0, .ref 0), (1, .int (nI k)), (2, .int (gm_nO (some c0)))]) (st' := []) (w' := w2) rfl ?_
          refine gd_if (nI_ge (show (gs_al S).length < 6 by omega) (by decide)) ?_
          refine gd_r E K 4 (pc' := 61) (lv' := [(0, .ref 0), (1, .int (nI k)), (2, .int (gm_nO (some c0)))]) (st' := [.int 60, .int (w2.1 2 2)]) (w' := w2) rfl ?_
          refine gd_cg (lv' := [(0, .ref 0), (1, .int (nI k)), (2, .int (gm_nO (some c0)))]) (st' := [.int 60, .int (nI (gs_made S))]) (w' := w2) ?_ (rfl) (by simp only [hC2.2.1.1]) rfl
          by_cases hm6 : gs_made S = 60
          · refine gd_r E K 1 (pc' := if (nI (gs_made S)) < 60 then 74 else 64) (lv' := [(0, .ref 0), (1, .int (nI k)), (2, .int (gm_nO (some c0)))]) (st' := []) (w' := w2) rfl ?_
            refine gd_if (by rw [hm6]; decide) ?_
            have hfu : gs_full S = true := decide_eq_true (Or.inr hm6)
            exact gd_thr E X ht hlk hls xa_ISE st_88 (K.1 64 (.new 86, 0) rfl).1 (K.1 67 (.dup, 0) rfl).1 (K.1 68 (.ldc 88, 0) rfl).1 (K.1 70 (.invokespecial 90, 0) rfl).1 (K.1 73 (.athrow, 0) rfl).1 (by decide) (Or.inr (Or.inr ⟨by rw [hd, hs]; simp [hfu], rfl, ⟨o, hC2⟩, g2⟩))
          · refine gd_r E K 1 (pc' := if (nI (gs_made S)) < 60 then 74 else 64) (lv' := [(0, .ref 0), (1, .int (nI k)), (2, .int (gm_nO (some c0)))]) (st' := []) (w' := w2) rfl ?_
            refine gd_it (nI_lt (show gs_made S < 60 by omega) (by decide)) ?_
            refine gd_r E K 3 (pc' := 79) (lv' := [(0, .ref 0), (1, .int (nI k)), (2, .int (gm_nO (some c0)))]) (st' := [.int (gm_nO (some c0)), .ref 2]) (w' := w2) rfl ?_
            have hfu : gs_full S = false := decide_eq_false (fun z => z.elim hcn hm6)
            obtain ⟨L1, L2⟩ := hC2.1.2.1 (gs_al S).length (by omega)
            obtain ⟨q, hqe⟩ : ∃ q, q = o (gs_al S).length := ⟨_, rfl⟩
            rw [← hqe] at L1 L2
            refine gd_cVp E hA (av := [.int (gm_nO (some c0))]) (rest := []) (c3_Ladd hinj w2 (gs_al S).length q (gs_made S) (by omega) L2 hC2.1.1.1 hC2.2.1.1 L1 (nI c0)) (K.1 79 (.invokevirtual 91, 0) rfl).1 ml_G_91 cv_L_add (by decide) (rfl) ⟨Nat.le_of_ble_eq_true rfl, Nat.le_of_ble_eq_true rfl⟩ ⟨Nat.zero_le _, Nat.zero_le _⟩ rfl (Nat.le_of_ble_eq_true rfl) (fun r9 w3 h9 => ?_)
            obtain ⟨rfl, a1, a2, a3, a4, a5, a6⟩ := h9
            refine gd_r E K 3 (pc' := 85) (lv' := [(0, .ref 0), (1, .int (nI k)), (2, .int (gm_nO (some c0))), (3, .ref (4 + 3 * q))]) (st' := [.int (nI k), .ref (4 + 3 * q)]) (w' := w3) rfl ?_
            refine gd_cVp E hA (av := [.int (nI k)]) (rest := []) (c3_fillWith hinj w3 q L2 k hk4) (K.1 85 (.invokevirtual 95, 0) rfl).1 ml_G_95 cv_D_fillWith (by omega) (gd_shd L2) ⟨Nat.le_of_ble_eq_true rfl, Nat.le_of_ble_eq_true rfl⟩ ⟨Nat.zero_le _, Nat.zero_le _⟩ rfl (Nat.le_of_ble_eq_true rfl) (fun r9 w4 h9 => ?_)
            obtain ⟨rfl, n4⟩ := h9
            have ho : w4.1 0 6 = nI (gs_out S) := by rw [n4.1 0 (by omega), a1 0 (by decide) (by omega)]; exact hC2.2.2.2.2.2.1
            refine gd_r E K 5 (pc' := 95) (lv' := [(0, .ref 0), (1, .int (nI k)), (2, .int (gm_nO (some c0))), (3, .ref (4 + 3 * q))]) (st' := [.int ((w4.1 0 6) + 1), .ref 0]) (w' := w4) rfl ?_
            refine gd_cg (lv' := [(0, .ref 0), (1, .int (nI k)), (2, .int (gm_nO (some c0))), (3, .ref (4 + 3 * q))]) (st' := [.int ((nI (gs_out S)) + 1), .ref 0]) (w' := w4) ?_ (rfl) (by simp only [ho]) rfl
            refine gd_r E K 2 (pc' := 99) (lv' := [(0, .ref 0), (1, .int (nI k)), (2, .int (gm_nO (some c0))), (3, .ref (4 + 3 * q))]) (st' := [.ref (4 + 3 * q)]) (w' := gd_rI w4 0 (upd (w4.1 0) 6 ((nI (gs_out S)) + 1))) rfl ?_
            have hnb : w4.1 (4 + 3 * q) 2 = nI (gs_made S) := by rw [n4.2.1 2 (by decide), a2]; rfl
            have hd2 : gs_disp S (nI k) = (0, gs_made S, gs_dispS S k c0) := by rw [hd, hs]; simp [hfu]
            have hrow : ∀ j, j ≠ 5 → (gd_rI w4 0 (upd (w4.1 0) 6 ((nI (gs_out S)) + 1))).1 (4 + 3 * q) j = gc_new (w2.1 (4 + 3 * q)) (nI (gs_made S)) (nI c0) j := fun j hj => by rw [gd_rI_n (by omega), n4.2.1 j hj, a2]
            have hE5 : gr_E (gd_rI w4 0 (upd (w4.1 0) 6 ((nI (gs_out S)) + 1))) (gs_dispS S k c0) (gs_aw (gs_dispS S k c0)) q (gs_made S) 0 := gr_E.new (by omega) hc0 (by decide) hrow (by rw [gd_rI_n (by omega)]; exact n4.2.2.1) (fun j hj => by rw [gs_dispS_sh hj]; exact n4.2.2.2.2.2 j hj) gs_dispS_u gs_dispS_c gs_dispS_p gs_dispS_l gs_dispS_i (by rw [gs_dispS_aw]; exact hG.aw_dead (fun z => by have := z.1; omega))
            have hal := gs_al_push (S := S) (S' := gs_dispS S k c0) (fun x => gs_dispS_alive)
            have hCL : gc_L (gd_rI w4 0 (upd (w4.1 0) 6 ((nI (gs_out S)) + 1))) (gs_dispS S k c0) (gs_aw (gs_dispS S k c0)) (gs_al (gs_dispS S k c0)) o := by
              rw [hal]
              rw [hqe] at hE5 a1 n4
              refine hC2.1.push (by omega) hE5 (fun d hd => ⟨gs_dispS_at (fun z => by have := (gs_al_mem.mp hd).1; omega), gs_dispS_aw d⟩) (fun a h1 h2 h3 => by rw [gd_rI_n (by omega), n4.1 a h1, a1 a (by omega) h1]) (fun a h1 h2 h3 => by rw [gd_rI_L, n4.2.2.2.1 a h1, a6]) (by rw [gd_rI_R, n4.2.2.2.2.1, a6]) ?_
              rw [gd_rI_n (by omega), n4.1 2 (by omega), a4]
            have hg : gr_C (gd_rI w4 0 (upd (w4.1 0) 6 ((nI (gs_out S)) + 1))) (gs_dispS S k c0) o := by
              obtain ⟨-, c2, c3, c4, c5, c6, c7, c8⟩ := hC2
              have r0 : ∀ a, a ≠ 0 → a ≠ 2 → a ≠ 4 + 3 * q → (gd_rI w4 0 (upd (w4.1 0) 6 ((nI (gs_out S)) + 1))).1 a = w2.1 a := fun a h0 h2 hq => by rw [gd_rI_n h0, n4.1 a hq, a1 a h2 hq]
              have r1 : ∀ j, j ≠ 6 → (gd_rI w4 0 (upd (w4.1 0) 6 ((nI (gs_out S)) + 1))).1 0 j = w2.1 0 j := fun j hj => by rw [gd_rI_s, gd_u_n hj, n4.1 0 (by omega), a1 0 (by decide) (by omega)]
              refine ⟨hCL, ⟨by rw [gd_rI_n (by omega), n4.1 2 (by omega), a5]; rfl, by rw [gs_dispS_made]; omega⟩, by rw [r0 1 (by decide) (by decide) (by omega)]; exact c3, by rw [gd_rI_L, n4.2.2.2.1 0 (by omega), a6]; exact c4, by rw [r1 5 (by decide)]; exact c5, by rw [gd_rI_s, gd_u_s, gs_dispS_out, nI_1], by rw [r1 7 (by decide)]; exact c7, ?_⟩
              show gc_ring _ (gs_rd S)
              unfold gc_ring at c8 ⊢
              rw [r0 25 (by decide) (by decide) (by omega), r0 26 (by decide) (by decide) (by omega)]
              exact c8
            refine gd_getd E K (K.1 99 (.getfield 101, 0) rfl).1 rfl (by omega) (gd_shd L2) rfl (v := .int (w4.1 (4 + 3 * q) 2)) (by show Value.int _ = Value.int _; rw [gd_rI_n (by omega)]) ?_
            refine gd_xr ?_
            exact gd_iretp E hr hlk (K.1 102 (.ireturn, 0) rfl).1 (by rw [hd2]; exact ⟨rfl, by rw [hnb], ⟨o, hg⟩, g2.trans ⟨fun a ha => ⟨by rw [gd_rI_n (by omega), n4.1 a (by omega), a1 a (by omega) (by omega)], by rw [gd_rI_L, n4.2.2.2.1 a (by omega), a6]⟩, fun a _ => by rw [gd_rI_R, n4.2.2.2.2.1, a6]⟩⟩)
    · exact gd_thr E X ht hlk hls xa_IAE st_69 (K.1 9 (.new 67, 0) rfl).1 (K.1 12 (.dup, 0) rfl).1 (K.1 13 (.ldc 69, 0) rfl).1 (K.1 15 (.invokespecial 71, 0) rfl).1 (K.1 18 (.athrow, 0) rfl).1 (by decide) (Or.inl ⟨by rw [gs_disp, if_pos (Or.inr (Int32.not_lt.mp h2))], rfl, ⟨o, hC⟩, gf_c.refl w⟩)
