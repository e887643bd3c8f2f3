def gs_un2 (S : gs_T) : Nat → gs_T
  | 0 => S
  | n + 1 => if 0 < gs_u (gs_un2 S n) n ∧ 0 < gs_i (gs_un2 S n) n ∧ gs_l (gs_un2 S n) n = 0 then gs_unS (gs_un2 S n) n (gs_i (gs_un2 S n) n - 1) else gs_un2 S n
theorem gs_un2_same (S : gs_T) : ∀ n, (gs_un2 S n).1 = S.1 ∧ (gs_un2 S n).2.2.2 = S.2.2.2 ∧ (∀ d, gs_c (gs_un2 S n) d = gs_c S d) ∧ ∀ d, gs_l (gs_un2 S n) d = gs_l S d
  | 0 => ⟨rfl, rfl, fun _ => rfl, fun _ => rfl⟩
  | n + 1 => by
    have ih := gs_un2_same S n
    rw [gs_un2]
    split
    · exact ih
    · exact ih
def gs_sens (S : gs_T) (X : Nat → Nat) (d : Nat) : Bool := decide (0 < gs_u S d ∧ 63 < X d ∧ gs_k S (gs_c S d) = 3)
def gs_rdn (S : gs_T) (X : Nat → Nat) : Nat → List gs_rt
  | 0 => gs_rd S
  | n + 1 => if gs_sens S X n then gs_push (gs_rdn S X n) (n, gs_time S, gs_c S n, gs_u S n) else gs_rdn S X n
def gs_rcn (S : gs_T) (X : Nat → Nat) : Nat → Nat
  | 0 => 0
  | n + 1 => if gs_sens S X n then gs_rcn S X n + 1 else gs_rcn S X n
/-- what uniting asks of the state -/
def gs_ok2 (S : gs_T) : Prop := ∀ k, k < gs_made S → 0 < gs_u (gs_un2 S k) k → 0 < gs_i (gs_un2 S k) k → gs_l (gs_un2 S k) k = 0 → gs_i (gs_un2 S k) k - 1 < 60 ∧ gs_i (gs_un2 S k) k - 1 ≠ k ∧ gs_p (gs_un2 S k) k ≤ 59 ∧ gs_p (gs_un2 S k) (gs_i (gs_un2 S k) k - 1) ≤ 59
abbrev gs_s1 (S : gs_T) : gs_T := gs_adv (gs_tm S (gs_time S + 1)) (gs_made S)
abbrev gs_s2 (S : gs_T) : gs_T := gs_un2 (gs_s1 S) (gs_made S)
abbrev gs_sX (S : gs_T) : Nat → Nat := gs_advX S (gs_made S)
def gs_step (S : gs_T) : gs_T := gs_rset (gs_s2 S) (gs_rdn (gs_s2 S) (gs_sX S) (gs_made S))
def gs_stepn (S : gs_T) : Nat := gs_rcn (gs_s2 S) (gs_sX S) (gs_made S)
def gs_i3 (S : gs_T) (X : Nat → Nat) (w2 w3 : gd_W) (n : Nat) : Prop := (∀ a, a ≠ 27 → a ≠ 30 → (a < 37 ∨ 40 < a) → w3.1 a = w2.1 a) ∧ (∀ j, j ≠ 14 → w3.1 27 j = w2.1 27 j) ∧ w3.2 = w2.2 ∧ (∀ d, d < 60 → w3.1 30 d = nI (if d < n then gs_c S d else X d)) ∧ gs_rr w3 (gs_rdn S X n)
theorem gs_i3_cell {S : gs_T} {X : Nat → Nat} {w2 w3 : gd_W} {n : Nat} (h : gs_i3 S X w2 w3 n) {v : Int32} (hv : v = nI (gs_c S n)) (hr : ∀ l, gs_rdn S X (n + 1) = l → l = gs_rdn S X n) : gs_i3 S X w2 (gd_rI w3 30 (upd (w3.1 30) n v)) (n + 1) := by
  obtain ⟨h1, h2, h3, h4, h5⟩ := h
  refine ⟨fun a a1 a2 a3 => by rw [gd_rI_n a2]; exact h1 a a1 a2 a3, fun j hj => by rw [gd_rI_n (by decide)]; exact h2 j hj, h3, fun d hd => ?_, ?_⟩
  · rw [gd_rI_s]
    by_cases e : d = n
    · subst e; rw [gd_u_s, if_pos (by omega), hv]
    · rw [gd_u_n e, h4 d hd]
      by_cases e1 : d < n
      · rw [if_pos e1, if_pos (by omega)]
      · rw [if_neg e1, if_neg (by omega)]
  · rw [hr _ rfl]; exact h5
theorem gs_i3_cellr {S : gs_T} {X : Nat → Nat} {w2 w3 : gd_W} {n : Nat} (h : gs_i3 S X w2 w3 n) {v : Int32} (hv : v = nI (gs_c S n)) {w4 : gd_W} (hf : gf_rd (gd_rI w3 30 (upd (w3.1 30) n v)) w4) (hr : gs_rr w4 (gs_rdn S X (n + 1))) : gs_i3 S X w2 w4 (n + 1) := by
  obtain ⟨h1, h2, h3, h4, h5⟩ := h
  refine ⟨fun a a1 a2 a3 => by rw [hf.1 a a1 a3, gd_rI_n a2]; exact h1 a a1 a2 a3, fun j hj => by rw [hf.2.1 j hj, gd_rI_n (by decide)]; exact h2 j hj, by rw [hf.2.2]; exact h3, fun d hd => ?_, hr⟩
  rw [hf.1 30 (by decide) (by decide), gd_rI_s]
  by_cases e : d = n
  · subst e; rw [gd_u_s, if_pos (by omega), hv]
  · rw [gd_u_n e, h4 d hd]
    by_cases e1 : d < n
    · rw [if_pos e1, if_pos (by omega)]
    · rw [if_neg e1, if_neg (by omega)]
theorem gs_i3_end {S : gs_T} {G X : Nat → Nat} {w2 w3 : gd_W} (hx : gr_X w2 S G X) (hX : ∀ d, gs_made S ≤ d → X d = gs_c S d) (h : gs_i3 S X w2 w3 (gs_made S)) : gr_M w3 (gs_rset S (gs_rdn S X (gs_made S))) G := by
  obtain ⟨⟨k1, k2, k3, k4, k5, k6, k7, k8, k9, k10, k11, k12, -, -⟩, -⟩ := hx
  obtain ⟨h1, h2, h3, h4, h5⟩ := h
  have E29 := h1 29 (by decide) (by decide) (by decide)
  have E34 := h1 34 (by decide) (by decide) (by decide)
  have E35 := h1 35 (by decide) (by decide) (by decide)
  have E33 := h1 33 (by decide) (by decide) (by decide)
  have E36 := h1 36 (by decide) (by decide) (by decide)
  have E28 := h1 28 (by decide) (by decide) (by decide)
  have E32 := h1 32 (by decide) (by decide) (by decide)
  refine ⟨by rw [h2 3 (by decide)]; exact k1, by rw [E29]; exact k2, fun d hd => ?_, by rw [E34, E35]; exact k4, by rw [E33]; exact k5, by rw [E36]; exact k6, by rw [E28]; exact k7, by rw [h3]; exact k8, by rw [E32]; exact k9, by rw [h2 1 (by decide)]; exact k10, by rw [h2 12 (by decide)]; exact k11, by rw [h2 13 (by decide)]; exact k12, h5.1, h5.2⟩
  rw [h4 d hd]
  refine ⟨?_, (k3 d hd).2⟩
  by_cases e : d < gs_made S
  · rw [if_pos e]; rfl
  · rw [if_neg e, hX d (by omega)]; rfl
theorem gs_i1.m {S : gs_T} {G : Nat → Nat} {w w1 : gd_W} {n : Nat} (h : gs_i1 S G w w1 n) : gf_m w w1 := ⟨fun a ha => ⟨h.1 a (by omega) (by omega), by rw [h.2.1]⟩, by rw [h.2.1]⟩
theorem gs_i3.m {S : gs_T} {X : Nat → Nat} {w w1 : gd_W} {n : Nat} (h : gs_i3 S X w w1 n) : gf_m w w1 := ⟨fun a ha => ⟨h.1 a (by omega) (by omega) (by omega), by rw [h.2.2.1]⟩, by rw [h.2.2.1]⟩
theorem gs_ui.m {w w1 : gd_W} {e p : Nat} {f : Nat → Int64} (h : gs_ui w w1 e p f) : gf_m w w1 := ⟨fun a ha => ⟨h.1 a (by omega), h.2.2.1 a (by omega)⟩, h.2.2.2.1⟩
theorem gs_advX_hi (S : gs_T) {n d : Nat} (h : n ≤ d) : gs_advX S n d = gs_c (gs_adv S n) d := by
  rw [gs_advX, if_neg (fun z => by omega), gs_adv_c, if_neg (fun z => by omega)]
set_option maxHeartbeats 4000000 in
set_option maxRecDepth 100000 in
theorem c2_Mstep {l : Launch} {D : va_G} {tC : FieldType → ClassId} {ad : Nat → Nat} (hinj : ∀ i j, ad i = ad j → i = j) {S : gs_T} {G : Nat → Nat} (w : gd_W) (hR : gr_M w S G) (hv : ∀ k, gs_alive S k → gv_way S k) (hok : gs_ok2 (gs_s1 S)) : gd_Cp l D tC ad 45 2 44 y_M_step c_M_step 4 (some .int) [.ref 27] w (fun r w' => r = some (.int (nI (gs_stepn S))) ∧ (∃ G', gr_M w' (gs_step S) G') ∧ gf_m w w' ∧ w'.1 27 0 = w.1 27 0) := by
  refine gd_Cp_of rfl hinj (Nat.le_of_ble_eq_true rfl) ?_
  intro p e s m args below meth c E hr hlk
  have K := k_M_step
  have hA : ∀ q, gd_A ad 45 s.heap.size q → gd_A ad 45 s.heap.size q := fun _ h => h
  have hN := hR.1.2
  have hR0 : gr_M (gd_rI w 27 (upd (w.1 27) 1 (gs_time S + 1))) (gs_tm S (gs_time S + 1)) G := hR.time (gs_time S + 1)
  have hf0 : gf_m w (gd_rI w 27 (upd (w.1 27) 1 (gs_time S + 1))) := gf_m.I w (by decide) _
  have hc0 : (gd_rI w 27 (upd (w.1 27) 1 (gs_time S + 1))).1 27 0 = w.1 27 0 := rfl
  generalize hw0 : gd_rI w 27 (upd (w.1 27) 1 (gs_time S + 1)) = w0 at hR0 hf0 hc0
  have hX64 : ∀ d, gs_sX S d = gs_c (gs_s1 S) d ∨ gs_sX S d = gs_c (gs_s1 S) d + 64 := gs_advX_c S (gs_made S)
  have reads : ∀ w2, gr_X w2 (gs_s2 S) (gs_advG S G (gs_made S)) (gs_sX S) → gf_m w w2 → w2.1 27 0 = w.1 27 0 → ∀ j d w3, d + j = gs_made S → gs_i3 (gs_s2 S) (gs_sX S) w2 w3 d → gd_G p l e (gd_rm 2 44) s m args below meth c D tC ad (gd_A ad 45 s.heap.size) 45 4 0 0 (MQ below (gd_Qp D tC ad 45 s.heap.size (fun r w' => r = some (.int (nI (gs_stepn S))) ∧ (∃ G', gr_M w' (gs_step S) G') ∧ gf_m w w' ∧ w'.1 27 0 = w.1 27 0)) args s 0 0 (gd_A ad 45 s.heap.size)) 166 [(0, .ref 27), (1, .int (nI (gs_rcn (gs_s2 S) (gs_sX S) d))), (2, .int (nI d))] [] w3 := by
    intro w2 hx hf2 hc2 j
    induction j with
    | zero =>
        intro d w3 hd hi
        have hm3 : w3.1 27 3 = nI (gs_made S) := by rw [hi.2.1 3 (by decide)]; have := hx.1.1.1; rw [gs_made, (gs_un2_same (gs_s1 S) (gs_made S)).2.1] at this; exact this
        refine gd_r E K 3 (pc' := 171) (lv' := [(0, .ref 27), (1, .int (nI (gs_rcn (gs_s2 S) (gs_sX S) d))), (2, .int (nI d))]) (st' := [.int (w3.1 27 3), .int (nI d)]) (w' := w3) rfl ?_
        refine gd_cg (lv' := [(0, .ref 27), (1, .int (nI (gs_rcn (gs_s2 S) (gs_sX S) d))), (2, .int (nI d))]) (st' := [.int (nI (gs_made S)), .int (nI d)]) (w' := w3) ?_ (rfl) (by simp only [hm3]) rfl
        refine gd_r E K 1 (pc' := if (nI (gs_made S)) ≤ (nI d) then 249 else 174) (lv' := [(0, .ref 27), (1, .int (nI (gs_rcn (gs_s2 S) (gs_sX S) d))), (2, .int (nI d))]) (st' := []) (w' := w3) rfl ?_
        refine gd_it (nI_le (by omega) (by omega)) ?_
        refine gd_r E K 1 (pc' := 250) (lv' := [(0, .ref 27), (1, .int (nI (gs_rcn (gs_s2 S) (gs_sX S) d))), (2, .int (nI d))]) (st' := [.int (nI (gs_rcn (gs_s2 S) (gs_sX S) d))]) (w' := w3) rfl ?_
        have hdm : d = gs_made S := by omega
        rw [hdm] at hi
        have hmd : gs_made (gs_s2 S) = gs_made S := by rw [gs_made, (gs_un2_same (gs_s1 S) (gs_made S)).2.1]; rfl
        exact gd_iretp E hr hlk (K.1 250 (.ireturn, 0) rfl).1 (⟨by rw [hdm]; rfl, ⟨_, by have := gs_i3_end hx (fun d hd => by rw [hmd] at hd; rw [(gs_un2_same (gs_s1 S) (gs_made S)).2.2.1 d]; exact gs_advX_hi S hd) (by rw [hmd]; exact hi); rw [hmd] at this; exact this⟩, hf2.trans hi.m, (hi.2.1 0 (by decide)).trans hc2⟩)
    | succ j ih =>
        intro d w3 hd hi
        have hm3 : w3.1 27 3 = nI (gs_made S) := by rw [hi.2.1 3 (by decide)]; have := hx.1.1.1; rw [gs_made, (gs_un2_same (gs_s1 S) (gs_made S)).2.1] at this; exact this
        have hcs : gs_c (gs_s2 S) d = gs_c (gs_s1 S) d := (gs_un2_same (gs_s1 S) (gs_made S)).2.2.1 d
        have hc64 : gs_c (gs_s2 S) d < 64 := (hx.1.2.2.1 d (by omega)).2
        have hXd : gs_sX S d = gs_c (gs_s2 S) d ∨ gs_sX S d = gs_c (gs_s2 S) d + 64 := by rw [hcs]; exact hX64 d
        have hx30 : w3.1 30 d = nI (gs_sX S d) := by rw [hi.2.2.2.1 d (by omega), if_neg (by omega)]
        have hu3 : w3.1 29 d = nI (gs_u (gs_s2 S) d) := by rw [hi.1 29 (by decide) (by decide) (by decide)]; exact (hx.1.2.1 d (by omega)).1
        have hu2 : gs_u (gs_s2 S) d ≤ 2 := (hx.1.2.1 d (by omega)).2
        refine gd_r E K 3 (pc' := 171) (lv' := [(0, .ref 27), (1, .int (nI (gs_rcn (gs_s2 S) (gs_sX S) d))), (2, .int (nI d))]) (st' := [.int (w3.1 27 3), .int (nI d)]) (w' := w3) rfl ?_
        refine gd_cg (lv' := [(0, .ref 27), (1, .int (nI (gs_rcn (gs_s2 S) (gs_sX S) d))), (2, .int (nI d))]) (st' := [.int (nI (gs_made S)), .int (nI d)]) (w' := w3) ?_ (rfl) (by simp only [hm3]) rfl
        refine gd_r E K 1 (pc' := if (nI (gs_made S)) ≤ (nI d) then 249 else 174) (lv' := [(0, .ref 27), (1, .int (nI (gs_rcn (gs_s2 S) (gs_sX S) d))), (2, .int (nI d))]) (st' := []) (w' := w3) rfl ?_
        refine gd_if (nI_ge (by omega) (by omega)) ?_
        refine gd_r E K 3 (pc' := 179) (lv' := [(0, .ref 27), (1, .int (nI (gs_rcn (gs_s2 S) (gs_sX S) d))), (2, .int (nI d))]) (st' := [.int (nI d), .ref 30]) (w' := w3) rfl ?_
        refine gd_ialdv E (K.1 179 (.iaload, 0) rfl).1 (j := d) (by decide) (rfl) (rfl) (by omega) (by decide) (v := nI (gs_sX S d)) (hx30) ?_
        refine gd_r E K 1 (pc' := 182) (lv' := [(0, .ref 27), (1, .int (nI (gs_rcn (gs_s2 S) (gs_sX S) d))), (2, .int (nI d))]) (st' := [.int 63, .int (nI (gs_sX S d))]) (w' := w3) rfl ?_
        by_cases hfl : 63 < gs_sX S d
        · refine gd_r E K 1 (pc' := if (nI (gs_sX S d)) ≤ 63 then 189 else 185) (lv' := [(0, .ref 27), (1, .int (nI (gs_rcn (gs_s2 S) (gs_sX S) d))), (2, .int (nI d))]) (st' := []) (w' := w3) rfl ?_
          refine gd_if (nI_ge hfl (by omega)) ?_
          refine gd_r E K 9 (pc' := 201) (lv' := [(0, .ref 27), (1, .int (nI (gs_rcn (gs_s2 S) (gs_sX S) d))), (2, .int (nI d)), (3, .int 1)]) (st' := [.int (nI d), .ref 30, .int (nI d), .ref 30]) (w' := w3) rfl ?_
          refine gd_ialdv E (K.1 201 (.iaload, 0) rfl).1 (j := d) (by decide) (rfl) (rfl) (by omega) (by decide) (v := nI (gs_sX S d)) (hx30) ?_
          refine gd_r E K 2 (pc' := 205) (lv' := [(0, .ref 27), (1, .int (nI (gs_rcn (gs_s2 S) (gs_sX S) d))), (2, .int (nI d)), (3, .int 1)]) (st' := [.int ((nI (gs_sX S d)) - (nI (gs_sX S d)) / 64 * 64), .int (nI d), .ref 30]) (w' := w3) rfl ?_
          refine gd_cg (lv' := [(0, .ref 27), (1, .int (nI (gs_rcn (gs_s2 S) (gs_sX S) d))), (2, .int (nI d)), (3, .int 1)]) (st' := [.int (nI (gs_c (gs_s2 S) d)), .int (nI d), .ref 30]) (w' := w3) ?_ (rfl) (by rw [show (64 : Int32) = nI 64 from rfl, pk_rem (by omega) (by decide) (by decide)]; congr 3; omega) (rfl)
          refine gd_iast E (K.1 205 (.iastore, 0) rfl).1 (j := d) (by decide) (rfl) (rfl) (by omega) (by decide) ?_
          refine gd_r E K 3 (pc' := 211) (lv' := [(0, .ref 27), (1, .int (nI (gs_rcn (gs_s2 S) (gs_sX S) d))), (2, .int (nI d)), (3, .int 1)]) (st' := [.int (nI d), .ref 29]) (w' := gd_rI w3 30 (upd (w3.1 30) d (nI (gs_c (gs_s2 S) d)))) rfl ?_
          refine gd_ialdv E (K.1 211 (.iaload, 0) rfl).1 (j := d) (by decide) (rfl) (rfl) (by omega) (by decide) (v := nI (gs_u (gs_s2 S) d)) (by rw [gd_rI_n (by decide)]; exact hu3) ?_
          rcases Nat.eq_zero_or_pos (gs_u (gs_s2 S) d) with h0 | h0
          · refine gd_r E K 1 (pc' := if (nI (gs_u (gs_s2 S) d)) ≤ 0 then 243 else 215) (lv' := [(0, .ref 27), (1, .int (nI (gs_rcn (gs_s2 S) (gs_sX S) d))), (2, .int (nI d)), (3, .int 1)]) (st' := []) (w' := gd_rI w3 30 (upd (w3.1 30) d (nI (gs_c (gs_s2 S) d)))) rfl ?_
            refine gd_it ((gd_le0 (by omega)).mpr h0) ?_
            have hsn : gs_sens (gs_s2 S) (gs_sX S) d = false := decide_eq_false (fun z => by omega)
            refine gd_r E K 2 (pc' := 166) (lv' := [(0, .ref 27), (1, .int (nI (gs_rcn (gs_s2 S) (gs_sX S) d))), (2, .int ((nI d) + 1)), (3, .int 1)]) (st' := []) (w' := gd_rI w3 30 (upd (w3.1 30) d (nI (gs_c (gs_s2 S) d)))) rfl ?_
            refine gd_lvp [0, 1, 2] (lv' := [(0, .ref 27), (1, .int (nI (gs_rcn (gs_s2 S) (gs_sX S) d))), (2, .int ((nI d) + 1))]) rfl ?_
            exact gd_cg (ih (d + 1) _ (by omega) (gs_i3_cell hi rfl (fun l hl => by rw [← hl, gs_rdn, hsn]; rfl))) (by rw [gs_rcn, hsn, nI_1]; rfl) rfl rfl
          · refine gd_r E K 1 (pc' := if (nI (gs_u (gs_s2 S) d)) ≤ 0 then 243 else 215) (lv' := [(0, .ref 27), (1, .int (nI (gs_rcn (gs_s2 S) (gs_sX S) d))), (2, .int (nI d)), (3, .int 1)]) (st' := []) (w' := gd_rI w3 30 (upd (w3.1 30) d (nI (gs_c (gs_s2 S) d)))) rfl ?_
            refine gd_if (fun q => absurd ((gd_le0 (by omega)).mp q) (by omega)) ?_
            refine gd_r E K 7 (pc' := 228) (lv' := [(0, .ref 27), (1, .int (nI (gs_rcn (gs_s2 S) (gs_sX S) d))), (2, .int (nI d)), (3, .int 1)]) (st' := [.int (nI d), .ref 30, .ref 28]) (w' := gd_rI w3 30 (upd (w3.1 30) d (nI (gs_c (gs_s2 S) d)))) rfl ?_
            obtain ⟨k1, k2⟩ := hx.1.2.2.2.2.2.2.1 (gs_c (gs_s2 S) d) hc64
            refine gd_ialdv E (K.1 228 (.iaload, 0) rfl).1 (j := d) (by decide) (rfl) (rfl) (by omega) (by decide) (v := nI (gs_c (gs_s2 S) d)) (by rw [gd_rI_s, gd_u_s]) ?_
            refine gd_ialdv E (K.1 229 (.iaload, 0) rfl).1 (j := gs_c (gs_s2 S) d) (by decide) (rfl) (rfl) (hc64) (by decide) (v := nI (gs_k (gs_s2 S) (gs_c (gs_s2 S) d))) (by rw [gd_rI_n (by decide), hi.1 28 (by decide) (by decide) (by decide)]; exact k1) ?_
            refine gd_r E K 1 (pc' := 231) (lv' := [(0, .ref 27), (1, .int (nI (gs_rcn (gs_s2 S) (gs_sX S) d))), (2, .int (nI d)), (3, .int 1)]) (st' := [.int 3, .int (nI (gs_k (gs_s2 S) (gs_c (gs_s2 S) d)))]) (w' := gd_rI w3 30 (upd (w3.1 30) d (nI (gs_c (gs_s2 S) d)))) rfl ?_
            by_cases h3 : gs_k (gs_s2 S) (gs_c (gs_s2 S) d) = 3
            · refine gd_r E K 1 (pc' := if (nI (gs_k (gs_s2 S) (gs_c (gs_s2 S) d))) = 3 then 234 else 243) (lv' := [(0, .ref 27), (1, .int (nI (gs_rcn (gs_s2 S) (gs_sX S) d))), (2, .int (nI d)), (3, .int 1)]) (st' := []) (w' := gd_rI w3 30 (upd (w3.1 30) d (nI (gs_c (gs_s2 S) d)))) rfl ?_
              refine gd_it (by rw [h3]; rfl) ?_
              have hsn : gs_sens (gs_s2 S) (gs_sX S) d = true := decide_eq_true ⟨h0, by omega, h3⟩
              refine gd_r E K 2 (pc' := 236) (lv' := [(0, .ref 27), (1, .int (nI (gs_rcn (gs_s2 S) (gs_sX S) d))), (2, .int (nI d)), (3, .int 1)]) (st' := [.int (nI d), .ref 27]) (w' := gd_rI w3 30 (upd (w3.1 30) d (nI (gs_c (gs_s2 S) d)))) rfl ?_
              have ht3 : (gd_rI w3 30 (upd (w3.1 30) d (nI (gs_c (gs_s2 S) d)))).1 27 1 = gs_time (gs_s2 S) := by rw [gd_rI_n (by decide), hi.2.1 1 (by decide)]; exact hx.1.2.2.2.2.2.2.2.2.2.1
              have hrr4 : gs_rr (gd_rI w3 30 (upd (w3.1 30) d (nI (gs_c (gs_s2 S) d)))) (gs_rdn (gs_s2 S) (gs_sX S) d) := hi.2.2.2.2
              refine gd_cVp E hA (av := [.int (nI d)]) (rest := []) (c2_Mread hinj (gd_rI w3 30 (upd (w3.1 30) d (nI (gs_c (gs_s2 S) d)))) (gs_rdn (gs_s2 S) (gs_sX S) d) hrr4 d (gs_c (gs_s2 S) d) (gs_u (gs_s2 S) d) (gs_time (gs_s2 S)) (by omega) (by rw [gd_rI_s, gd_u_s]) (by rw [gd_rI_n (by decide)]; exact hu3) ht3) (K.1 236 (.invokevirtual 149, 0) rfl).1 ml_M_149 cv_M_read (by decide) (rfl) ⟨Nat.le_of_ble_eq_true rfl, Nat.le_of_ble_eq_true rfl⟩ ⟨Nat.zero_le _, Nat.zero_le _⟩ rfl (Nat.le_of_ble_eq_true rfl) (fun r9 w5 h9 => ?_)
              obtain ⟨rfl, hf5, hr5⟩ := h9
              refine gd_r E K 6 (pc' := 166) (lv' := [(0, .ref 27), (1, .int ((nI (gs_rcn (gs_s2 S) (gs_sX S) d)) + 1)), (2, .int ((nI d) + 1)), (3, .int 1)]) (st' := []) (w' := w5) rfl ?_
              refine gd_lvp [0, 1, 2] (lv' := [(0, .ref 27), (1, .int ((nI (gs_rcn (gs_s2 S) (gs_sX S) d)) + 1)), (2, .int ((nI d) + 1))]) rfl ?_
              exact gd_cg (ih (d + 1) w5 (by omega) (gs_i3_cellr hi rfl hf5 (by rw [gs_rdn, hsn]; exact hr5))) (by rw [gs_rcn, hsn, nI_1, nI_1]; rfl) rfl rfl
            · refine gd_r E K 1 (pc' := if (nI (gs_k (gs_s2 S) (gs_c (gs_s2 S) d))) = 3 then 234 else 243) (lv' := [(0, .ref 27), (1, .int (nI (gs_rcn (gs_s2 S) (gs_sX S) d))), (2, .int (nI d)), (3, .int 1)]) (st' := []) (w' := gd_rI w3 30 (upd (w3.1 30) d (nI (gs_c (gs_s2 S) d)))) rfl ?_
              refine gd_if (by rw [show (3 : Int32) = nI 3 from rfl, nI_eq (by omega) (by decide)]; exact h3) ?_
              have hsn : gs_sens (gs_s2 S) (gs_sX S) d = false := decide_eq_false (fun z => h3 z.2.2)
              refine gd_r E K 2 (pc' := 166) (lv' := [(0, .ref 27), (1, .int (nI (gs_rcn (gs_s2 S) (gs_sX S) d))), (2, .int ((nI d) + 1)), (3, .int 1)]) (st' := []) (w' := gd_rI w3 30 (upd (w3.1 30) d (nI (gs_c (gs_s2 S) d)))) rfl ?_
              refine gd_lvp [0, 1, 2] (lv' := [(0, .ref 27), (1, .int (nI (gs_rcn (gs_s2 S) (gs_sX S) d))), (2, .int ((nI d) + 1))]) rfl ?_
              exact gd_cg (ih (d + 1) _ (by omega) (gs_i3_cell hi rfl (fun l hl => by rw [← hl, gs_rdn, hsn]; rfl))) (by rw [gs_rcn, hsn, nI_1]; rfl) rfl rfl
        · refine gd_r E K 1 (pc' := if (nI (gs_sX S d)) ≤ 63 then 189 else 185) (lv' := [(0, .ref 27), (1, .int (nI (gs_rcn (gs_s2 S) (gs_sX S) d))), (2, .int (nI d))]) (st' := []) (w' := w3) rfl ?_
          refine gd_it (nI_le (show gs_sX S d ≤ 63 by omega) (by decide)) ?_
          refine gd_r E K 8 (pc' := 201) (lv' := [(0, .ref 27), (1, .int (nI (gs_rcn (gs_s2 S) (gs_sX S) d))), (2, .int (nI d)), (3, .int 0)]) (st' := [.int (nI d), .ref 30, .int (nI d), .ref 30]) (w' := w3) rfl ?_
          refine gd_ialdv E (K.1 201 (.iaload, 0) rfl).1 (j := d) (by decide) (rfl) (rfl) (by omega) (by decide) (v := nI (gs_sX S d)) (hx30) ?_
          refine gd_r E K 2 (pc' := 205) (lv' := [(0, .ref 27), (1, .int (nI (gs_rcn (gs_s2 S) (gs_sX S) d))), (2, .int (nI d)), (3, .int 0)]) (st' := [.int ((nI (gs_sX S d)) - (nI (gs_sX S d)) / 64 * 64), .int (nI d), .ref 30]) (w' := w3) rfl ?_
          refine gd_cg (lv' := [(0, .ref 27), (1, .int (nI (gs_rcn (gs_s2 S) (gs_sX S) d))), (2, .int (nI d)), (3, .int 0)]) (st' := [.int (nI (gs_c (gs_s2 S) d)), .int (nI d), .ref 30]) (w' := w3) ?_ (rfl) (by rw [show (64 : Int32) = nI 64 from rfl, pk_rem (by omega) (by decide) (by decide)]; congr 3; omega) (rfl)
          refine gd_iast E (K.1 205 (.iastore, 0) rfl).1 (j := d) (by decide) (rfl) (rfl) (by omega) (by decide) ?_
          refine gd_r E K 3 (pc' := 211) (lv' := [(0, .ref 27), (1, .int (nI (gs_rcn (gs_s2 S) (gs_sX S) d))), (2, .int (nI d)), (3, .int 0)]) (st' := [.int (nI d), .ref 29]) (w' := gd_rI w3 30 (upd (w3.1 30) d (nI (gs_c (gs_s2 S) d)))) rfl ?_
          refine gd_ialdv E (K.1 211 (.iaload, 0) rfl).1 (j := d) (by decide) (rfl) (rfl) (by omega) (by decide) (v := nI (gs_u (gs_s2 S) d)) (by rw [gd_rI_n (by decide)]; exact hu3) ?_
          rcases Nat.eq_zero_or_pos (gs_u (gs_s2 S) d) with h0 | h0
          · refine gd_r E K 1 (pc' := if (nI (gs_u (gs_s2 S) d)) ≤ 0 then 243 else 215) (lv' := [(0, .ref 27), (1, .int (nI (gs_rcn (gs_s2 S) (gs_sX S) d))), (2, .int (nI d)), (3, .int 0)]) (st' := []) (w' := gd_rI w3 30 (upd (w3.1 30) d (nI (gs_c (gs_s2 S) d)))) rfl ?_
            refine gd_it ((gd_le0 (by omega)).mpr h0) ?_
            have hsn : gs_sens (gs_s2 S) (gs_sX S) d = false := decide_eq_false (fun z => by omega)
            refine gd_r E K 2 (pc' := 166) (lv' := [(0, .ref 27), (1, .int (nI (gs_rcn (gs_s2 S) (gs_sX S) d))), (2, .int ((nI d) + 1)), (3, .int 0)]) (st' := []) (w' := gd_rI w3 30 (upd (w3.1 30) d (nI (gs_c (gs_s2 S) d)))) rfl ?_
            refine gd_lvp [0, 1, 2] (lv' := [(0, .ref 27), (1, .int (nI (gs_rcn (gs_s2 S) (gs_sX S) d))), (2, .int ((nI d) + 1))]) rfl ?_
            exact gd_cg (ih (d + 1) _ (by omega) (gs_i3_cell hi rfl (fun l hl => by rw [← hl, gs_rdn, hsn]; rfl))) (by rw [gs_rcn, hsn, nI_1]; rfl) rfl rfl
          · refine gd_r E K 1 (pc' := if (nI (gs_u (gs_s2 S) d)) ≤ 0 then 243 else 215) (lv' := [(0, .ref 27), (1, .int (nI (gs_rcn (gs_s2 S) (gs_sX S) d))), (2, .int (nI d)), (3, .int 0)]) (st' := []) (w' := gd_rI w3 30 (upd (w3.1 30) d (nI (gs_c (gs_s2 S) d)))) rfl ?_
            refine gd_if (fun q => absurd ((gd_le0 (by omega)).mp q) (by omega)) ?_
            have hsn : gs_sens (gs_s2 S) (gs_sX S) d = false := decide_eq_false (fun z => by omega)
            refine gd_r E K 4 (pc' := 166) (lv' := [(0, .ref 27), (1, .int (nI (gs_rcn (gs_s2 S) (gs_sX S) d))), (2, .int ((nI d) + 1)), (3, .int 0)]) (st' := []) (w' := gd_rI w3 30 (upd (w3.1 30) d (nI (gs_c (gs_s2 S) d)))) rfl ?_
            refine gd_lvp [0, 1, 2] (lv' := [(0, .ref 27), (1, .int (nI (gs_rcn (gs_s2 S) (gs_sX S) d))), (2, .int ((nI d) + 1))]) rfl ?_
            exact gd_cg (ih (d + 1) _ (by omega) (gs_i3_cell hi rfl (fun l hl => by rw [← hl, gs_rdn, hsn]; rfl))) (by rw [gs_rcn, hsn, nI_1]; rfl) rfl rfl
  have unites : ∀ j k w2, k + j = gs_made S → gr_X w2 (gs_un2 (gs_s1 S) k) (gs_advG S G (gs_made S)) (gs_sX S) → gf_m w w2 → w2.1 27 0 = w.1 27 0 → gd_G p l e (gd_rm 2 44) s m args below meth c D tC ad (gd_A ad 45 s.heap.size) 45 4 0 0 (MQ below (gd_Qp D tC ad 45 s.heap.size (fun r w' => r = some (.int (nI (gs_stepn S))) ∧ (∃ G', gr_M w' (gs_step S) G') ∧ gf_m w w' ∧ w'.1 27 0 = w.1 27 0)) args s 0 0 (gd_A ad 45 s.heap.size)) 111 [(0, .ref 27), (1, .int 0), (2, .int (nI k))] [] w2 := by
    intro j
    induction j with
    | zero =>
        intro k w2 hk hx hf2 hc2
        have hm2 : w2.1 27 3 = nI (gs_made S) := by have := hx.1.1.1; rw [gs_made, (gs_un2_same (gs_s1 S) k).2.1] at this; exact this
        refine gd_r E K 3 (pc' := 116) (lv' := [(0, .ref 27), (1, .int 0), (2, .int (nI k))]) (st' := [.int (w2.1 27 3), .int (nI k)]) (w' := w2) rfl ?_
        refine gd_cg (lv' := [(0, .ref 27), (1, .int 0), (2, .int (nI k))]) (st' := [.int (nI (gs_made S)), .int (nI k)]) (w' := w2) ?_ (rfl) (by simp only [hm2]) rfl
        refine gd_r E K 1 (pc' := if (nI (gs_made S)) ≤ (nI k) then 164 else 119) (lv' := [(0, .ref 27), (1, .int 0), (2, .int (nI k))]) (st' := []) (w' := w2) rfl ?_
        refine gd_it (nI_le (by omega) (by omega)) ?_
        refine gd_r E K 2 (pc' := 166) (lv' := [(0, .ref 27), (1, .int 0), (2, .int 0)]) (st' := []) (w' := w2) rfl ?_
        have hkm : k = gs_made S := by omega
        rw [hkm] at hx
        have hrl := hx.1.2.2.2.2.2.2.2.2.2.2.2.2
        exact gd_cg (reads w2 hx hf2 hc2 (gs_made S) 0 w2 (by omega) ⟨fun _ _ _ _ => rfl, fun _ _ => rfl, rfl, fun d hd => by rw [if_neg (by omega)]; exact hx.2 d hd, hrl⟩) rfl rfl rfl
    | succ j ih =>
        intro k w2 hk hx hf2 hc2
        have hm2 : w2.1 27 3 = nI (gs_made S) := by have := hx.1.1.1; rw [gs_made, (gs_un2_same (gs_s1 S) k).2.1] at this; exact this
        obtain ⟨u1, u2⟩ := hx.1.2.1 k (by omega)
        obtain ⟨i1, i2⟩ := hx.1.2.2.2.2.2.1 k (by omega)
        obtain ⟨g1, g2, g3⟩ := hx.1.2.2.2.1 k (by omega)
        refine gd_r E K 3 (pc' := 116) (lv' := [(0, .ref 27), (1, .int 0), (2, .int (nI k))]) (st' := [.int (w2.1 27 3), .int (nI k)]) (w' := w2) rfl ?_
        refine gd_cg (lv' := [(0, .ref 27), (1, .int 0), (2, .int (nI k))]) (st' := [.int (nI (gs_made S)), .int (nI k)]) (w' := w2) ?_ (rfl) (by simp only [hm2]) rfl
        refine gd_r E K 1 (pc' := if (nI (gs_made S)) ≤ (nI k) then 164 else 119) (lv' := [(0, .ref 27), (1, .int 0), (2, .int (nI k))]) (st' := []) (w' := w2) rfl ?_
        refine gd_if (nI_ge (by omega) (by omega)) ?_
        refine gd_r E K 3 (pc' := 124) (lv' := [(0, .ref 27), (1, .int 0), (2, .int (nI k))]) (st' := [.int (nI k), .ref 29]) (w' := w2) rfl ?_
        refine gd_ialdv E (K.1 124 (.iaload, 0) rfl).1 (j := k) (by decide) (rfl) (rfl) (by omega) (by decide) (v := nI (gs_u (gs_un2 (gs_s1 S) k) k)) (u1) ?_
        rcases Nat.eq_zero_or_pos (gs_u (gs_un2 (gs_s1 S) k) k) with h0 | h0
        · refine gd_r E K 1 (pc' := if (nI (gs_u (gs_un2 (gs_s1 S) k) k)) ≤ 0 then 158 else 128) (lv' := [(0, .ref 27), (1, .int 0), (2, .int (nI k))]) (st' := []) (w' := w2) rfl ?_
          refine gd_it ((gd_le0 (by omega)).mpr h0) ?_
          refine gd_r E K 2 (pc' := 111) (lv' := [(0, .ref 27), (1, .int 0), (2, .int ((nI k) + 1))]) (st' := []) (w' := w2) rfl ?_
          exact gd_cg (ih (k + 1) w2 (by omega) (by rw [gs_un2, if_neg (fun z => by omega)]; exact hx) hf2 hc2) (by rw [nI_1]) rfl rfl
        · refine gd_r E K 1 (pc' := if (nI (gs_u (gs_un2 (gs_s1 S) k) k)) ≤ 0 then 158 else 128) (lv' := [(0, .ref 27), (1, .int 0), (2, .int (nI k))]) (st' := []) (w' := w2) rfl ?_
          refine gd_if (fun q => absurd ((gd_le0 (by omega)).mp q) (by omega)) ?_
          refine gd_r E K 3 (pc' := 133) (lv' := [(0, .ref 27), (1, .int 0), (2, .int (nI k))]) (st' := [.int (nI k), .ref 36]) (w' := w2) rfl ?_
          refine gd_ialdv E (K.1 133 (.iaload, 0) rfl).1 (j := k) (by decide) (rfl) (rfl) (by omega) (by decide) (v := nI (gs_i (gs_un2 (gs_s1 S) k) k)) (i1) ?_
          rcases Nat.eq_zero_or_pos (gs_i (gs_un2 (gs_s1 S) k) k) with h1 | h1
          · refine gd_r E K 1 (pc' := if (nI (gs_i (gs_un2 (gs_s1 S) k) k)) ≤ 0 then 158 else 137) (lv' := [(0, .ref 27), (1, .int 0), (2, .int (nI k))]) (st' := []) (w' := w2) rfl ?_
            refine gd_it ((gd_le0 (by omega)).mpr h1) ?_
            refine gd_r E K 2 (pc' := 111) (lv' := [(0, .ref 27), (1, .int 0), (2, .int ((nI k) + 1))]) (st' := []) (w' := w2) rfl ?_
            exact gd_cg (ih (k + 1) w2 (by omega) (by rw [gs_un2, if_neg (fun z => by omega)]; exact hx) hf2 hc2) (by rw [nI_1]) rfl rfl
          · refine gd_r E K 1 (pc' := if (nI (gs_i (gs_un2 (gs_s1 S) k) k)) ≤ 0 then 158 else 137) (lv' := [(0, .ref 27), (1, .int 0), (2, .int (nI k))]) (st' := []) (w' := w2) rfl ?_
            refine gd_if (fun q => absurd ((gd_le0 (by omega)).mp q) (by omega)) ?_
            refine gd_r E K 2 (pc' := 139) (lv' := [(0, .ref 27), (1, .int 0), (2, .int (nI k))]) (st' := [.int (nI k), .ref 27]) (w' := w2) rfl ?_
            refine gd_cV E hA (av := [.int (nI k)]) (rest := []) (c2_left2 hinj w2 k (gs_advG S G (gs_made S) k) (gs_l (gs_un2 (gs_s1 S) k) k) (by omega) g1 g2) (K.1 139 (.invokevirtual 75, 0) rfl).1 ml_M_75 cv_M_left (by decide) (rfl) ⟨Nat.le_of_ble_eq_true rfl, Nat.le_of_ble_eq_true rfl⟩ ⟨Nat.zero_le _, Nat.zero_le _⟩ rfl (Nat.le_of_ble_eq_true rfl) ?_
            by_cases h2 : gs_l (gs_un2 (gs_s1 S) k) k = 0
            · refine gd_r E K 1 (pc' := if (nI (gs_l (gs_un2 (gs_s1 S) k) k)) = 0 then 145 else 158) (lv' := [(0, .ref 27), (1, .int 0), (2, .int (nI k))]) (st' := []) (w' := w2) rfl ?_
              refine gd_it (by rw [h2]; rfl) ?_
              refine gd_r E K 5 (pc' := 152) (lv' := [(0, .ref 27), (1, .int 0), (2, .int (nI k))]) (st' := [.int (nI k), .ref 36, .int (nI k), .ref 27]) (w' := w2) rfl ?_
              refine gd_ialdv E (K.1 152 (.iaload, 0) rfl).1 (j := k) (by decide) (rfl) (rfl) (by omega) (by decide) (v := nI (gs_i (gs_un2 (gs_s1 S) k) k)) (i1) ?_
              refine gd_r E K 2 (pc' := 155) (lv' := [(0, .ref 27), (1, .int 0), (2, .int (nI k))]) (st' := [.int ((nI (gs_i (gs_un2 (gs_s1 S) k) k)) - 1), .int (nI k), .ref 27]) (w' := w2) rfl ?_
              obtain ⟨o1, o2, o3, o4⟩ := hok k (show k < gs_made S by omega) h0 h1 h2
              refine gd_cg (lv' := [(0, .ref 27), (1, .int 0), (2, .int (nI k))]) (st' := [.int (nI (gs_i (gs_un2 (gs_s1 S) k) k - 1)), .int (nI k), .ref 27]) (w' := w2) ?_ (rfl) (by rw [show (1 : Int32) = nI 1 from rfl, pk_sub h1]) (rfl)
              refine gd_cVp E hA (av := [.int (nI k), .int (nI (gs_i (gs_un2 (gs_s1 S) k) k - 1))]) (rest := []) (c2_Munite hinj w2 k (gs_i (gs_un2 (gs_s1 S) k) k - 1) (by omega) o1 (Ne.symm o2) (gs_p (gs_un2 (gs_s1 S) k) k) (gs_p (gs_un2 (gs_s1 S) k) (gs_i (gs_un2 (gs_s1 S) k) k - 1)) (by omega) (by omega) (gs_sh (gs_un2 (gs_s1 S) k) k) (gs_sh (gs_un2 (gs_s1 S) k) (gs_i (gs_un2 (gs_s1 S) k) k - 1)) (hx.1.2.2.2.2.2.2.2.2.1 k (by omega)).1 (hx.1.2.2.2.2.2.2.2.2.1 _ o1).1 (hx.1.2.2.2.2.2.2.2.1 k (by omega)) (hx.1.2.2.2.2.2.2.2.1 _ o1)) (K.1 155 (.invokevirtual 146, 0) rfl).1 ml_M_146 cv_M_unite (by decide) (rfl) ⟨Nat.le_of_ble_eq_true rfl, Nat.le_of_ble_eq_true rfl⟩ ⟨Nat.zero_le _, Nat.zero_le _⟩ rfl (Nat.le_of_ble_eq_true rfl) (fun r9 w4 h9 => ?_)
              obtain ⟨rfl, w3, hu3, rfl⟩ := h9
              have hx4 := hx.un (Ne.symm o2) (by omega) hu3
              have hf4 : gf_m w (gd_rI (gd_rI (gd_rI w3 29 (upd (w3.1 29) (gs_i (gs_un2 (gs_s1 S) k) k - 1) (nI 2))) 29 (upd ((gd_rI w3 29 (upd (w3.1 29) (gs_i (gs_un2 (gs_s1 S) k) k - 1) (nI 2))).1 29) k (nI 0))) 36 (upd ((gd_rI (gd_rI w3 29 (upd (w3.1 29) (gs_i (gs_un2 (gs_s1 S) k) k - 1) (nI 2))) 29 (upd ((gd_rI w3 29 (upd (w3.1 29) (gs_i (gs_un2 (gs_s1 S) k) k - 1) (nI 2))).1 29) k (nI 0))).1 36) k (nI 0))) := hf2.trans (hu3.m.trans ((gf_m.I _ (by decide) _).trans ((gf_m.I _ (by decide) _).trans (gf_m.I _ (by decide) _))))
              have hc4 : (gd_rI (gd_rI (gd_rI w3 29 (upd (w3.1 29) (gs_i (gs_un2 (gs_s1 S) k) k - 1) (nI 2))) 29 (upd ((gd_rI w3 29 (upd (w3.1 29) (gs_i (gs_un2 (gs_s1 S) k) k - 1) (nI 2))).1 29) k (nI 0))) 36 (upd ((gd_rI (gd_rI w3 29 (upd (w3.1 29) (gs_i (gs_un2 (gs_s1 S) k) k - 1) (nI 2))) 29 (upd ((gd_rI w3 29 (upd (w3.1 29) (gs_i (gs_un2 (gs_s1 S) k) k - 1) (nI 2))).1 29) k (nI 0))).1 36) k (nI 0))).1 27 0 = w.1 27 0 := (congrFun (hu3.1 27 (by decide)) 0).trans hc2
              generalize gd_rI (gd_rI (gd_rI w3 29 (upd (w3.1 29) (gs_i (gs_un2 (gs_s1 S) k) k - 1) (nI 2))) 29 (upd ((gd_rI w3 29 (upd (w3.1 29) (gs_i (gs_un2 (gs_s1 S) k) k - 1) (nI 2))).1 29) k (nI 0))) 36 (upd ((gd_rI (gd_rI w3 29 (upd (w3.1 29) (gs_i (gs_un2 (gs_s1 S) k) k - 1) (nI 2))) 29 (upd ((gd_rI w3 29 (upd (w3.1 29) (gs_i (gs_un2 (gs_s1 S) k) k - 1) (nI 2))).1 29) k (nI 0))).1 36) k (nI 0)) = w5 at hx4 hf4 hc4 ⊢
              refine gd_r E K 2 (pc' := 111) (lv' := [(0, .ref 27), (1, .int 0), (2, .int ((nI k) + 1))]) (st' := []) (w' := w5) rfl ?_
              exact gd_cg (ih (k + 1) w5 (by omega) (by rw [gs_un2, if_pos ⟨h0, h1, h2⟩]; exact hx4) hf4 hc4) (by rw [nI_1]) rfl rfl
            · refine gd_r E K 1 (pc' := if (nI (gs_l (gs_un2 (gs_s1 S) k) k)) = 0 then 145 else 158) (lv' := [(0, .ref 27), (1, .int 0), (2, .int (nI k))]) (st' := []) (w' := w2) rfl ?_
              refine gd_if (nI_ne0 (by omega) (by omega)) ?_
              refine gd_r E K 2 (pc' := 111) (lv' := [(0, .ref 27), (1, .int 0), (2, .int ((nI k) + 1))]) (st' := []) (w' := w2) rfl ?_
              exact gd_cg (ih (k + 1) w2 (by omega) (by rw [gs_un2, if_neg (fun z => h2 z.2.2)]; exact hx) hf2 hc2) (by rw [nI_1]) rfl rfl
  have moves : ∀ j d w1, d + j = gs_made S → gs_i1 (gs_tm S (gs_time S + 1)) G w0 w1 d → gd_G p l e (gd_rm 2 44) s m args below meth c D tC ad (gd_A ad 45 s.heap.size) 45 4 0 0 (MQ below (gd_Qp D tC ad 45 s.heap.size (fun r w' => r = some (.int (nI (gs_stepn S))) ∧ (∃ G', gr_M w' (gs_step S) G') ∧ gf_m w w' ∧ w'.1 27 0 = w.1 27 0)) args s 0 0 (gd_A ad 45 s.heap.size)) 14 [(0, .ref 27), (1, .int 0), (2, .int (nI d))] [] w1 := by
    intro j
    induction j with
    | zero =>
        intro d w1 hd hi
        have hm1 : w1.1 27 3 = nI (gs_made S) := by rw [hi.1 27 (by decide) (by decide)]; exact hR0.1.1
        refine gd_r E K 3 (pc' := 19) (lv' := [(0, .ref 27), (1, .int 0), (2, .int (nI d))]) (st' := [.int (w1.1 27 3), .int (nI d)]) (w' := w1) rfl ?_
        refine gd_cg (lv' := [(0, .ref 27), (1, .int 0), (2, .int (nI d))]) (st' := [.int (nI (gs_made S)), .int (nI d)]) (w' := w1) ?_ (rfl) (by simp only [hm1]) rfl
        refine gd_r E K 1 (pc' := if (nI (gs_made S)) ≤ (nI d) then 109 else 22) (lv' := [(0, .ref 27), (1, .int 0), (2, .int (nI d))]) (st' := []) (w' := w1) rfl ?_
        refine gd_it (nI_le (by omega) (by omega)) ?_
        refine gd_r E K 2 (pc' := 111) (lv' := [(0, .ref 27), (1, .int 0), (2, .int 0)]) (st' := []) (w' := w1) rfl ?_
        have hdm : d = gs_made S := by omega
        rw [hdm] at hi
        exact gd_cg (unites (gs_made S) 0 w1 (by omega) (gs_i1_end hR0 hv hi) (hf0.trans hi.m) ((congrFun (hi.1 27 (by decide) (by decide)) 0).trans hc0)) rfl rfl rfl
    | succ j ih =>
        intro d w1 hd hi
        have hm1 : w1.1 27 3 = nI (gs_made S) := by rw [hi.1 27 (by decide) (by decide)]; exact hR0.1.1
        have hu1 : w1.1 29 d = nI (gs_u S d) := by rw [hi.1 29 (by decide) (by decide)]; exact (hR0.2.1 d (by omega)).1
        have hu2 : gs_u S d ≤ 2 := (hR0.2.1 d (by omega)).2
        obtain ⟨g1, g2, g3⟩ := hR0.2.2.2.1 d (by omega)
        have hG : w1.1 35 d = nI (G d) := by rw [hi.2.2.2 d (by omega), gs_advG, if_neg (fun z => by omega)]
        have hL : w1.1 34 d = nI (G d + gs_l S d) := by rw [hi.1 34 (by decide) (by decide)]; exact g1
        have hC : w1.1 30 d = nI (gs_c S d) := (hi.2.2.1 d (by omega)).trans (by rw [gs_advX, if_neg (fun z => by omega)]; rfl)
        have hc64 : gs_c S d < 64 := (hR0.2.2.1 d (by omega)).2
        have g3 : G d + gs_l S d ≤ 60 := g3
        refine gd_r E K 3 (pc' := 19) (lv' := [(0, .ref 27), (1, .int 0), (2, .int (nI d))]) (st' := [.int (w1.1 27 3), .int (nI d)]) (w' := w1) rfl ?_
        refine gd_cg (lv' := [(0, .ref 27), (1, .int 0), (2, .int (nI d))]) (st' := [.int (nI (gs_made S)), .int (nI d)]) (w' := w1) ?_ (rfl) (by simp only [hm1]) rfl
        refine gd_r E K 1 (pc' := if (nI (gs_made S)) ≤ (nI d) then 109 else 22) (lv' := [(0, .ref 27), (1, .int 0), (2, .int (nI d))]) (st' := []) (w' := w1) rfl ?_
        refine gd_if (nI_ge (by omega) (by omega)) ?_
        refine gd_r E K 3 (pc' := 27) (lv' := [(0, .ref 27), (1, .int 0), (2, .int (nI d))]) (st' := [.int (nI d), .ref 29]) (w' := w1) rfl ?_
        refine gd_ialdv E (K.1 27 (.iaload, 0) rfl).1 (j := d) (by decide) (rfl) (rfl) (by omega) (by decide) (v := nI (gs_u S d)) (hu1) ?_
        rcases Nat.eq_zero_or_pos (gs_u S d) with h0 | h0
        · refine gd_r E K 1 (pc' := if (nI (gs_u S d)) ≤ 0 then 103 else 31) (lv' := [(0, .ref 27), (1, .int 0), (2, .int (nI d))]) (st' := []) (w' := w1) rfl ?_
          refine gd_it ((gd_le0 (by omega)).mpr h0) ?_
          refine gd_r E K 2 (pc' := 14) (lv' := [(0, .ref 27), (1, .int 0), (2, .int ((nI d) + 1))]) (st' := []) (w' := w1) rfl ?_
          exact gd_cg (ih (d + 1) w1 (by omega) (gs_i1_skip hi (fun z => absurd z.1 (by show ¬ 0 < gs_u S d; omega)))) (by rw [nI_1]) rfl rfl
        · refine gd_r E K 1 (pc' := if (nI (gs_u S d)) ≤ 0 then 103 else 31) (lv' := [(0, .ref 27), (1, .int 0), (2, .int (nI d))]) (st' := []) (w' := w1) rfl ?_
          refine gd_if (fun q => absurd ((gd_le0 (by omega)).mp q) (by omega)) ?_
          refine gd_r E K 2 (pc' := 33) (lv' := [(0, .ref 27), (1, .int 0), (2, .int (nI d))]) (st' := [.int (nI d), .ref 27]) (w' := w1) rfl ?_
          refine gd_cV E hA (av := [.int (nI d)]) (rest := []) (c2_left2 hinj w1 d (G d) (gs_l S d) (by omega) hL hG) (K.1 33 (.invokevirtual 75, 0) rfl).1 ml_M_75 cv_M_left (by decide) (rfl) ⟨Nat.le_of_ble_eq_true rfl, Nat.le_of_ble_eq_true rfl⟩ ⟨Nat.zero_le _, Nat.zero_le _⟩ rfl (Nat.le_of_ble_eq_true rfl) ?_
          rcases Nat.eq_zero_or_pos (gs_l S d) with h1 | h1
          · refine gd_r E K 1 (pc' := if (nI (gs_l S d)) ≤ 0 then 103 else 39) (lv' := [(0, .ref 27), (1, .int 0), (2, .int (nI d))]) (st' := []) (w' := w1) rfl ?_
            refine gd_it ((gd_le0 (by omega)).mpr h1) ?_
            refine gd_r E K 2 (pc' := 14) (lv' := [(0, .ref 27), (1, .int 0), (2, .int ((nI d) + 1))]) (st' := []) (w' := w1) rfl ?_
            exact gd_cg (ih (d + 1) w1 (by omega) (gs_i1_skip hi (fun z => absurd z.2 (by show ¬ 0 < gs_l S d; omega)))) (by rw [nI_1]) rfl rfl
          · refine gd_r E K 1 (pc' := if (nI (gs_l S d)) ≤ 0 then 103 else 39) (lv' := [(0, .ref 27), (1, .int 0), (2, .int (nI d))]) (st' := []) (w' := w1) rfl ?_
            refine gd_if (fun q => absurd ((gd_le0 (by omega)).mp q) (by omega)) ?_
            refine gd_r E K 3 (pc' := 44) (lv' := [(0, .ref 27), (1, .int 0), (2, .int (nI d))]) (st' := [.int (nI d), .ref 30]) (w' := w1) rfl ?_
            refine gd_ialdv E (K.1 44 (.iaload, 0) rfl).1 (j := d) (by decide) (rfl) (rfl) (by omega) (by decide) (v := nI (gs_c S d)) (hC) ?_
            refine gd_r E K 8 (pc' := 58) (lv' := [(0, .ref 27), (1, .int 0), (2, .int (nI d))]) (st' := [.int (nI d), .ref 35, .int (60 * (nI d)), .ref 33, .int (nI (gs_c S d))]) (w' := w1) rfl ?_
            refine gd_ialdv E (K.1 58 (.iaload, 0) rfl).1 (j := d) (by decide) (rfl) (rfl) (by omega) (by decide) (v := nI (G d)) (hG) ?_
            refine gd_r E K 1 (pc' := 60) (lv' := [(0, .ref 27), (1, .int 0), (2, .int (nI d))]) (st' := [.int ((60 * (nI d)) + (nI (G d))), .ref 33, .int (nI (gs_c S d))]) (w' := w1) rfl ?_
            have hro := hR0.2.2.2.2.1 d (by omega) 0 h1
            have hro5 : gs_m S d 0 < 5 := hro.2
            refine gd_ialdv E (K.1 60 (.iaload, 0) rfl).1 (j := 60 * d + G d + 0) (by decide) (rfl) (by rw [show (60 : Int32) = nI 60 from rfl, pk_mul, nI_add]; rfl) (by omega) (by decide) (v := nI (gs_m S d 0)) (by rw [hi.1 33 (by decide) (by decide)]; exact hro.1) ?_
            refine gd_cS E hA (av := [.int (nI (gs_c S d)), .int (nI (gs_m S d 0))]) (rest := []) (c2_moved hinj (gs_c S d) (gs_m S d 0) hc64 hro5 w1) (K.1 61 (.invokestatic 82, 0) rfl).1 ml_M_82 cv_M_moved ⟨Nat.le_of_ble_eq_true rfl, Nat.le_of_ble_eq_true rfl⟩ ⟨Nat.zero_le _, Nat.zero_le _⟩ rfl (Nat.le_of_ble_eq_true rfl) ?_
            obtain ⟨t0, ht0, hw0⟩ := hv d ⟨by omega, h0⟩ 1 (by omega)
            have hmv : gm_mv (gs_c S d) (gs_m S d 0) = some t0 := hw0
            rw [hmv]
            refine gd_cg (lv' := [(0, .ref 27), (1, .int 0), (2, .int (nI d))]) (st' := [.int (nI t0)]) (w' := w1) ?_ (rfl) (rfl) (rfl)
            refine gd_r E K 8 (pc' := 76) (lv' := [(0, .ref 27), (1, .int 0), (2, .int (nI d)), (3, .int (nI t0))]) (st' := [.int (nI d), .ref 30, .int (nI t0), .int (nI d), .ref 30]) (w' := w1) rfl ?_
            refine gd_ialdv E (K.1 76 (.iaload, 0) rfl).1 (j := d) (by decide) (rfl) (rfl) (by omega) (by decide) (v := nI (gs_c S d)) (hC) ?_
            have hadv : gs_advX S (d + 1) d = if t0 ≠ gs_c S d then t0 + 64 else gs_c S d := by
              rw [gs_advX, hmv]
              by_cases e9 : t0 = gs_c S d
              · rw [if_neg (fun z => z.2 e9), if_neg (fun z => z e9)]
              · rw [if_pos ⟨⟨by omega, h0, h1⟩, e9⟩, if_pos e9]; rfl
            by_cases e9 : t0 = gs_c S d
            · refine gd_r E K 1 (pc' := if (nI t0) = (nI (gs_c S d)) then 80 else 84) (lv' := [(0, .ref 27), (1, .int 0), (2, .int (nI d)), (3, .int (nI t0))]) (st' := [.int (nI d), .ref 30]) (w' := w1) rfl ?_
              refine gd_it (by rw [e9]) ?_
              refine gd_r E K 2 (pc' := 88) (lv' := [(0, .ref 27), (1, .int 0), (2, .int (nI d)), (3, .int (nI t0))]) (st' := [.int (nI t0), .int (nI d), .ref 30]) (w' := w1) rfl ?_
              refine gd_iast E (K.1 88 (.iastore, 0) rfl).1 (j := d) (by decide) (rfl) (rfl) (by omega) (by decide) ?_
              refine gd_r E K 6 (pc' := 99) (lv' := [(0, .ref 27), (1, .int 0), (2, .int (nI d)), (3, .int (nI t0))]) (st' := [.int (nI d), .ref 35, .int (nI d), .ref 35]) (w' := gd_rI w1 30 (upd (w1.1 30) d (nI t0))) rfl ?_
              refine gd_ialdv E (K.1 99 (.iaload, 0) rfl).1 (j := d) (by decide) (rfl) (rfl) (by omega) (by decide) (v := nI (G d)) (by rw [gd_rI_n (by decide)]; exact hG) ?_
              refine gd_r E K 2 (pc' := 102) (lv' := [(0, .ref 27), (1, .int 0), (2, .int (nI d)), (3, .int (nI t0))]) (st' := [.int ((nI (G d)) + 1), .int (nI d), .ref 35]) (w' := gd_rI w1 30 (upd (w1.1 30) d (nI t0))) rfl ?_
              refine gd_iast E (K.1 102 (.iastore, 0) rfl).1 (j := d) (by decide) (rfl) (rfl) (by omega) (by decide) ?_
              refine gd_r E K 2 (pc' := 14) (lv' := [(0, .ref 27), (1, .int 0), (2, .int ((nI d) + 1)), (3, .int (nI t0))]) (st' := []) (w' := gd_rI (gd_rI w1 30 (upd (w1.1 30) d (nI t0))) 35 (upd ((gd_rI w1 30 (upd (w1.1 30) d (nI t0))).1 35) d ((nI (G d)) + 1))) rfl ?_
              refine gd_lvp [0, 1, 2] (lv' := [(0, .ref 27), (1, .int 0), (2, .int ((nI d) + 1))]) rfl ?_
              exact gd_cg (ih (d + 1) _ (by omega) (gs_i1_move hi ⟨h0, h1⟩ (by show _ = nI (gs_advX S (d + 1) d); rw [hadv, if_neg (fun z => z e9), e9]))) (by rw [nI_1]) rfl rfl
            · refine gd_r E K 1 (pc' := if (nI t0) = (nI (gs_c S d)) then 80 else 84) (lv' := [(0, .ref 27), (1, .int 0), (2, .int (nI d)), (3, .int (nI t0))]) (st' := [.int (nI d), .ref 30]) (w' := w1) rfl ?_
              refine gd_if (by rw [nI_eq (by omega) (by omega)]; exact e9) ?_
              refine gd_r E K 3 (pc' := 88) (lv' := [(0, .ref 27), (1, .int 0), (2, .int (nI d)), (3, .int (nI t0))]) (st' := [.int ((nI t0) + 64), .int (nI d), .ref 30]) (w' := w1) rfl ?_
              refine gd_iast E (K.1 88 (.iastore, 0) rfl).1 (j := d) (by decide) (rfl) (rfl) (by omega) (by decide) ?_
              refine gd_r E K 6 (pc' := 99) (lv' := [(0, .ref 27), (1, .int 0), (2, .int (nI d)), (3, .int (nI t0))]) (st' := [.int (nI d), .ref 35, .int (nI d), .ref 35]) (w' := gd_rI w1 30 (upd (w1.1 30) d ((nI t0) + 64))) rfl ?_
              refine gd_ialdv E (K.1 99 (.iaload, 0) rfl).1 (j := d) (by decide) (rfl) (rfl) (by omega) (by decide) (v := nI (G d)) (by rw [gd_rI_n (by decide)]; exact hG) ?_
              refine gd_r E K 2 (pc' := 102) (lv' := [(0, .ref 27), (1, .int 0), (2, .int (nI d)), (3, .int (nI t0))]) (st' := [.int ((nI (G d)) + 1), .int (nI d), .ref 35]) (w' := gd_rI w1 30 (upd (w1.1 30) d ((nI t0) + 64))) rfl ?_
              refine gd_iast E (K.1 102 (.iastore, 0) rfl).1 (j := d) (by decide) (rfl) (rfl) (by omega) (by decide) ?_
              refine gd_r E K 2 (pc' := 14) (lv' := [(0, .ref 27), (1, .int 0), (2, .int ((nI d) + 1)), (3, .int (nI t0))]) (st' := []) (w' := gd_rI (gd_rI w1 30 (upd (w1.1 30) d ((nI t0) + 64))) 35 (upd ((gd_rI w1 30 (upd (w1.1 30) d ((nI t0) + 64))).1 35) d ((nI (G d)) + 1))) rfl ?_
              refine gd_lvp [0, 1, 2] (lv' := [(0, .ref 27), (1, .int 0), (2, .int ((nI d) + 1))]) rfl ?_
              exact gd_cg (ih (d + 1) _ (by omega) (gs_i1_move hi ⟨h0, h1⟩ (by show _ = nI (gs_advX S (d + 1) d); rw [hadv, if_pos e9, show (64 : Int32) = nI 64 from rfl, nI_add]))) (by rw [nI_1]) rfl rfl
  have ht := hR.2.2.2.2.2.2.2.2.2.1
  refine gd_r E K 4 (pc' := 6) (lv' := [(0, .ref 27)]) (st' := [.int 1, .int (w.1 27 1), .ref 27]) (w' := w) rfl ?_
  refine gd_cg (lv' := [(0, .ref 27)]) (st' := [.int 1, .int (gs_time S), .ref 27]) (w' := w) ?_ (rfl) (by simp only [ht]) rfl
  refine gd_r E K 6 (pc' := 14) (lv' := [(0, .ref 27), (1, .int 0), (2, .int 0)]) (st' := []) (w' := gd_rI w 27 (upd (w.1 27) 1 ((gs_time S) + 1))) rfl ?_
  rw [hw0]
  exact gd_cg (moves (gs_made S) 0 w0 (by omega) (gs_i1_0 hR0)) rfl rfl rfl
