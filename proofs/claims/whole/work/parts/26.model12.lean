/-- powers of two, as the reference makes them -/
def gs_pw : Nat → Int64
  | 0 => 1
  | n + 1 => gs_pw n * 2
def gs_ev (x : Int64) : Bool := decide (x - x / 2 * 2 = 0)
def gs_all (f : Nat → Int64) : Nat → Bool
  | 0 => true
  | k + 1 => gs_all f k && gs_ev (f k)
/-- the lowest terms -/
def gs_nrm : Nat → (Nat → Int64) → Nat × (Nat → Int64)
  | 0, f => (0, f)
  | p + 1, f => if gs_all f 4 then gs_nrm p (fun k => f k / 2) else (p + 1, f)
def gs_ui (w w1 : gd_W) (e p : Nat) (f : Nat → Int64) : Prop := (∀ a, a ≠ 32 → w1.1 a = w.1 a) ∧ w1.1 32 = upd (w.1 32) e (nI p) ∧ (∀ a, a ≠ 31 → w1.2.1 a = w.2.1 a) ∧ w1.2.2 = w.2.2 ∧ (∀ k, k < 4 → w1.2.1 31 (4 * e + k) = f k) ∧ ∀ j, (j < 4 * e ∨ 4 * e + 4 ≤ j) → w1.2.1 31 j = w.2.1 31 j
theorem gs_ui_set {w w1 : gd_W} {e p : Nat} {f : Nat → Int64} (h : gs_ui w w1 e p f) {k : Nat} (hk : k < 4) (v : Int64) : gs_ui w (gd_rL w1 31 (vp_updL (w1.2.1 31) (4 * e + k) v)) e p (fun i => if i = k then v else f i) := by
  obtain ⟨h1, h2, h3, h4, h5, h6⟩ := h
  refine ⟨h1, h2, fun a ha => by rw [gd_rL_n ha]; exact h3 a ha, h4, fun i hi => ?_, fun j hj => ?_⟩
  · rw [gd_rL_s]
    by_cases e0 : i = k
    · subst e0; rw [gd_ul_s]; simp
    · rw [gd_ul_n (by omega), h5 i hi]; simp [e0]
  · rw [gd_rL_s, gd_ul_n (by omega)]; exact h6 j hj
theorem gs_ui_pow {w w1 : gd_W} {e p : Nat} {f : Nat → Int64} (h : gs_ui w w1 e p f) (q : Nat) : gs_ui w (gd_rI w1 32 (upd (w1.1 32) e (nI q))) e q f := by
  obtain ⟨h1, h2, h3, h4, h5, h6⟩ := h
  refine ⟨fun a ha => by rw [gd_rI_n ha]; exact h1 a ha, ?_, h3, h4, h5, h6⟩
  rw [gd_rI_s, h2]
  funext j
  by_cases e0 : j = e
  · subst e0; rw [gd_u_s, gd_u_s]
  · rw [gd_u_n e0, gd_u_n e0, gd_u_n e0]
theorem gs_ui_ext {w w1 : gd_W} {e p : Nat} {f g : Nat → Int64} (h : gs_ui w w1 e p f) (hg : ∀ k, k < 4 → f k = g k) : gs_ui w w1 e p g := ⟨h.1, h.2.1, h.2.2.1, h.2.2.2.1, fun k hk => (h.2.2.2.2.1 k hk).trans (hg k hk), h.2.2.2.2.2⟩
/-- the first k by f, the others by g -/
def gs_mix (f g : Nat → Int64) (k : Nat) : Nat → Int64 := fun i => if i < k then f i else g i
theorem gs_ui_mix {w w1 : gd_W} {e p : Nat} {f g : Nat → Int64} {k : Nat} (h : gs_ui w w1 e p (gs_mix f g k)) (hk : k < 4) {v : Int64} (hv : v = f k) : gs_ui w (gd_rL w1 31 (vp_updL (w1.2.1 31) (4 * e + k) v)) e p (gs_mix f g (k + 1)) := by
  refine gs_ui_ext (gs_ui_set h hk v) fun i hi => ?_
  unfold gs_mix
  by_cases e0 : i = k
  · subst e0; rw [if_pos rfl, if_pos (by omega), hv]
  · rw [if_neg e0]
    by_cases e1 : i < k
    · rw [if_pos e1, if_pos (by omega)]
    · rw [if_neg e1, if_neg (by omega)]
theorem gs_ui_full {w w1 : gd_W} {e p : Nat} {f g : Nat → Int64} {k : Nat} (h : gs_ui w w1 e p (gs_mix f g k)) (hk : 4 ≤ k) : gs_ui w w1 e p f := gs_ui_ext h fun i hi => by rw [gs_mix, if_pos (by omega)]
theorem gs_all_s (f : Nat → Int64) (k : Nat) : gs_all f (k + 1) = (gs_all f k && gs_ev (f k)) := rfl
set_option maxHeartbeats 4000000 in
set_option maxRecDepth 100000 in
theorem c2_Munite {l : Launch} {D : va_G} {tC : FieldType → ClassId} {ad : Nat → Nat} (hinj : ∀ i j, ad i = ad j → i = j) (w : gd_W) (d e1 : Nat) (hd : d < 60) (he : e1 < 60) (hde : d ≠ e1) (pd pe : Nat) (hpd : pd ≤ 60) (hpe : pe ≤ 60) (fd fe : Nat → Int64) (h1 : w.1 32 d = nI pd) (h2 : w.1 32 e1 = nI pe) (h3 : ∀ k, k < 4 → w.2.1 31 (4 * d + k) = fd k) (h4 : ∀ k, k < 4 → w.2.1 31 (4 * e1 + k) = fe k) : gd_Cp l D tC ad 45 0 0 y_M_unite c_M_unite 9 none [.ref 27, .int (nI d), .int (nI e1)] w (fun r w' => r = none ∧ ∃ w1, gs_ui w w1 e1 (gs_nrm (max pd pe + 1) (fun k => fd k * gs_pw (pe - pd) + fe k * gs_pw (pd - pe))).1 (gs_nrm (max pd pe + 1) (fun k => fd k * gs_pw (pe - pd) + fe k * gs_pw (pd - pe))).2 ∧ w' = gd_rI (gd_rI (gd_rI w1 29 (upd (w1.1 29) e1 (nI 2))) 29 (upd ((gd_rI w1 29 (upd (w1.1 29) e1 (nI 2))).1 29) d (nI 0))) 36 (upd ((gd_rI (gd_rI w1 29 (upd (w1.1 29) e1 (nI 2))) 29 (upd ((gd_rI w1 29 (upd (w1.1 29) e1 (nI 2))).1 29) d (nI 0))).1 36) d (nI 0))) := by
  refine gd_Cp_of rfl hinj (Nat.le_of_ble_eq_true rfl) ?_
  intro p e s m args below meth c E hr hlk
  have K := k_M_unite
  have hA : ∀ q, gd_A ad 45 s.heap.size q → gd_A ad 45 s.heap.size q := fun _ h => h
  generalize hF : (fun k => fd k * gs_pw (pe - pd) + fe k * gs_pw (pd - pe)) = f0
  have low : ∀ q f w1, gs_nrm q f = gs_nrm (max pd pe + 1) f0 → q ≤ 61 → gs_ui w w1 e1 q f → gd_G p l e (gd_rm 0 0) s m args below meth c D tC ad (gd_A ad 45 s.heap.size) 45 9 0 0 (MQ below (gd_Qp D tC ad 45 s.heap.size (fun r w' => r = none ∧ ∃ w1, gs_ui w w1 e1 (gs_nrm (max pd pe + 1) (f0)).1 (gs_nrm (max pd pe + 1) (f0)).2 ∧ w' = gd_rI (gd_rI (gd_rI w1 29 (upd (w1.1 29) e1 (nI 2))) 29 (upd ((gd_rI w1 29 (upd (w1.1 29) e1 (nI 2))).1 29) d (nI 0))) 36 (upd ((gd_rI (gd_rI w1 29 (upd (w1.1 29) e1 (nI 2))) 29 (upd ((gd_rI w1 29 (upd (w1.1 29) e1 (nI 2))).1 29) d (nI 0))).1 36) d (nI 0)))) args s 0 0 (gd_A ad 45 s.heap.size)) 196 [(0, .ref 27), (1, .int (nI d)), (2, .int (nI e1)), (3, .long (gs_pw (pe - pd))), (5, .long (gs_pw (pd - pe))), (7, .int (gs_b (gs_all f 4)))] [] w1 := by
    intro q
    induction q with
    | zero =>
        intro f w1 hn hq hu
        refine gd_r E K 1 (pc' := 198) (lv' := [(0, .ref 27), (1, .int (nI d)), (2, .int (nI e1)), (3, .long (gs_pw (pe - pd))), (5, .long (gs_pw (pd - pe))), (7, .int (gs_b (gs_all f 4)))]) (st' := [.int (gs_b (gs_all f 4))]) (w' := w1) rfl ?_
        cases hb : gs_all f 4 with
        | true =>
          refine gd_r E K 1 (pc' := if (gs_b (true)) = 0 then 315 else 201) (lv' := [(0, .ref 27), (1, .int (nI d)), (2, .int (nI e1)), (3, .long (gs_pw (pe - pd))), (5, .long (gs_pw (pd - pe))), (7, .int (gs_b (true)))]) (st' := []) (w' := w1) rfl ?_
          refine gd_if (by decide) ?_
          refine gd_r E K 3 (pc' := 206) (lv' := [(0, .ref 27), (1, .int (nI d)), (2, .int (nI e1)), (3, .long (gs_pw (pe - pd))), (5, .long (gs_pw (pd - pe))), (7, .int (gs_b (true)))]) (st' := [.int (nI e1), .ref 32]) (w' := w1) rfl ?_
          refine gd_ialdv E (K.1 206 (.iaload, 0) rfl).1 (j := e1) (by decide) (rfl) (rfl) (he) (by decide) (v := nI 0) (by rw [hu.2.1, gd_u_s]) ?_
          refine gd_r E K 1 (pc' := if (nI 0) ≤ 0 then 315 else 210) (lv' := [(0, .ref 27), (1, .int (nI d)), (2, .int (nI e1)), (3, .long (gs_pw (pe - pd))), (5, .long (gs_pw (pd - pe))), (7, .int (gs_b (true)))]) (st' := []) (w' := w1) rfl ?_
          refine gd_it (by decide) ?_
          refine gd_r E K 4 (pc' := 321) (lv' := [(0, .ref 27), (1, .int (nI d)), (2, .int (nI e1)), (3, .long (gs_pw (pe - pd))), (5, .long (gs_pw (pd - pe))), (7, .int (gs_b (true)))]) (st' := [.int 2, .int (nI e1), .ref 29]) (w' := w1) rfl ?_
          refine gd_iast E (K.1 321 (.iastore, 0) rfl).1 (j := e1) (by decide) (rfl) (rfl) (he) (by decide) ?_
          refine gd_r E K 4 (pc' := 328) (lv' := [(0, .ref 27), (1, .int (nI d)), (2, .int (nI e1)), (3, .long (gs_pw (pe - pd))), (5, .long (gs_pw (pd - pe))), (7, .int (gs_b (true)))]) (st' := [.int 0, .int (nI d), .ref 29]) (w' := gd_rI w1 29 (upd (w1.1 29) e1 2)) rfl ?_
          refine gd_iast E (K.1 328 (.iastore, 0) rfl).1 (j := d) (by decide) (rfl) (rfl) (hd) (by decide) ?_
          refine gd_r E K 4 (pc' := 335) (lv' := [(0, .ref 27), (1, .int (nI d)), (2, .int (nI e1)), (3, .long (gs_pw (pe - pd))), (5, .long (gs_pw (pd - pe))), (7, .int (gs_b (true)))]) (st' := [.int 0, .int (nI d), .ref 36]) (w' := gd_rI (gd_rI w1 29 (upd (w1.1 29) e1 2)) 29 (upd ((gd_rI w1 29 (upd (w1.1 29) e1 2)).1 29) d 0)) rfl ?_
          refine gd_iast E (K.1 335 (.iastore, 0) rfl).1 (j := d) (by decide) (rfl) (rfl) (hd) (by decide) ?_
          exact gd_vretp E hr hlk (K.1 336 (.return_, 0) rfl).1 (⟨rfl, w1, by rw [← hn, gs_nrm]; exact hu, rfl⟩)
        | false =>
          refine gd_r E K 1 (pc' := if (gs_b (false)) = 0 then 315 else 201) (lv' := [(0, .ref 27), (1, .int (nI d)), (2, .int (nI e1)), (3, .long (gs_pw (pe - pd))), (5, .long (gs_pw (pd - pe))), (7, .int (gs_b (false)))]) (st' := []) (w' := w1) rfl ?_
          refine gd_it (by decide) ?_
          refine gd_r E K 4 (pc' := 321) (lv' := [(0, .ref 27), (1, .int (nI d)), (2, .int (nI e1)), (3, .long (gs_pw (pe - pd))), (5, .long (gs_pw (pd - pe))), (7, .int (gs_b (false)))]) (st' := [.int 2, .int (nI e1), .ref 29]) (w' := w1) rfl ?_
          refine gd_iast E (K.1 321 (.iastore, 0) rfl).1 (j := e1) (by decide) (rfl) (rfl) (he) (by decide) ?_
          refine gd_r E K 4 (pc' := 328) (lv' := [(0, .ref 27), (1, .int (nI d)), (2, .int (nI e1)), (3, .long (gs_pw (pe - pd))), (5, .long (gs_pw (pd - pe))), (7, .int (gs_b (false)))]) (st' := [.int 0, .int (nI d), .ref 29]) (w' := gd_rI w1 29 (upd (w1.1 29) e1 2)) rfl ?_
          refine gd_iast E (K.1 328 (.iastore, 0) rfl).1 (j := d) (by decide) (rfl) (rfl) (hd) (by decide) ?_
          refine gd_r E K 4 (pc' := 335) (lv' := [(0, .ref 27), (1, .int (nI d)), (2, .int (nI e1)), (3, .long (gs_pw (pe - pd))), (5, .long (gs_pw (pd - pe))), (7, .int (gs_b (false)))]) (st' := [.int 0, .int (nI d), .ref 36]) (w' := gd_rI (gd_rI w1 29 (upd (w1.1 29) e1 2)) 29 (upd ((gd_rI w1 29 (upd (w1.1 29) e1 2)).1 29) d 0)) rfl ?_
          refine gd_iast E (K.1 335 (.iastore, 0) rfl).1 (j := d) (by decide) (rfl) (rfl) (hd) (by decide) ?_
          exact gd_vretp E hr hlk (K.1 336 (.return_, 0) rfl).1 (⟨rfl, w1, by rw [← hn, gs_nrm]; exact hu, rfl⟩)
    | succ q ih =>
        intro f w1 hn hq hu
        refine gd_r E K 1 (pc' := 198) (lv' := [(0, .ref 27), (1, .int (nI d)), (2, .int (nI e1)), (3, .long (gs_pw (pe - pd))), (5, .long (gs_pw (pd - pe))), (7, .int (gs_b (gs_all f 4)))]) (st' := [.int (gs_b (gs_all f 4))]) (w' := w1) rfl ?_
        cases hb : gs_all f 4 with
        | true =>
          refine gd_r E K 1 (pc' := if (gs_b (true)) = 0 then 315 else 201) (lv' := [(0, .ref 27), (1, .int (nI d)), (2, .int (nI e1)), (3, .long (gs_pw (pe - pd))), (5, .long (gs_pw (pd - pe))), (7, .int (gs_b (true)))]) (st' := []) (w' := w1) rfl ?_
          refine gd_if (by decide) ?_
          refine gd_r E K 3 (pc' := 206) (lv' := [(0, .ref 27), (1, .int (nI d)), (2, .int (nI e1)), (3, .long (gs_pw (pe - pd))), (5, .long (gs_pw (pd - pe))), (7, .int (gs_b (true)))]) (st' := [.int (nI e1), .ref 32]) (w' := w1) rfl ?_
          refine gd_ialdv E (K.1 206 (.iaload, 0) rfl).1 (j := e1) (by decide) (rfl) (rfl) (he) (by decide) (v := nI (q + 1)) (by rw [hu.2.1, gd_u_s]) ?_
          refine gd_r E K 1 (pc' := if (nI (q + 1)) ≤ 0 then 315 else 210) (lv' := [(0, .ref 27), (1, .int (nI d)), (2, .int (nI e1)), (3, .long (gs_pw (pe - pd))), (5, .long (gs_pw (pd - pe))), (7, .int (gs_b (true)))]) (st' := []) (w' := w1) rfl ?_
          refine gd_if (nI_nle (by omega) (by omega)) ?_
          refine gd_r E K 6 (pc' := 220) (lv' := [(0, .ref 27), (1, .int (nI d)), (2, .int (nI e1)), (3, .long (gs_pw (pe - pd))), (5, .long (gs_pw (pd - pe))), (7, .int (gs_b (true)))]) (st' := [.int (nI e1), .ref 32, .int (nI e1), .ref 32]) (w' := w1) rfl ?_
          refine gd_ialdv E (K.1 220 (.iaload, 0) rfl).1 (j := e1) (by decide) (rfl) (rfl) (he) (by decide) (v := nI (q + 1)) (by rw [hu.2.1, gd_u_s]) ?_
          refine gd_r E K 2 (pc' := 223) (lv' := [(0, .ref 27), (1, .int (nI d)), (2, .int (nI e1)), (3, .long (gs_pw (pe - pd))), (5, .long (gs_pw (pd - pe))), (7, .int (gs_b (true)))]) (st' := [.int ((nI (q + 1)) - 1), .int (nI e1), .ref 32]) (w' := w1) rfl ?_
          refine gd_cg (lv' := [(0, .ref 27), (1, .int (nI d)), (2, .int (nI e1)), (3, .long (gs_pw (pe - pd))), (5, .long (gs_pw (pd - pe))), (7, .int (gs_b (true)))]) (st' := [.int (nI q), .int (nI e1), .ref 32]) (w' := w1) ?_ (rfl) (by rw [nI_pred]) (rfl)
          refine gd_iast E (K.1 223 (.iastore, 0) rfl).1 (j := e1) (by decide) (rfl) (rfl) (he) (by decide) ?_
          have hu2 := gs_ui_pow hu q
          generalize gd_rI w1 32 (upd (w1.1 32) e1 (nI q)) = w2 at hu2 ⊢
          refine gd_r E K 2 (pc' := 227) (lv' := [(0, .ref 27), (1, .int (nI d)), (2, .int (nI e1)), (3, .long (gs_pw (pe - pd))), (5, .long (gs_pw (pd - pe))), (7, .int (gs_b (true))), (8, .int 0)]) (st' := []) (w' := w2) rfl ?_
          refine gd_cg (lv' := [(0, .ref 27), (1, .int (nI d)), (2, .int (nI e1)), (3, .long (gs_pw (pe - pd))), (5, .long (gs_pw (pd - pe))), (7, .int (gs_b true)), (8, .int (nI 0))]) (st' := []) (w' := w2) ?_ (rfl) (rfl) (rfl)
          have ev : ∀ j k w3, k + j = 4 → gs_ui w w3 e1 q (fun k => f k / 2) → gd_G p l e (gd_rm 0 0) s m args below meth c D tC ad (gd_A ad 45 s.heap.size) 45 9 0 0 (MQ below (gd_Qp D tC ad 45 s.heap.size (fun r w' => r = none ∧ ∃ w1, gs_ui w w1 e1 (gs_nrm (max pd pe + 1) (f0)).1 (gs_nrm (max pd pe + 1) (f0)).2 ∧ w' = gd_rI (gd_rI (gd_rI w1 29 (upd (w1.1 29) e1 (nI 2))) 29 (upd ((gd_rI w1 29 (upd (w1.1 29) e1 (nI 2))).1 29) d (nI 0))) 36 (upd ((gd_rI (gd_rI w1 29 (upd (w1.1 29) e1 (nI 2))) 29 (upd ((gd_rI w1 29 (upd (w1.1 29) e1 (nI 2))).1 29) d (nI 0))).1 36) d (nI 0)))) args s 0 0 (gd_A ad 45 s.heap.size)) 268 [(0, .ref 27), (1, .int (nI d)), (2, .int (nI e1)), (3, .long (gs_pw (pe - pd))), (5, .long (gs_pw (pd - pe))), (7, .int (gs_b (gs_all (fun k => f k / 2) k))), (8, .int (nI k))] [] w3 := by
            intro j
            induction j with
            | zero =>
              intro k w3 hk hu3
              refine gd_r E K 2 (pc' := 271) (lv' := [(0, .ref 27), (1, .int (nI d)), (2, .int (nI e1)), (3, .long (gs_pw (pe - pd))), (5, .long (gs_pw (pd - pe))), (7, .int (gs_b (gs_all (fun k => f k / 2) k))), (8, .int (nI k))]) (st' := [.int 4, .int (nI k)]) (w' := w3) rfl ?_
              refine gd_r E K 1 (pc' := if 4 ≤ (nI k) then 312 else 274) (lv' := [(0, .ref 27), (1, .int (nI d)), (2, .int (nI e1)), (3, .long (gs_pw (pe - pd))), (5, .long (gs_pw (pd - pe))), (7, .int (gs_b (gs_all (fun k => f k / 2) k))), (8, .int (nI k))]) (st' := []) (w' := w3) rfl ?_
              refine gd_it (nI_le (show 4 ≤ k by omega) (by omega)) ?_
              refine gd_r E K 1 (pc' := 196) (lv' := [(0, .ref 27), (1, .int (nI d)), (2, .int (nI e1)), (3, .long (gs_pw (pe - pd))), (5, .long (gs_pw (pd - pe))), (7, .int (gs_b (gs_all (fun k => f k / 2) k))), (8, .int (nI k))]) (st' := []) (w' := w3) rfl ?_
              refine gd_lvp [0, 1, 2, 3, 4, 5] (lv' := [(0, .ref 27), (1, .int (nI d)), (2, .int (nI e1)), (3, .long (gs_pw (pe - pd))), (5, .long (gs_pw (pd - pe))), (7, .int (gs_b (gs_all (fun k => f k / 2) k)))]) rfl ?_
              exact gd_cg (ih (fun k => f k / 2) w3 (by rw [← hn, gs_nrm, hb]; rfl) (by omega) hu3) (by rw [show k = 4 by omega]) rfl rfl
            | succ j ih2 =>
              intro k w3 hk hu3
              refine gd_r E K 2 (pc' := 271) (lv' := [(0, .ref 27), (1, .int (nI d)), (2, .int (nI e1)), (3, .long (gs_pw (pe - pd))), (5, .long (gs_pw (pd - pe))), (7, .int (gs_b (gs_all (fun k => f k / 2) k))), (8, .int (nI k))]) (st' := [.int 4, .int (nI k)]) (w' := w3) rfl ?_
              refine gd_r E K 1 (pc' := if 4 ≤ (nI k) then 312 else 274) (lv' := [(0, .ref 27), (1, .int (nI d)), (2, .int (nI e1)), (3, .long (gs_pw (pe - pd))), (5, .long (gs_pw (pd - pe))), (7, .int (gs_b (gs_all (fun k => f k / 2) k))), (8, .int (nI k))]) (st' := []) (w' := w3) rfl ?_
              refine gd_if (nI_ge (show k < 4 by omega) (by decide)) ?_
              refine gd_r E K 1 (pc' := 276) (lv' := [(0, .ref 27), (1, .int (nI d)), (2, .int (nI e1)), (3, .long (gs_pw (pe - pd))), (5, .long (gs_pw (pd - pe))), (7, .int (gs_b (gs_all (fun k => f k / 2) k))), (8, .int (nI k))]) (st' := [.int (gs_b (gs_all (fun k => f k / 2) k))]) (w' := w3) rfl ?_
              cases hx : gs_all (fun k => f k / 2) k with
              | true =>
                refine gd_r E K 1 (pc' := if (gs_b (true)) = 0 then 303 else 279) (lv' := [(0, .ref 27), (1, .int (nI d)), (2, .int (nI e1)), (3, .long (gs_pw (pe - pd))), (5, .long (gs_pw (pd - pe))), (7, .int (gs_b (true))), (8, .int (nI k))]) (st' := []) (w' := w3) rfl ?_
                refine gd_if (by decide) ?_
                refine gd_r E K 7 (pc' := 289) (lv' := [(0, .ref 27), (1, .int (nI d)), (2, .int (nI e1)), (3, .long (gs_pw (pe - pd))), (5, .long (gs_pw (pd - pe))), (7, .int (gs_b (true))), (8, .int (nI k))]) (st' := [.int ((4 * (nI e1)) + (nI k)), .ref 31]) (w' := w3) rfl ?_
                refine gd_laldv E (K.1 289 (.laload, 0) rfl).1 (j := 4 * e1 + k) (by decide) (rfl) (by show nI 4 * nI e1 + nI k = _; rw [pk_mul, nI_add]) (by omega) (by decide) (v := f k / 2) (hu3.2.2.2.2.1 k (by omega)) ?_
                refine gd_r E K 4 (pc' := 296) (lv' := [(0, .ref 27), (1, .int (nI d)), (2, .int (nI e1)), (3, .long (gs_pw (pe - pd))), (5, .long (gs_pw (pd - pe))), (7, .int (gs_b (true))), (8, .int (nI k))]) (st' := [.int (lg_cmp ((f k / 2) - (f k / 2) / 2 * 2) 0)]) (w' := w3) rfl ?_
                by_cases hev : f k / 2 - f k / 2 / 2 * 2 = 0
                · refine gd_r E K 1 (pc' := if (lg_cmp ((f k / 2) - (f k / 2) / 2 * 2) 0) = 0 then 299 else 303) (lv' := [(0, .ref 27), (1, .int (nI d)), (2, .int (nI e1)), (3, .long (gs_pw (pe - pd))), (5, .long (gs_pw (pd - pe))), (7, .int (gs_b (true))), (8, .int (nI k))]) (st' := []) (w' := w3) rfl ?_
                  refine gd_it ((lg_cmp_eq _ _).mpr hev) ?_
                  refine gd_r E K 5 (pc' := 268) (lv' := [(0, .ref 27), (1, .int (nI d)), (2, .int (nI e1)), (3, .long (gs_pw (pe - pd))), (5, .long (gs_pw (pd - pe))), (7, .int 1), (8, .int ((nI k) + 1))]) (st' := []) (w' := w3) rfl ?_
                  exact gd_cg (ih2 (k + 1) w3 (by omega) hu3) (by rw [gs_all_s, hx, show gs_ev (f k / 2) = true from decide_eq_true hev, nI_1]; rfl) rfl rfl
                · refine gd_r E K 1 (pc' := if (lg_cmp ((f k / 2) - (f k / 2) / 2 * 2) 0) = 0 then 299 else 303) (lv' := [(0, .ref 27), (1, .int (nI d)), (2, .int (nI e1)), (3, .long (gs_pw (pe - pd))), (5, .long (gs_pw (pd - pe))), (7, .int (gs_b (true))), (8, .int (nI k))]) (st' := []) (w' := w3) rfl ?_
                  refine gd_if (fun z => hev ((lg_cmp_eq _ _).mp z)) ?_
                  refine gd_r E K 4 (pc' := 268) (lv' := [(0, .ref 27), (1, .int (nI d)), (2, .int (nI e1)), (3, .long (gs_pw (pe - pd))), (5, .long (gs_pw (pd - pe))), (7, .int 0), (8, .int ((nI k) + 1))]) (st' := []) (w' := w3) rfl ?_
                  exact gd_cg (ih2 (k + 1) w3 (by omega) hu3) (by rw [gs_all_s, hx, show gs_ev (f k / 2) = false from decide_eq_false hev, nI_1]; rfl) rfl rfl
              | false =>
                refine gd_r E K 1 (pc' := if (gs_b (false)) = 0 then 303 else 279) (lv' := [(0, .ref 27), (1, .int (nI d)), (2, .int (nI e1)), (3, .long (gs_pw (pe - pd))), (5, .long (gs_pw (pd - pe))), (7, .int (gs_b (false))), (8, .int (nI k))]) (st' := []) (w' := w3) rfl ?_
                refine gd_it (by decide) ?_
                refine gd_r E K 4 (pc' := 268) (lv' := [(0, .ref 27), (1, .int (nI d)), (2, .int (nI e1)), (3, .long (gs_pw (pe - pd))), (5, .long (gs_pw (pd - pe))), (7, .int 0), (8, .int ((nI k) + 1))]) (st' := []) (w' := w3) rfl ?_
                exact gd_cg (ih2 (k + 1) w3 (by omega) hu3) (by rw [gs_all_s, hx, Bool.false_and, nI_1]; rfl) rfl rfl
          have half : ∀ j k w3, k + j = 4 → gs_ui w w3 e1 q (gs_mix (fun k => f k / 2) f k) → gd_G p l e (gd_rm 0 0) s m args below meth c D tC ad (gd_A ad 45 s.heap.size) 45 9 0 0 (MQ below (gd_Qp D tC ad 45 s.heap.size (fun r w' => r = none ∧ ∃ w1, gs_ui w w1 e1 (gs_nrm (max pd pe + 1) (f0)).1 (gs_nrm (max pd pe + 1) (f0)).2 ∧ w' = gd_rI (gd_rI (gd_rI w1 29 (upd (w1.1 29) e1 (nI 2))) 29 (upd ((gd_rI w1 29 (upd (w1.1 29) e1 (nI 2))).1 29) d (nI 0))) 36 (upd ((gd_rI (gd_rI w1 29 (upd (w1.1 29) e1 (nI 2))) 29 (upd ((gd_rI w1 29 (upd (w1.1 29) e1 (nI 2))).1 29) d (nI 0))).1 36) d (nI 0)))) args s 0 0 (gd_A ad 45 s.heap.size)) 227 [(0, .ref 27), (1, .int (nI d)), (2, .int (nI e1)), (3, .long (gs_pw (pe - pd))), (5, .long (gs_pw (pd - pe))), (7, .int (gs_b true)), (8, .int (nI k))] [] w3 := by
            intro j
            induction j with
            | zero =>
              intro k w3 hk hu3
              refine gd_r E K 2 (pc' := 230) (lv' := [(0, .ref 27), (1, .int (nI d)), (2, .int (nI e1)), (3, .long (gs_pw (pe - pd))), (5, .long (gs_pw (pd - pe))), (7, .int (gs_b true)), (8, .int (nI k))]) (st' := [.int 4, .int (nI k)]) (w' := w3) rfl ?_
              refine gd_r E K 1 (pc' := if 4 ≤ (nI k) then 265 else 233) (lv' := [(0, .ref 27), (1, .int (nI d)), (2, .int (nI e1)), (3, .long (gs_pw (pe - pd))), (5, .long (gs_pw (pd - pe))), (7, .int (gs_b true)), (8, .int (nI k))]) (st' := []) (w' := w3) rfl ?_
              refine gd_it (nI_le (show 4 ≤ k by omega) (by omega)) ?_
              refine gd_r E K 2 (pc' := 268) (lv' := [(0, .ref 27), (1, .int (nI d)), (2, .int (nI e1)), (3, .long (gs_pw (pe - pd))), (5, .long (gs_pw (pd - pe))), (7, .int (gs_b true)), (8, .int 0)]) (st' := []) (w' := w3) rfl ?_
              exact gd_cg (ev 4 0 w3 (by omega) (gs_ui_full hu3 (by omega))) rfl rfl rfl
            | succ j ih2 =>
              intro k w3 hk hu3
              refine gd_r E K 2 (pc' := 230) (lv' := [(0, .ref 27), (1, .int (nI d)), (2, .int (nI e1)), (3, .long (gs_pw (pe - pd))), (5, .long (gs_pw (pd - pe))), (7, .int (gs_b true)), (8, .int (nI k))]) (st' := [.int 4, .int (nI k)]) (w' := w3) rfl ?_
              refine gd_r E K 1 (pc' := if 4 ≤ (nI k) then 265 else 233) (lv' := [(0, .ref 27), (1, .int (nI d)), (2, .int (nI e1)), (3, .long (gs_pw (pe - pd))), (5, .long (gs_pw (pd - pe))), (7, .int (gs_b true)), (8, .int (nI k))]) (st' := []) (w' := w3) rfl ?_
              refine gd_if (nI_ge (show k < 4 by omega) (by decide)) ?_
              refine gd_r E K 14 (pc' := 253) (lv' := [(0, .ref 27), (1, .int (nI d)), (2, .int (nI e1)), (3, .long (gs_pw (pe - pd))), (5, .long (gs_pw (pd - pe))), (7, .int (gs_b true)), (8, .int (nI k))]) (st' := [.int ((4 * (nI e1)) + (nI k)), .ref 31, .int ((4 * (nI e1)) + (nI k)), .ref 31]) (w' := w3) rfl ?_
              refine gd_laldv E (K.1 253 (.laload, 0) rfl).1 (j := 4 * e1 + k) (by decide) (rfl) (by show nI 4 * nI e1 + nI k = _; rw [pk_mul, nI_add]) (by omega) (by decide) (v := f k) (by rw [hu3.2.2.2.2.1 k (by omega), gs_mix, if_neg (by omega)]) ?_
              refine gd_r E K 2 (pc' := 258) (lv' := [(0, .ref 27), (1, .int (nI d)), (2, .int (nI e1)), (3, .long (gs_pw (pe - pd))), (5, .long (gs_pw (pd - pe))), (7, .int (gs_b true)), (8, .int (nI k))]) (st' := [.long ((f k) / 2), .int ((4 * (nI e1)) + (nI k)), .ref 31]) (w' := w3) rfl ?_
              refine gd_last E (K.1 258 (.lastore, 0) rfl).1 (j := 4 * e1 + k) (by decide) (rfl) (by show nI 4 * nI e1 + nI k = _; rw [pk_mul, nI_add]) (by omega) (by decide) ?_
              refine gd_r E K 2 (pc' := 227) (lv' := [(0, .ref 27), (1, .int (nI d)), (2, .int (nI e1)), (3, .long (gs_pw (pe - pd))), (5, .long (gs_pw (pd - pe))), (7, .int (gs_b true)), (8, .int ((nI k) + 1))]) (st' := []) (w' := gd_rL w3 31 (vp_updL (w3.2.1 31) (4 * e1 + k) ((f k) / 2))) rfl ?_
              exact gd_cg (ih2 (k + 1) _ (by omega) (gs_ui_mix hu3 (by omega) rfl)) (by rw [nI_1]) rfl rfl
          exact half 4 0 w2 (by omega) (gs_ui_ext hu2 fun k _ => by rw [gs_mix, if_neg (by omega)])
        | false =>
          refine gd_r E K 1 (pc' := if (gs_b (false)) = 0 then 315 else 201) (lv' := [(0, .ref 27), (1, .int (nI d)), (2, .int (nI e1)), (3, .long (gs_pw (pe - pd))), (5, .long (gs_pw (pd - pe))), (7, .int (gs_b (false)))]) (st' := []) (w' := w1) rfl ?_
          refine gd_it (by decide) ?_
          refine gd_r E K 4 (pc' := 321) (lv' := [(0, .ref 27), (1, .int (nI d)), (2, .int (nI e1)), (3, .long (gs_pw (pe - pd))), (5, .long (gs_pw (pd - pe))), (7, .int (gs_b (false)))]) (st' := [.int 2, .int (nI e1), .ref 29]) (w' := w1) rfl ?_
          refine gd_iast E (K.1 321 (.iastore, 0) rfl).1 (j := e1) (by decide) (rfl) (rfl) (he) (by decide) ?_
          refine gd_r E K 4 (pc' := 328) (lv' := [(0, .ref 27), (1, .int (nI d)), (2, .int (nI e1)), (3, .long (gs_pw (pe - pd))), (5, .long (gs_pw (pd - pe))), (7, .int (gs_b (false)))]) (st' := [.int 0, .int (nI d), .ref 29]) (w' := gd_rI w1 29 (upd (w1.1 29) e1 2)) rfl ?_
          refine gd_iast E (K.1 328 (.iastore, 0) rfl).1 (j := d) (by decide) (rfl) (rfl) (hd) (by decide) ?_
          refine gd_r E K 4 (pc' := 335) (lv' := [(0, .ref 27), (1, .int (nI d)), (2, .int (nI e1)), (3, .long (gs_pw (pe - pd))), (5, .long (gs_pw (pd - pe))), (7, .int (gs_b (false)))]) (st' := [.int 0, .int (nI d), .ref 36]) (w' := gd_rI (gd_rI w1 29 (upd (w1.1 29) e1 2)) 29 (upd ((gd_rI w1 29 (upd (w1.1 29) e1 2)).1 29) d 0)) rfl ?_
          refine gd_iast E (K.1 335 (.iastore, 0) rfl).1 (j := d) (by decide) (rfl) (rfl) (hd) (by decide) ?_
          exact gd_vretp E hr hlk (K.1 336 (.return_, 0) rfl).1 (⟨rfl, w1, by rw [← hn, gs_nrm, hb]; exact hu, rfl⟩)
  have sums : ∀ j k w1, k + j = 4 → gs_ui w w1 e1 (max pd pe + 1) (gs_mix f0 fe k) → gd_G p l e (gd_rm 0 0) s m args below meth c D tC ad (gd_A ad 45 s.heap.size) 45 9 0 0 (MQ below (gd_Qp D tC ad 45 s.heap.size (fun r w' => r = none ∧ ∃ w1, gs_ui w w1 e1 (gs_nrm (max pd pe + 1) (f0)).1 (gs_nrm (max pd pe + 1) (f0)).2 ∧ w' = gd_rI (gd_rI (gd_rI w1 29 (upd (w1.1 29) e1 (nI 2))) 29 (upd ((gd_rI w1 29 (upd (w1.1 29) e1 (nI 2))).1 29) d (nI 0))) 36 (upd ((gd_rI (gd_rI w1 29 (upd (w1.1 29) e1 (nI 2))) 29 (upd ((gd_rI w1 29 (upd (w1.1 29) e1 (nI 2))).1 29) d (nI 0))).1 36) d (nI 0)))) args s 0 0 (gd_A ad 45 s.heap.size)) 113 [(0, .ref 27), (1, .int (nI d)), (2, .int (nI e1)), (3, .long (gs_pw (pe - pd))), (5, .long (gs_pw (pd - pe))), (7, .int (gs_b (gs_all f0 k))), (8, .int (nI k))] [] w1 := by
    intro j
    induction j with
    | zero =>
        intro k w1 hk hu
        refine gd_r E K 2 (pc' := 116) (lv' := [(0, .ref 27), (1, .int (nI d)), (2, .int (nI e1)), (3, .long (gs_pw (pe - pd))), (5, .long (gs_pw (pd - pe))), (7, .int (gs_b (gs_all f0 k))), (8, .int (nI k))]) (st' := [.int 4, .int (nI k)]) (w' := w1) rfl ?_
        refine gd_r E K 1 (pc' := if 4 ≤ (nI k) then 196 else 119) (lv' := [(0, .ref 27), (1, .int (nI d)), (2, .int (nI e1)), (3, .long (gs_pw (pe - pd))), (5, .long (gs_pw (pd - pe))), (7, .int (gs_b (gs_all f0 k))), (8, .int (nI k))]) (st' := []) (w' := w1) rfl ?_
        refine gd_it (nI_le (show 4 ≤ k by omega) (by omega)) ?_
        refine gd_lvp [0, 1, 2, 3, 4, 5] (lv' := [(0, .ref 27), (1, .int (nI d)), (2, .int (nI e1)), (3, .long (gs_pw (pe - pd))), (5, .long (gs_pw (pd - pe))), (7, .int (gs_b (gs_all f0 k)))]) rfl ?_
        exact gd_cg (low (max pd pe + 1) f0 w1 rfl (by omega) (gs_ui_full hu (by omega))) (by rw [show k = 4 by omega]) rfl rfl
    | succ j ih =>
        intro k w1 hk hu
        refine gd_r E K 2 (pc' := 116) (lv' := [(0, .ref 27), (1, .int (nI d)), (2, .int (nI e1)), (3, .long (gs_pw (pe - pd))), (5, .long (gs_pw (pd - pe))), (7, .int (gs_b (gs_all f0 k))), (8, .int (nI k))]) (st' := [.int 4, .int (nI k)]) (w' := w1) rfl ?_
        refine gd_r E K 1 (pc' := if 4 ≤ (nI k) then 196 else 119) (lv' := [(0, .ref 27), (1, .int (nI d)), (2, .int (nI e1)), (3, .long (gs_pw (pe - pd))), (5, .long (gs_pw (pd - pe))), (7, .int (gs_b (gs_all f0 k))), (8, .int (nI k))]) (st' := []) (w' := w1) rfl ?_
        refine gd_if (nI_ge (show k < 4 by omega) (by decide)) ?_
        refine gd_r E K 14 (pc' := 139) (lv' := [(0, .ref 27), (1, .int (nI d)), (2, .int (nI e1)), (3, .long (gs_pw (pe - pd))), (5, .long (gs_pw (pd - pe))), (7, .int (gs_b (gs_all f0 k))), (8, .int (nI k))]) (st' := [.int ((4 * (nI d)) + (nI k)), .ref 31, .int ((4 * (nI e1)) + (nI k)), .ref 31]) (w' := w1) rfl ?_
        refine gd_laldv E (K.1 139 (.laload, 0) rfl).1 (j := 4 * d + k) (by decide) (rfl) (by show nI 4 * nI d + nI k = _; rw [pk_mul, nI_add]) (by omega) (by decide) (v := fd k) (by rw [hu.2.2.2.2.2 (4 * d + k) (by omega)]; exact h3 k (by omega)) ?_
        refine gd_r E K 9 (pc' := 152) (lv' := [(0, .ref 27), (1, .int (nI d)), (2, .int (nI e1)), (3, .long (gs_pw (pe - pd))), (5, .long (gs_pw (pd - pe))), (7, .int (gs_b (gs_all f0 k))), (8, .int (nI k))]) (st' := [.int ((4 * (nI e1)) + (nI k)), .ref 31, .long ((fd k) * (gs_pw (pe - pd))), .int ((4 * (nI e1)) + (nI k)), .ref 31]) (w' := w1) rfl ?_
        refine gd_laldv E (K.1 152 (.laload, 0) rfl).1 (j := 4 * e1 + k) (by decide) (rfl) (by show nI 4 * nI e1 + nI k = _; rw [pk_mul, nI_add]) (by omega) (by decide) (v := fe k) (by rw [hu.2.2.2.2.1 k (by omega), gs_mix, if_neg (by omega)]) ?_
        refine gd_r E K 3 (pc' := 157) (lv' := [(0, .ref 27), (1, .int (nI d)), (2, .int (nI e1)), (3, .long (gs_pw (pe - pd))), (5, .long (gs_pw (pd - pe))), (7, .int (gs_b (gs_all f0 k))), (8, .int (nI k))]) (st' := [.long (((fd k) * (gs_pw (pe - pd))) + ((fe k) * (gs_pw (pd - pe)))), .int ((4 * (nI e1)) + (nI k)), .ref 31]) (w' := w1) rfl ?_
        have hfk : fd k * gs_pw (pe - pd) + fe k * gs_pw (pd - pe) = f0 k := by rw [← hF]
        refine gd_cg (lv' := [(0, .ref 27), (1, .int (nI d)), (2, .int (nI e1)), (3, .long (gs_pw (pe - pd))), (5, .long (gs_pw (pd - pe))), (7, .int (gs_b (gs_all f0 k))), (8, .int (nI k))]) (st' := [.long (f0 k), .int ((4 * (nI e1)) + (nI k)), .ref 31]) (w' := w1) ?_ (rfl) (by rw [hfk]) (rfl)
        refine gd_last E (K.1 157 (.lastore, 0) rfl).1 (j := 4 * e1 + k) (by decide) (rfl) (by show nI 4 * nI e1 + nI k = _; rw [pk_mul, nI_add]) (by omega) (by decide) ?_
        have hu2 := gs_ui_mix hu (show k < 4 by omega) (v := f0 k) rfl
        generalize gd_rL w1 31 (vp_updL (w1.2.1 31) (4 * e1 + k) (f0 k)) = w2 at hu2 ⊢
        refine gd_r E K 1 (pc' := 160) (lv' := [(0, .ref 27), (1, .int (nI d)), (2, .int (nI e1)), (3, .long (gs_pw (pe - pd))), (5, .long (gs_pw (pd - pe))), (7, .int (gs_b (gs_all f0 k))), (8, .int (nI k))]) (st' := [.int (gs_b (gs_all f0 k))]) (w' := w2) rfl ?_
        cases hx : gs_all f0 k with
        | true =>
          refine gd_r E K 1 (pc' := if (gs_b (true)) = 0 then 187 else 163) (lv' := [(0, .ref 27), (1, .int (nI d)), (2, .int (nI e1)), (3, .long (gs_pw (pe - pd))), (5, .long (gs_pw (pd - pe))), (7, .int (gs_b (true))), (8, .int (nI k))]) (st' := []) (w' := w2) rfl ?_
          refine gd_if (by decide) ?_
          refine gd_r E K 7 (pc' := 173) (lv' := [(0, .ref 27), (1, .int (nI d)), (2, .int (nI e1)), (3, .long (gs_pw (pe - pd))), (5, .long (gs_pw (pd - pe))), (7, .int (gs_b (true))), (8, .int (nI k))]) (st' := [.int ((4 * (nI e1)) + (nI k)), .ref 31]) (w' := w2) rfl ?_
          refine gd_laldv E (K.1 173 (.laload, 0) rfl).1 (j := 4 * e1 + k) (by decide) (rfl) (by show nI 4 * nI e1 + nI k = _; rw [pk_mul, nI_add]) (by omega) (by decide) (v := f0 k) (by rw [hu2.2.2.2.2.1 k (by omega), gs_mix, if_pos (by omega)]) ?_
          refine gd_r E K 4 (pc' := 180) (lv' := [(0, .ref 27), (1, .int (nI d)), (2, .int (nI e1)), (3, .long (gs_pw (pe - pd))), (5, .long (gs_pw (pd - pe))), (7, .int (gs_b (true))), (8, .int (nI k))]) (st' := [.int (lg_cmp ((f0 k) - (f0 k) / 2 * 2) 0)]) (w' := w2) rfl ?_
          by_cases hev : f0 k - f0 k / 2 * 2 = 0
          · refine gd_r E K 1 (pc' := if (lg_cmp ((f0 k) - (f0 k) / 2 * 2) 0) = 0 then 183 else 187) (lv' := [(0, .ref 27), (1, .int (nI d)), (2, .int (nI e1)), (3, .long (gs_pw (pe - pd))), (5, .long (gs_pw (pd - pe))), (7, .int (gs_b (true))), (8, .int (nI k))]) (st' := []) (w' := w2) rfl ?_
            refine gd_it ((lg_cmp_eq _ _).mpr hev) ?_
            refine gd_r E K 5 (pc' := 113) (lv' := [(0, .ref 27), (1, .int (nI d)), (2, .int (nI e1)), (3, .long (gs_pw (pe - pd))), (5, .long (gs_pw (pd - pe))), (7, .int 1), (8, .int ((nI k) + 1))]) (st' := []) (w' := w2) rfl ?_
            exact gd_cg (ih (k + 1) w2 (by omega) hu2) (by rw [gs_all_s, hx, show gs_ev (f0 k) = true from decide_eq_true hev, nI_1]; rfl) rfl rfl
          · refine gd_r E K 1 (pc' := if (lg_cmp ((f0 k) - (f0 k) / 2 * 2) 0) = 0 then 183 else 187) (lv' := [(0, .ref 27), (1, .int (nI d)), (2, .int (nI e1)), (3, .long (gs_pw (pe - pd))), (5, .long (gs_pw (pd - pe))), (7, .int (gs_b (true))), (8, .int (nI k))]) (st' := []) (w' := w2) rfl ?_
            refine gd_if (fun z => hev ((lg_cmp_eq _ _).mp z)) ?_
            refine gd_r E K 4 (pc' := 113) (lv' := [(0, .ref 27), (1, .int (nI d)), (2, .int (nI e1)), (3, .long (gs_pw (pe - pd))), (5, .long (gs_pw (pd - pe))), (7, .int 0), (8, .int ((nI k) + 1))]) (st' := []) (w' := w2) rfl ?_
            exact gd_cg (ih (k + 1) w2 (by omega) hu2) (by rw [gs_all_s, hx, show gs_ev (f0 k) = false from decide_eq_false hev, nI_1]; rfl) rfl rfl
        | false =>
          refine gd_r E K 1 (pc' := if (gs_b (false)) = 0 then 187 else 163) (lv' := [(0, .ref 27), (1, .int (nI d)), (2, .int (nI e1)), (3, .long (gs_pw (pe - pd))), (5, .long (gs_pw (pd - pe))), (7, .int (gs_b (false))), (8, .int (nI k))]) (st' := []) (w' := w2) rfl ?_
          refine gd_it (by decide) ?_
          refine gd_r E K 4 (pc' := 113) (lv' := [(0, .ref 27), (1, .int (nI d)), (2, .int (nI e1)), (3, .long (gs_pw (pe - pd))), (5, .long (gs_pw (pd - pe))), (7, .int 0), (8, .int ((nI k) + 1))]) (st' := []) (w' := w2) rfl ?_
          exact gd_cg (ih (k + 1) w2 (by omega) hu2) (by rw [gs_all_s, hx, Bool.false_and, nI_1]; rfl) rfl rfl
  have mid : gd_G p l e (gd_rm 0 0) s m args below meth c D tC ad (gd_A ad 45 s.heap.size) 45 9 0 0 (MQ below (gd_Qp D tC ad 45 s.heap.size (fun r w' => r = none ∧ ∃ w1, gs_ui w w1 e1 (gs_nrm (max pd pe + 1) (f0)).1 (gs_nrm (max pd pe + 1) (f0)).2 ∧ w' = gd_rI (gd_rI (gd_rI w1 29 (upd (w1.1 29) e1 (nI 2))) 29 (upd ((gd_rI w1 29 (upd (w1.1 29) e1 (nI 2))).1 29) d (nI 0))) 36 (upd ((gd_rI (gd_rI w1 29 (upd (w1.1 29) e1 (nI 2))) 29 (upd ((gd_rI w1 29 (upd (w1.1 29) e1 (nI 2))).1 29) d (nI 0))).1 36) d (nI 0)))) args s 0 0 (gd_A ad 45 s.heap.size)) 69 [(0, .ref 27), (1, .int (nI d)), (2, .int (nI e1)), (3, .long (gs_pw (pe - pd))), (5, .long (gs_pw (pd - pe)))] [] w := by
    refine gd_r E K 6 (pc' := 79) (lv' := [(0, .ref 27), (1, .int (nI d)), (2, .int (nI e1)), (3, .long (gs_pw (pe - pd))), (5, .long (gs_pw (pd - pe)))]) (st' := [.int (nI d), .ref 32, .int (nI e1), .ref 32]) (w' := w) rfl ?_
    refine gd_ialdv E (K.1 79 (.iaload, 0) rfl).1 (j := d) (by decide) (rfl) (rfl) (hd) (by decide) (v := nI pd) (h1) ?_
    refine gd_r E K 3 (pc' := 85) (lv' := [(0, .ref 27), (1, .int (nI d)), (2, .int (nI e1)), (3, .long (gs_pw (pe - pd))), (5, .long (gs_pw (pd - pe)))]) (st' := [.int (nI e1), .ref 32, .int (nI pd), .int (nI e1), .ref 32]) (w' := w) rfl ?_
    refine gd_ialdv E (K.1 85 (.iaload, 0) rfl).1 (j := e1) (by decide) (rfl) (rfl) (he) (by decide) (v := nI pe) (h2) ?_
    by_cases hle : pd ≤ pe
    · refine gd_r E K 1 (pc' := if (nI pd) ≤ (nI pe) then 98 else 89) (lv' := [(0, .ref 27), (1, .int (nI d)), (2, .int (nI e1)), (3, .long (gs_pw (pe - pd))), (5, .long (gs_pw (pd - pe)))]) (st' := [.int (nI e1), .ref 32]) (w' := w) rfl ?_
      refine gd_it (nI_le hle (by omega)) ?_
      refine gd_r E K 3 (pc' := 103) (lv' := [(0, .ref 27), (1, .int (nI d)), (2, .int (nI e1)), (3, .long (gs_pw (pe - pd))), (5, .long (gs_pw (pd - pe)))]) (st' := [.int (nI e1), .ref 32, .int (nI e1), .ref 32]) (w' := w) rfl ?_
      refine gd_ialdv E (K.1 103 (.iaload, 0) rfl).1 (j := e1) (by decide) (rfl) (rfl) (he) (by decide) (v := nI pe) (h2) ?_
      refine gd_r E K 2 (pc' := 106) (lv' := [(0, .ref 27), (1, .int (nI d)), (2, .int (nI e1)), (3, .long (gs_pw (pe - pd))), (5, .long (gs_pw (pd - pe)))]) (st' := [.int ((nI pe) + 1), .int (nI e1), .ref 32]) (w' := w) rfl ?_
      refine gd_cg (lv' := [(0, .ref 27), (1, .int (nI d)), (2, .int (nI e1)), (3, .long (gs_pw (pe - pd))), (5, .long (gs_pw (pd - pe)))]) (st' := [.int (nI (max pd pe + 1)), .int (nI e1), .ref 32]) (w' := w) ?_ (rfl) (by rw [nI_1]; congr 3; omega) (rfl)
      refine gd_iast E (K.1 106 (.iastore, 0) rfl).1 (j := e1) (by decide) (rfl) (rfl) (he) (by decide) ?_
      refine gd_r E K 4 (pc' := 113) (lv' := [(0, .ref 27), (1, .int (nI d)), (2, .int (nI e1)), (3, .long (gs_pw (pe - pd))), (5, .long (gs_pw (pd - pe))), (7, .int 1), (8, .int 0)]) (st' := []) (w' := gd_rI w 32 (upd (w.1 32) e1 (nI (max pd pe + 1)))) rfl ?_
      exact gd_cg (sums 4 0 _ (by omega) ⟨fun a ha => gd_rI_n ha, by rw [gd_rI_s], fun _ _ => rfl, rfl, fun k hk => by rw [gs_mix, if_neg (by omega)]; exact h4 k hk, fun _ _ => rfl⟩) rfl rfl rfl
    · refine gd_r E K 1 (pc' := if (nI pd) ≤ (nI pe) then 98 else 89) (lv' := [(0, .ref 27), (1, .int (nI d)), (2, .int (nI e1)), (3, .long (gs_pw (pe - pd))), (5, .long (gs_pw (pd - pe)))]) (st' := [.int (nI e1), .ref 32]) (w' := w) rfl ?_
      refine gd_if (nI_ge (by omega) (by omega)) ?_
      refine gd_r E K 3 (pc' := 94) (lv' := [(0, .ref 27), (1, .int (nI d)), (2, .int (nI e1)), (3, .long (gs_pw (pe - pd))), (5, .long (gs_pw (pd - pe)))]) (st' := [.int (nI d), .ref 32, .int (nI e1), .ref 32]) (w' := w) rfl ?_
      refine gd_ialdv E (K.1 94 (.iaload, 0) rfl).1 (j := d) (by decide) (rfl) (rfl) (hd) (by decide) (v := nI pd) (h1) ?_
      refine gd_r E K 3 (pc' := 106) (lv' := [(0, .ref 27), (1, .int (nI d)), (2, .int (nI e1)), (3, .long (gs_pw (pe - pd))), (5, .long (gs_pw (pd - pe)))]) (st' := [.int ((nI pd) + 1), .int (nI e1), .ref 32]) (w' := w) rfl ?_
      refine gd_cg (lv' := [(0, .ref 27), (1, .int (nI d)), (2, .int (nI e1)), (3, .long (gs_pw (pe - pd))), (5, .long (gs_pw (pd - pe)))]) (st' := [.int (nI (max pd pe + 1)), .int (nI e1), .ref 32]) (w' := w) ?_ (rfl) (by rw [nI_1]; congr 3; omega) (rfl)
      refine gd_iast E (K.1 106 (.iastore, 0) rfl).1 (j := e1) (by decide) (rfl) (rfl) (he) (by decide) ?_
      refine gd_r E K 4 (pc' := 113) (lv' := [(0, .ref 27), (1, .int (nI d)), (2, .int (nI e1)), (3, .long (gs_pw (pe - pd))), (5, .long (gs_pw (pd - pe))), (7, .int 1), (8, .int 0)]) (st' := []) (w' := gd_rI w 32 (upd (w.1 32) e1 (nI (max pd pe + 1)))) rfl ?_
      exact gd_cg (sums 4 0 _ (by omega) ⟨fun a ha => gd_rI_n ha, by rw [gd_rI_s], fun _ _ => rfl, rfl, fun k hk => by rw [gs_mix, if_neg (by omega)]; exact h4 k hk, fun _ _ => rfl⟩) rfl rfl rfl
  have two : ∀ j k, (k + j = pd ∨ (j = 0 ∧ pd ≤ k ∧ k = pe)) → pe ≤ k → k ≤ 60 → gd_G p l e (gd_rm 0 0) s m args below meth c D tC ad (gd_A ad 45 s.heap.size) 45 9 0 0 (MQ below (gd_Qp D tC ad 45 s.heap.size (fun r w' => r = none ∧ ∃ w1, gs_ui w w1 e1 (gs_nrm (max pd pe + 1) (f0)).1 (gs_nrm (max pd pe + 1) (f0)).2 ∧ w' = gd_rI (gd_rI (gd_rI w1 29 (upd (w1.1 29) e1 (nI 2))) 29 (upd ((gd_rI w1 29 (upd (w1.1 29) e1 (nI 2))).1 29) d (nI 0))) 36 (upd ((gd_rI (gd_rI w1 29 (upd (w1.1 29) e1 (nI 2))) 29 (upd ((gd_rI w1 29 (upd (w1.1 29) e1 (nI 2))).1 29) d (nI 0))).1 36) d (nI 0)))) args s 0 0 (gd_A ad 45 s.heap.size)) 44 [(0, .ref 27), (1, .int (nI d)), (2, .int (nI e1)), (3, .long (gs_pw (pe - pd))), (5, .long (gs_pw (k - pe))), (7, .int (nI k))] [] w := by
    intro j
    induction j with
    | zero =>
        intro k hk hk2 hk3
        refine gd_r E K 4 (pc' := 51) (lv' := [(0, .ref 27), (1, .int (nI d)), (2, .int (nI e1)), (3, .long (gs_pw (pe - pd))), (5, .long (gs_pw (k - pe))), (7, .int (nI k))]) (st' := [.int (nI d), .ref 32, .int (nI k)]) (w' := w) rfl ?_
        refine gd_ialdv E (K.1 51 (.iaload, 0) rfl).1 (j := d) (by decide) (rfl) (rfl) (hd) (by decide) (v := nI pd) (h1) ?_
        refine gd_r E K 1 (pc' := if (nI pd) ≤ (nI k) then 69 else 55) (lv' := [(0, .ref 27), (1, .int (nI d)), (2, .int (nI e1)), (3, .long (gs_pw (pe - pd))), (5, .long (gs_pw (k - pe))), (7, .int (nI k))]) (st' := []) (w' := w) rfl ?_
        refine gd_it (nI_le (by omega) (by omega)) ?_
        refine gd_lvp [0, 1, 2, 3, 4] (lv' := [(0, .ref 27), (1, .int (nI d)), (2, .int (nI e1)), (3, .long (gs_pw (pe - pd))), (5, .long (gs_pw (k - pe)))]) rfl ?_
        exact gd_cg mid (by rw [show k - pe = pd - pe by omega]) rfl rfl
    | succ j ih =>
        intro k hk hk2 hk3
        refine gd_r E K 4 (pc' := 51) (lv' := [(0, .ref 27), (1, .int (nI d)), (2, .int (nI e1)), (3, .long (gs_pw (pe - pd))), (5, .long (gs_pw (k - pe))), (7, .int (nI k))]) (st' := [.int (nI d), .ref 32, .int (nI k)]) (w' := w) rfl ?_
        refine gd_ialdv E (K.1 51 (.iaload, 0) rfl).1 (j := d) (by decide) (rfl) (rfl) (hd) (by decide) (v := nI pd) (h1) ?_
        refine gd_r E K 1 (pc' := if (nI pd) ≤ (nI k) then 69 else 55) (lv' := [(0, .ref 27), (1, .int (nI d)), (2, .int (nI e1)), (3, .long (gs_pw (pe - pd))), (5, .long (gs_pw (k - pe))), (7, .int (nI k))]) (st' := []) (w' := w) rfl ?_
        refine gd_if (nI_ge (by omega) (by omega)) ?_
        refine gd_r E K 6 (pc' := 44) (lv' := [(0, .ref 27), (1, .int (nI d)), (2, .int (nI e1)), (3, .long (gs_pw (pe - pd))), (5, .long ((gs_pw (k - pe)) * 2)), (7, .int ((nI k) + 1))]) (st' := []) (w' := w) rfl ?_
        exact gd_cg (ih (k + 1) (by omega) (by omega) (by omega)) (by rw [show k + 1 - pe = (k - pe) + 1 by omega, nI_1]; rfl) rfl rfl
  have one : ∀ j k, (k + j = pe ∨ (j = 0 ∧ pe ≤ k ∧ k = pd)) → pd ≤ k → k ≤ 60 → gd_G p l e (gd_rm 0 0) s m args below meth c D tC ad (gd_A ad 45 s.heap.size) 45 9 0 0 (MQ below (gd_Qp D tC ad 45 s.heap.size (fun r w' => r = none ∧ ∃ w1, gs_ui w w1 e1 (gs_nrm (max pd pe + 1) (f0)).1 (gs_nrm (max pd pe + 1) (f0)).2 ∧ w' = gd_rI (gd_rI (gd_rI w1 29 (upd (w1.1 29) e1 (nI 2))) 29 (upd ((gd_rI w1 29 (upd (w1.1 29) e1 (nI 2))).1 29) d (nI 0))) 36 (upd ((gd_rI (gd_rI w1 29 (upd (w1.1 29) e1 (nI 2))) 29 (upd ((gd_rI w1 29 (upd (w1.1 29) e1 (nI 2))).1 29) d (nI 0))).1 36) d (nI 0)))) args s 0 0 (gd_A ad 45 s.heap.size)) 13 [(0, .ref 27), (1, .int (nI d)), (2, .int (nI e1)), (3, .long (gs_pw (k - pd))), (5, .long 1), (7, .int (nI k))] [] w := by
    intro j
    induction j with
    | zero =>
        intro k hk hk2 hk3
        refine gd_r E K 4 (pc' := 20) (lv' := [(0, .ref 27), (1, .int (nI d)), (2, .int (nI e1)), (3, .long (gs_pw (k - pd))), (5, .long 1), (7, .int (nI k))]) (st' := [.int (nI e1), .ref 32, .int (nI k)]) (w' := w) rfl ?_
        refine gd_ialdv E (K.1 20 (.iaload, 0) rfl).1 (j := e1) (by decide) (rfl) (rfl) (he) (by decide) (v := nI pe) (h2) ?_
        refine gd_r E K 1 (pc' := if (nI pe) ≤ (nI k) then 36 else 24) (lv' := [(0, .ref 27), (1, .int (nI d)), (2, .int (nI e1)), (3, .long (gs_pw (k - pd))), (5, .long 1), (7, .int (nI k))]) (st' := []) (w' := w) rfl ?_
        refine gd_it (nI_le (by omega) (by omega)) ?_
        refine gd_r E K 3 (pc' := 41) (lv' := [(0, .ref 27), (1, .int (nI d)), (2, .int (nI e1)), (3, .long (gs_pw (k - pd))), (5, .long 1), (7, .int (nI k))]) (st' := [.int (nI e1), .ref 32]) (w' := w) rfl ?_
        refine gd_ialdv E (K.1 41 (.iaload, 0) rfl).1 (j := e1) (by decide) (rfl) (rfl) (he) (by decide) (v := nI pe) (h2) ?_
        refine gd_r E K 1 (pc' := 44) (lv' := [(0, .ref 27), (1, .int (nI d)), (2, .int (nI e1)), (3, .long (gs_pw (k - pd))), (5, .long 1), (7, .int (nI pe))]) (st' := []) (w' := w) rfl ?_
        exact gd_cg (two (pd - pe) pe (by omega) (by omega) hpe) (by rw [show k - pd = pe - pd by omega, Nat.sub_self]; rfl) rfl rfl
    | succ j ih =>
        intro k hk hk2 hk3
        refine gd_r E K 4 (pc' := 20) (lv' := [(0, .ref 27), (1, .int (nI d)), (2, .int (nI e1)), (3, .long (gs_pw (k - pd))), (5, .long 1), (7, .int (nI k))]) (st' := [.int (nI e1), .ref 32, .int (nI k)]) (w' := w) rfl ?_
        refine gd_ialdv E (K.1 20 (.iaload, 0) rfl).1 (j := e1) (by decide) (rfl) (rfl) (he) (by decide) (v := nI pe) (h2) ?_
        refine gd_r E K 1 (pc' := if (nI pe) ≤ (nI k) then 36 else 24) (lv' := [(0, .ref 27), (1, .int (nI d)), (2, .int (nI e1)), (3, .long (gs_pw (k - pd))), (5, .long 1), (7, .int (nI k))]) (st' := []) (w' := w) rfl ?_
        refine gd_if (nI_ge (by omega) (by omega)) ?_
        refine gd_r E K 6 (pc' := 13) (lv' := [(0, .ref 27), (1, .int (nI d)), (2, .int (nI e1)), (3, .long ((gs_pw (k - pd)) * 2)), (5, .long 1), (7, .int ((nI k) + 1))]) (st' := []) (w' := w) rfl ?_
        exact gd_cg (ih (k + 1) (by omega) (by omega) (by omega)) (by rw [show k + 1 - pd = (k - pd) + 1 by omega, nI_1]; rfl) rfl rfl
  refine gd_r E K 7 (pc' := 10) (lv' := [(0, .ref 27), (1, .int (nI d)), (2, .int (nI e1)), (3, .long 1), (5, .long 1)]) (st' := [.int (nI d), .ref 32]) (w' := w) rfl ?_
  refine gd_ialdv E (K.1 10 (.iaload, 0) rfl).1 (j := d) (by decide) (rfl) (rfl) (hd) (by decide) (v := nI pd) (h1) ?_
  refine gd_r E K 1 (pc' := 13) (lv' := [(0, .ref 27), (1, .int (nI d)), (2, .int (nI e1)), (3, .long 1), (5, .long 1), (7, .int (nI pd))]) (st' := []) (w' := w) rfl ?_
  exact gd_cg (one (pe - pd) pd (by omega) (by omega) hpd) (by rw [Nat.sub_self]; rfl) rfl rfl
