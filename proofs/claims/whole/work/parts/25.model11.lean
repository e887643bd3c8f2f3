def gs_rest (S : gs_T) (k c : Nat) : Bool := !gs_mtR (gs_T2 S (some k) none) (gs_cn S (some k) none) c 0
def gs_halfS (S : gs_T) (k a b : Nat) : gs_T := gs_fd (gs_fd (gs_sh4 (gs_sh4 (gs_add (gs_add (gs_fd S 0 k 0) a 1) b 1) (gs_made S) (gs_sh S k)) (gs_made S + 1) (gs_sh S k)) 2 (gs_made S) (gs_p S k)) 2 (gs_made S + 1) (gs_p S k)
def gs_fits (S : gs_T) (k a b : Nat) : Bool := !decide (gs_k S a = 1) && !decide (gs_k S b = 1) && gs_rest S k a && gs_rest S k b
def gs_halfok (S : gs_T) (k a b : Nat) : Bool := gs_free S k && decide (gs_u S k = 2) && gs_fits S k a b && decide (gs_cnt (gs_u S) (gs_made S) < 6) && decide (gs_made S < 59)
def gs_half2 (S : gs_T) (k : Nat) (one two : Option Nat) : Nat × Nat × gs_T := match one, two with
  | some a, some b => if gs_halfok S k a b then (0, gs_made S, gs_halfS S k a b) else (2, 0, S)
  | _, _ => (2, 0, S)
def gs_halve (S : gs_T) (d : Int32) (up : Bool) : Nat × Nat × gs_T := if gs_isd S d = false then (1, 0, S) else gs_half2 S d.toNatClampNeg (gm_mv (gs_c S d.toNatClampNeg) (if up then 1 else 4)) (gm_mv (gs_c S d.toNatClampNeg) (if up then 3 else 2))
theorem gs_half2_n1 (S : gs_T) (k : Nat) (t : Option Nat) : gs_half2 S k none t = (2, 0, S) := rfl
theorem gs_half2_n2 (S : gs_T) (k : Nat) (o : Option Nat) : gs_half2 S k o none = (2, 0, S) := by cases o <;> rfl
set_option maxRecDepth 100000 in
theorem c2_restk {l : Launch} {D : va_G} {tC : FieldType → ClassId} {ad : Nat → Nat} (hinj : ∀ i j, ad i = ad j → i = j) {S : gs_T} (w : gd_W) (k : Nat) (hT : gs_tab w (gs_cn S (some k) none) (gs_T2 S (some k) none)) (c0 : Nat) (hc : c0 < 64) : gd_Ct l D tC ad 45 2 48 y_M_canRest c_M_canRest 5 (some .boolean) [.ref 27, .int (nI c0), .int (nI 0)] w (some (.int (gs_b (gs_rest S k c0)))) w := c2_canRest hinj w hT c0 0 hc (by decide)
set_option maxHeartbeats 8000000 in
set_option maxRecDepth 100000 in
theorem c2_MhalveU {l : Launch} {D : va_G} {tC : FieldType → ClassId} {ad : Nat → Nat} (hinj : ∀ i j, ad i = ad j → i = j) {S : gs_T} {G : Nat → Nat} (w : gd_W) (hR : gr_M w S G) (hc6 : gs_cnt (gs_u S) (gs_made S) ≤ 6) (hv : ∀ k, gs_alive S k → gv_way S k) (d : Int32) : gd_Cp l D tC ad 45 4 92 y_M_halve c_M_halve 9 (some .int) [.ref 27, .int d, .int 1] w (gs_mp (gs_halve S d true).2.2 (gs_halve S d true).1 (.int (nI (gs_halve S d true).2.1)) w) := by
  refine gd_Cp_of rfl hinj (Nat.le_of_ble_eq_true rfl) ?_
  intro p e s m args below meth c E hr hlk
  have K := k_M_halve
  have hA : ∀ q, gd_A ad 45 s.heap.size q → gd_A ad 45 s.heap.size q := fun _ h => h
  have hN := hR.1.2
  have hcle := gs_cnt_le (gs_u S) (gs_made S)
  refine gd_r E K 3 (pc' := 3) (lv' := [(0, .ref 27), (1, .int d), (2, .int 1)]) (st' := [.int d, .ref 27, .ref 27]) (w' := w) rfl ?_
  refine gd_cV E hA (av := [.int d]) (rest := [.ref 27]) (c2_isD hinj _ hR d) (K.1 3 (.invokevirtual 125, 0) rfl).1 ml_M_125 cv_M_isDrop (by decide) (rfl) ⟨Nat.le_of_ble_eq_true rfl, Nat.le_of_ble_eq_true rfl⟩ ⟨Nat.zero_le _, Nat.zero_le _⟩ rfl (Nat.le_of_ble_eq_true rfl) ?_
  cases hb : gs_isd S d with
  | true =>
    refine gd_r E K 1 (pc' := if (gs_b (true)) = 0 then 13 else 9) (lv' := [(0, .ref 27), (1, .int d), (2, .int 1)]) (st' := [.ref 27]) (w' := w) rfl ?_
    refine gd_if (by decide) ?_
    refine gd_r E K 9 (pc' := 31) (lv' := [(0, .ref 27), (1, .int d), (2, .int 1)]) (st' := [.int d, .ref 30]) (w' := gd_rI w 27 (upd (w.1 27) 0 0)) rfl ?_
    obtain ⟨k, hk, rfl, hu⟩ := gs_isd_t hN hb
    have hcl : (nI k).toNatClampNeg = k := nI_clamp (by omega)
    have hR0 := hR.code 0
    obtain ⟨c1, c2⟩ := hR0.2.2.1 k (by omega)
    have hsd : gs_halve S (nI k) true = gs_half2 S k (gm_mv (gs_c S k) 1) (gm_mv (gs_c S k) 3) := by rw [gs_halve, if_neg (by rw [hb]; decide), hcl]; rfl
    rw [hsd]
    clear hsd
    refine gd_ialdv E (K.1 31 (.iaload, 0) rfl).1 (j := k) (by decide) (rfl) (rfl) (by omega) (by decide) (v := nI (gs_c S k)) (c1) ?_
    refine gd_r E K 4 (pc' := 41) (lv' := [(0, .ref 27), (1, .int (nI k)), (2, .int 1)]) (st' := [.int 1, .int (nI (gs_c S k))]) (w' := gd_rI w 27 (upd (w.1 27) 0 0)) rfl ?_
    refine gd_cg (lv' := [(0, .ref 27), (1, .int (nI k)), (2, .int 1)]) (st' := [.int (nI 1), .int (nI (gs_c S k))]) (w' := gd_rI w 27 (upd (w.1 27) 0 0)) ?_ (rfl) (rfl) (rfl)
    refine gd_cS E hA (av := [.int (nI (gs_c S k)), .int (nI 1)]) (rest := []) (c2_moved hinj (gs_c S k) 1 c2 (by decide) _) (K.1 41 (.invokestatic 82, 0) rfl).1 ml_M_82 cv_M_moved ⟨Nat.le_of_ble_eq_true rfl, Nat.le_of_ble_eq_true rfl⟩ ⟨Nat.zero_le _, Nat.zero_le _⟩ rfl (Nat.le_of_ble_eq_true rfl) ?_
    refine gd_r E K 4 (pc' := 50) (lv' := [(0, .ref 27), (1, .int (nI k)), (2, .int 1), (3, .int (gm_nO (gm_mv (gs_c S k) 1)))]) (st' := [.int (nI k), .ref 30]) (w' := gd_rI w 27 (upd (w.1 27) 0 0)) rfl ?_
    refine gd_ialdv E (K.1 50 (.iaload, 0) rfl).1 (j := k) (by decide) (rfl) (rfl) (by omega) (by decide) (v := nI (gs_c S k)) (c1) ?_
    refine gd_r E K 4 (pc' := 60) (lv' := [(0, .ref 27), (1, .int (nI k)), (2, .int 1), (3, .int (gm_nO (gm_mv (gs_c S k) 1)))]) (st' := [.int 3, .int (nI (gs_c S k))]) (w' := gd_rI w 27 (upd (w.1 27) 0 0)) rfl ?_
    refine gd_cg (lv' := [(0, .ref 27), (1, .int (nI k)), (2, .int 1), (3, .int (gm_nO (gm_mv (gs_c S k) 1)))]) (st' := [.int (nI 3), .int (nI (gs_c S k))]) (w' := gd_rI w 27 (upd (w.1 27) 0 0)) ?_ (rfl) (rfl) (rfl)
    refine gd_cS E hA (av := [.int (nI (gs_c S k)), .int (nI 3)]) (rest := []) (c2_moved hinj (gs_c S k) 3 c2 (by decide) _) (K.1 60 (.invokestatic 82, 0) rfl).1 ml_M_82 cv_M_moved ⟨Nat.le_of_ble_eq_true rfl, Nat.le_of_ble_eq_true rfl⟩ ⟨Nat.zero_le _, Nat.zero_le _⟩ rfl (Nat.le_of_ble_eq_true rfl) ?_
    refine gd_r E K 4 (pc' := 68) (lv' := [(0, .ref 27), (1, .int (nI k)), (2, .int 1), (3, .int (gm_nO (gm_mv (gs_c S k) 1))), (4, .int (gm_nO (gm_mv (gs_c S k) 3)))]) (st' := [.int (-1), .int (nI k), .ref 27]) (w' := gd_rI w 27 (upd (w.1 27) 0 0)) rfl ?_
    refine gd_cg (lv' := [(0, .ref 27), (1, .int (nI k)), (2, .int 1), (3, .int (gm_nO (gm_mv (gs_c S k) 1))), (4, .int (gm_nO (gm_mv (gs_c S k) 3)))]) (st' := [.int (gm_nO none), .int (gm_nO (some k)), .ref 27]) (w' := gd_rI w 27 (upd (w.1 27) 0 0)) ?_ (rfl) (rfl) (rfl)
    refine gd_cVp E hA (av := [.int (gm_nO (some k)), .int (gm_nO none)]) (rest := []) (c2_foresee hinj _ hR0 hc6 hv (some k) none (fun x h => by cases h; omega) (fun _ h => nomatch h)) (K.1 68 (.invokevirtual 115, 0) rfl).1 ml_M_115 cv_M_foresee (by decide) (rfl) ⟨Nat.le_of_ble_eq_true rfl, Nat.le_of_ble_eq_true rfl⟩ ⟨Nat.zero_le _, Nat.zero_le _⟩ rfl (Nat.le_of_ble_eq_true rfl) (fun r9 w2 h9 => ?_)
    obtain ⟨rfl, hfi⟩ := h9
    have hR2 := hfi.1.M hR0
    have hT2 := gs_fi_tab hfi hc6 hv
    have hf2 : gf_m w w2 := (gf_m.I w (by decide) _).trans hfi.1.m
    obtain ⟨u1, u2⟩ := hR2.2.1 k (by omega)
    refine gd_r E K 1 (pc' := 72) (lv' := [(0, .ref 27), (1, .int (nI k)), (2, .int 1), (3, .int (gm_nO (gm_mv (gs_c S k) 1))), (4, .int (gm_nO (gm_mv (gs_c S k) 3)))]) (st' := [.int (gm_nO (gm_mv (gs_c S k) 1))]) (w' := w2) rfl ?_
    cases h1 : gm_mv (gs_c S k) 1 with
    | none =>
      refine gd_r E K 1 (pc' := if (gm_nO (none)) < 0 then 84 else 75) (lv' := [(0, .ref 27), (1, .int (nI k)), (2, .int 1), (3, .int (gm_nO (none))), (4, .int (gm_nO (gm_mv (gs_c S k) 3)))]) (st' := []) (w' := w2) rfl ?_
      refine gd_it (by decide) ?_
      refine gd_r E K 9 (pc' := 142) (lv' := [(0, .ref 27), (1, .int (nI k)), (2, .int 1), (3, .int (gm_nO (none))), (4, .int (gm_nO (gm_mv (gs_c S k) 3))), (5, .int 0), (6, .int 0)]) (st' := [.int (nI k), .ref 27, .ref 27]) (w' := w2) rfl ?_
      refine gd_cV E hA (av := [.int (nI k)]) (rest := [.ref 27]) (c2_isFree hinj _ hR2 k hk) (K.1 142 (.invokevirtual 129, 0) rfl).1 ml_M_129 cv_M_isFree (by decide) (rfl) ⟨Nat.le_of_ble_eq_true rfl, Nat.le_of_ble_eq_true rfl⟩ ⟨Nat.zero_le _, Nat.zero_le _⟩ rfl (Nat.le_of_ble_eq_true rfl) ?_
      cases hfr : gs_free S k with
      | true =>
        refine gd_r E K 1 (pc' := if (gs_b (true)) = 0 then 185 else 148) (lv' := [(0, .ref 27), (1, .int (nI k)), (2, .int 1), (3, .int (gm_nO (none))), (4, .int (gm_nO (gm_mv (gs_c S k) 3))), (5, .int 0), (6, .int 0)]) (st' := [.ref 27]) (w' := w2) rfl ?_
        refine gd_if (by decide) ?_
        refine gd_r E K 3 (pc' := 153) (lv' := [(0, .ref 27), (1, .int (nI k)), (2, .int 1), (3, .int (gm_nO (none))), (4, .int (gm_nO (gm_mv (gs_c S k) 3))), (5, .int 0), (6, .int 0)]) (st' := [.int (nI k), .ref 29, .ref 27]) (w' := w2) rfl ?_
        refine gd_ialdv E (K.1 153 (.iaload, 0) rfl).1 (j := k) (by decide) (rfl) (rfl) (by omega) (by decide) (v := nI (gs_u S k)) (u1) ?_
        refine gd_r E K 1 (pc' := 155) (lv' := [(0, .ref 27), (1, .int (nI k)), (2, .int 1), (3, .int (gm_nO (none))), (4, .int (gm_nO (gm_mv (gs_c S k) 3))), (5, .int 0), (6, .int 0)]) (st' := [.int 2, .int (nI (gs_u S k)), .ref 27]) (w' := w2) rfl ?_
        by_cases hu2 : gs_u S k = 2
        · refine gd_r E K 1 (pc' := if (nI (gs_u S k)) = 2 then 158 else 185) (lv' := [(0, .ref 27), (1, .int (nI k)), (2, .int 1), (3, .int (gm_nO (none))), (4, .int (gm_nO (gm_mv (gs_c S k) 3))), (5, .int 0), (6, .int 0)]) (st' := [.ref 27]) (w' := w2) rfl ?_
          refine gd_it (by rw [hu2]; rfl) ?_
          refine gd_r E K 8 (pc' := 197) (lv' := [(0, .ref 27), (1, .int (nI k)), (2, .int 1), (3, .int (gm_nO (none))), (4, .int (gm_nO (gm_mv (gs_c S k) 3))), (5, .int 0), (6, .int 0)]) (st' := [.int 0]) (w' := gd_rI w2 27 (upd (w2.1 27) 0 2)) rfl ?_
          exact gd_iretp E hr hlk (K.1 197 (.ireturn, 0) rfl).1 (by rw [gs_half2_n1]; exact ⟨rfl, rfl, ⟨G, hR2.code 2⟩, hf2.trans (gf_m.I _ (by decide) _)⟩)
        · refine gd_r E K 1 (pc' := if (nI (gs_u S k)) = 2 then 158 else 185) (lv' := [(0, .ref 27), (1, .int (nI k)), (2, .int 1), (3, .int (gm_nO (none))), (4, .int (gm_nO (gm_mv (gs_c S k) 3))), (5, .int 0), (6, .int 0)]) (st' := [.ref 27]) (w' := w2) rfl ?_
          refine gd_if (by rw [show (2 : Int32) = nI 2 from rfl, nI_eq (by omega) (by decide)]; exact hu2) ?_
          refine gd_r E K 6 (pc' := 197) (lv' := [(0, .ref 27), (1, .int (nI k)), (2, .int 1), (3, .int (gm_nO (none))), (4, .int (gm_nO (gm_mv (gs_c S k) 3))), (5, .int 0), (6, .int 0)]) (st' := [.int 0]) (w' := gd_rI w2 27 (upd (w2.1 27) 0 2)) rfl ?_
          exact gd_iretp E hr hlk (K.1 197 (.ireturn, 0) rfl).1 (by rw [gs_half2_n1]; exact ⟨rfl, rfl, ⟨G, hR2.code 2⟩, hf2.trans (gf_m.I _ (by decide) _)⟩)
      | false =>
        refine gd_r E K 1 (pc' := if (gs_b (false)) = 0 then 185 else 148) (lv' := [(0, .ref 27), (1, .int (nI k)), (2, .int 1), (3, .int (gm_nO (none))), (4, .int (gm_nO (gm_mv (gs_c S k) 3))), (5, .int 0), (6, .int 0)]) (st' := [.ref 27]) (w' := w2) rfl ?_
        refine gd_it (by decide) ?_
        refine gd_r E K 6 (pc' := 197) (lv' := [(0, .ref 27), (1, .int (nI k)), (2, .int 1), (3, .int (gm_nO (none))), (4, .int (gm_nO (gm_mv (gs_c S k) 3))), (5, .int 0), (6, .int 0)]) (st' := [.int 0]) (w' := gd_rI w2 27 (upd (w2.1 27) 0 2)) rfl ?_
        exact gd_iretp E hr hlk (K.1 197 (.ireturn, 0) rfl).1 (by rw [gs_half2_n1]; exact ⟨rfl, rfl, ⟨G, hR2.code 2⟩, hf2.trans (gf_m.I _ (by decide) _)⟩)
    | some a =>
      have ha64 := gm_mv_lt c2 h1
      refine gd_r E K 1 (pc' := if (gm_nO (some a)) < 0 then 84 else 75) (lv' := [(0, .ref 27), (1, .int (nI k)), (2, .int 1), (3, .int (gm_nO (some a))), (4, .int (gm_nO (gm_mv (gs_c S k) 3)))]) (st' := []) (w' := w2) rfl ?_
      refine gd_if (gm_nO_some (by omega)) ?_
      refine gd_r E K 1 (pc' := 77) (lv' := [(0, .ref 27), (1, .int (nI k)), (2, .int 1), (3, .int (gm_nO (some a))), (4, .int (gm_nO (gm_mv (gs_c S k) 3)))]) (st' := [.int (gm_nO (gm_mv (gs_c S k) 3))]) (w' := w2) rfl ?_
      cases h2 : gm_mv (gs_c S k) 3 with
      | none =>
        refine gd_r E K 1 (pc' := if (gm_nO (none)) < 0 then 84 else 80) (lv' := [(0, .ref 27), (1, .int (nI k)), (2, .int 1), (3, .int (gm_nO (some a))), (4, .int (gm_nO (none)))]) (st' := []) (w' := w2) rfl ?_
        refine gd_it (by decide) ?_
        refine gd_r E K 9 (pc' := 142) (lv' := [(0, .ref 27), (1, .int (nI k)), (2, .int 1), (3, .int (gm_nO (some a))), (4, .int (gm_nO (none))), (5, .int 0), (6, .int 0)]) (st' := [.int (nI k), .ref 27, .ref 27]) (w' := w2) rfl ?_
        refine gd_cV E hA (av := [.int (nI k)]) (rest := [.ref 27]) (c2_isFree hinj _ hR2 k hk) (K.1 142 (.invokevirtual 129, 0) rfl).1 ml_M_129 cv_M_isFree (by decide) (rfl) ⟨Nat.le_of_ble_eq_true rfl, Nat.le_of_ble_eq_true rfl⟩ ⟨Nat.zero_le _, Nat.zero_le _⟩ rfl (Nat.le_of_ble_eq_true rfl) ?_
        cases hfr : gs_free S k with
        | true =>
          refine gd_r E K 1 (pc' := if (gs_b (true)) = 0 then 185 else 148) (lv' := [(0, .ref 27), (1, .int (nI k)), (2, .int 1), (3, .int (gm_nO (some a))), (4, .int (gm_nO (none))), (5, .int 0), (6, .int 0)]) (st' := [.ref 27]) (w' := w2) rfl ?_
          refine gd_if (by decide) ?_
          refine gd_r E K 3 (pc' := 153) (lv' := [(0, .ref 27), (1, .int (nI k)), (2, .int 1), (3, .int (gm_nO (some a))), (4, .int (gm_nO (none))), (5, .int 0), (6, .int 0)]) (st' := [.int (nI k), .ref 29, .ref 27]) (w' := w2) rfl ?_
          refine gd_ialdv E (K.1 153 (.iaload, 0) rfl).1 (j := k) (by decide) (rfl) (rfl) (by omega) (by decide) (v := nI (gs_u S k)) (u1) ?_
          refine gd_r E K 1 (pc' := 155) (lv' := [(0, .ref 27), (1, .int (nI k)), (2, .int 1), (3, .int (gm_nO (some a))), (4, .int (gm_nO (none))), (5, .int 0), (6, .int 0)]) (st' := [.int 2, .int (nI (gs_u S k)), .ref 27]) (w' := w2) rfl ?_
          by_cases hu2 : gs_u S k = 2
          · refine gd_r E K 1 (pc' := if (nI (gs_u S k)) = 2 then 158 else 185) (lv' := [(0, .ref 27), (1, .int (nI k)), (2, .int 1), (3, .int (gm_nO (some a))), (4, .int (gm_nO (none))), (5, .int 0), (6, .int 0)]) (st' := [.ref 27]) (w' := w2) rfl ?_
            refine gd_it (by rw [hu2]; rfl) ?_
            refine gd_r E K 8 (pc' := 197) (lv' := [(0, .ref 27), (1, .int (nI k)), (2, .int 1), (3, .int (gm_nO (some a))), (4, .int (gm_nO (none))), (5, .int 0), (6, .int 0)]) (st' := [.int 0]) (w' := gd_rI w2 27 (upd (w2.1 27) 0 2)) rfl ?_
            exact gd_iretp E hr hlk (K.1 197 (.ireturn, 0) rfl).1 (by rw [gs_half2_n2]; exact ⟨rfl, rfl, ⟨G, hR2.code 2⟩, hf2.trans (gf_m.I _ (by decide) _)⟩)
          · refine gd_r E K 1 (pc' := if (nI (gs_u S k)) = 2 then 158 else 185) (lv' := [(0, .ref 27), (1, .int (nI k)), (2, .int 1), (3, .int (gm_nO (some a))), (4, .int (gm_nO (none))), (5, .int 0), (6, .int 0)]) (st' := [.ref 27]) (w' := w2) rfl ?_
            refine gd_if (by rw [show (2 : Int32) = nI 2 from rfl, nI_eq (by omega) (by decide)]; exact hu2) ?_
            refine gd_r E K 6 (pc' := 197) (lv' := [(0, .ref 27), (1, .int (nI k)), (2, .int 1), (3, .int (gm_nO (some a))), (4, .int (gm_nO (none))), (5, .int 0), (6, .int 0)]) (st' := [.int 0]) (w' := gd_rI w2 27 (upd (w2.1 27) 0 2)) rfl ?_
            exact gd_iretp E hr hlk (K.1 197 (.ireturn, 0) rfl).1 (by rw [gs_half2_n2]; exact ⟨rfl, rfl, ⟨G, hR2.code 2⟩, hf2.trans (gf_m.I _ (by decide) _)⟩)
        | false =>
          refine gd_r E K 1 (pc' := if (gs_b (false)) = 0 then 185 else 148) (lv' := [(0, .ref 27), (1, .int (nI k)), (2, .int 1), (3, .int (gm_nO (some a))), (4, .int (gm_nO (none))), (5, .int 0), (6, .int 0)]) (st' := [.ref 27]) (w' := w2) rfl ?_
          refine gd_it (by decide) ?_
          refine gd_r E K 6 (pc' := 197) (lv' := [(0, .ref 27), (1, .int (nI k)), (2, .int 1), (3, .int (gm_nO (some a))), (4, .int (gm_nO (none))), (5, .int 0), (6, .int 0)]) (st' := [.int 0]) (w' := gd_rI w2 27 (upd (w2.1 27) 0 2)) rfl ?_
          exact gd_iretp E hr hlk (K.1 197 (.ireturn, 0) rfl).1 (by rw [gs_half2_n2]; exact ⟨rfl, rfl, ⟨G, hR2.code 2⟩, hf2.trans (gf_m.I _ (by decide) _)⟩)
      | some b =>
        have hb64 := gm_mv_lt c2 h2
        refine gd_r E K 1 (pc' := if (gm_nO (some b)) < 0 then 84 else 80) (lv' := [(0, .ref 27), (1, .int (nI k)), (2, .int 1), (3, .int (gm_nO (some a))), (4, .int (gm_nO (some b)))]) (st' := []) (w' := w2) rfl ?_
        refine gd_if (gm_nO_some (by omega)) ?_
        obtain ⟨ka, ka8⟩ := hR2.KK a ha64
        obtain ⟨kb, kb8⟩ := hR2.KK b hb64
        have hh2 : gs_half2 S k (some a) (some b) = if gs_halfok S k a b then (0, gs_made S, gs_halfS S k a b) else (2, 0, S) := rfl
        rw [hh2]
        clear hh2
        refine gd_r E K 3 (pc' := 87) (lv' := [(0, .ref 27), (1, .int (nI k)), (2, .int 1), (3, .int (gm_nO (some a))), (4, .int (gm_nO (some b))), (5, .int 1)]) (st' := []) (w' := w2) rfl ?_
        refine gd_cg (lv' := [(0, .ref 27), (1, .int (nI k)), (2, .int 1), (3, .int (nI a)), (4, .int (nI b)), (5, .int 1)]) (st' := []) (w' := w2) ?_ (rfl) (rfl) (rfl)
        refine gd_r E K 5 (pc' := 97) (lv' := [(0, .ref 27), (1, .int (nI k)), (2, .int 1), (3, .int (nI a)), (4, .int (nI b)), (5, .int 1)]) (st' := [.int (nI a), .ref 28]) (w' := w2) rfl ?_
        refine gd_ialdv E (K.1 97 (.iaload, 0) rfl).1 (j := a) (by decide) (rfl) (rfl) (ha64) (by decide) (v := nI (gs_k S a)) (ka) ?_
        refine gd_r E K 1 (pc' := 99) (lv' := [(0, .ref 27), (1, .int (nI k)), (2, .int 1), (3, .int (nI a)), (4, .int (nI b)), (5, .int 1)]) (st' := [.int 1, .int (nI (gs_k S a))]) (w' := w2) rfl ?_
        by_cases hka : gs_k S a = 1
        · refine gd_r E K 1 (pc' := if (nI (gs_k S a)) = 1 then 136 else 102) (lv' := [(0, .ref 27), (1, .int (nI k)), (2, .int 1), (3, .int (nI a)), (4, .int (nI b)), (5, .int 1)]) (st' := []) (w' := w2) rfl ?_
          refine gd_it (by rw [hka]; rfl) ?_
          have hft : gs_fits S k a b = false := by rw [gs_fits, decide_eq_true hka]; simp
          refine gd_r E K 5 (pc' := 142) (lv' := [(0, .ref 27), (1, .int (nI k)), (2, .int 1), (3, .int (nI a)), (4, .int (nI b)), (5, .int 1), (6, .int 0)]) (st' := [.int (nI k), .ref 27, .ref 27]) (w' := w2) rfl ?_
          refine gd_cV E hA (av := [.int (nI k)]) (rest := [.ref 27]) (c2_isFree hinj _ hR2 k hk) (K.1 142 (.invokevirtual 129, 0) rfl).1 ml_M_129 cv_M_isFree (by decide) (rfl) ⟨Nat.le_of_ble_eq_true rfl, Nat.le_of_ble_eq_true rfl⟩ ⟨Nat.zero_le _, Nat.zero_le _⟩ rfl (Nat.le_of_ble_eq_true rfl) ?_
          cases hfr : gs_free S k with
          | true =>
            refine gd_r E K 1 (pc' := if (gs_b (true)) = 0 then 185 else 148) (lv' := [(0, .ref 27), (1, .int (nI k)), (2, .int 1), (3, .int (nI a)), (4, .int (nI b)), (5, .int 1), (6, .int 0)]) (st' := [.ref 27]) (w' := w2) rfl ?_
            refine gd_if (by decide) ?_
            refine gd_r E K 3 (pc' := 153) (lv' := [(0, .ref 27), (1, .int (nI k)), (2, .int 1), (3, .int (nI a)), (4, .int (nI b)), (5, .int 1), (6, .int 0)]) (st' := [.int (nI k), .ref 29, .ref 27]) (w' := w2) rfl ?_
            refine gd_ialdv E (K.1 153 (.iaload, 0) rfl).1 (j := k) (by decide) (rfl) (rfl) (by omega) (by decide) (v := nI (gs_u S k)) (u1) ?_
            refine gd_r E K 1 (pc' := 155) (lv' := [(0, .ref 27), (1, .int (nI k)), (2, .int 1), (3, .int (nI a)), (4, .int (nI b)), (5, .int 1), (6, .int 0)]) (st' := [.int 2, .int (nI (gs_u S k)), .ref 27]) (w' := w2) rfl ?_
            by_cases hu2 : gs_u S k = 2
            · refine gd_r E K 1 (pc' := if (nI (gs_u S k)) = 2 then 158 else 185) (lv' := [(0, .ref 27), (1, .int (nI k)), (2, .int 1), (3, .int (nI a)), (4, .int (nI b)), (5, .int 1), (6, .int 0)]) (st' := [.ref 27]) (w' := w2) rfl ?_
              refine gd_it (by rw [hu2]; rfl) ?_
              refine gd_r E K 8 (pc' := 197) (lv' := [(0, .ref 27), (1, .int (nI k)), (2, .int 1), (3, .int (nI a)), (4, .int (nI b)), (5, .int 1), (6, .int 0)]) (st' := [.int 0]) (w' := gd_rI w2 27 (upd (w2.1 27) 0 2)) rfl ?_
              exact gd_iretp E hr hlk (K.1 197 (.ireturn, 0) rfl).1 (by rw [if_neg (Bool.eq_false_iff.mp (by rw [gs_halfok, hft]; simp))]; exact ⟨rfl, rfl, ⟨G, hR2.code 2⟩, hf2.trans (gf_m.I _ (by decide) _)⟩)
            · refine gd_r E K 1 (pc' := if (nI (gs_u S k)) = 2 then 158 else 185) (lv' := [(0, .ref 27), (1, .int (nI k)), (2, .int 1), (3, .int (nI a)), (4, .int (nI b)), (5, .int 1), (6, .int 0)]) (st' := [.ref 27]) (w' := w2) rfl ?_
              refine gd_if (by rw [show (2 : Int32) = nI 2 from rfl, nI_eq (by omega) (by decide)]; exact hu2) ?_
              refine gd_r E K 6 (pc' := 197) (lv' := [(0, .ref 27), (1, .int (nI k)), (2, .int 1), (3, .int (nI a)), (4, .int (nI b)), (5, .int 1), (6, .int 0)]) (st' := [.int 0]) (w' := gd_rI w2 27 (upd (w2.1 27) 0 2)) rfl ?_
              exact gd_iretp E hr hlk (K.1 197 (.ireturn, 0) rfl).1 (by rw [if_neg (Bool.eq_false_iff.mp (by rw [gs_halfok, decide_eq_false hu2]; simp))]; exact ⟨rfl, rfl, ⟨G, hR2.code 2⟩, hf2.trans (gf_m.I _ (by decide) _)⟩)
          | false =>
            refine gd_r E K 1 (pc' := if (gs_b (false)) = 0 then 185 else 148) (lv' := [(0, .ref 27), (1, .int (nI k)), (2, .int 1), (3, .int (nI a)), (4, .int (nI b)), (5, .int 1), (6, .int 0)]) (st' := [.ref 27]) (w' := w2) rfl ?_
            refine gd_it (by decide) ?_
            refine gd_r E K 6 (pc' := 197) (lv' := [(0, .ref 27), (1, .int (nI k)), (2, .int 1), (3, .int (nI a)), (4, .int (nI b)), (5, .int 1), (6, .int 0)]) (st' := [.int 0]) (w' := gd_rI w2 27 (upd (w2.1 27) 0 2)) rfl ?_
            exact gd_iretp E hr hlk (K.1 197 (.ireturn, 0) rfl).1 (by rw [if_neg (Bool.eq_false_iff.mp (by rw [gs_halfok, hfr]; simp))]; exact ⟨rfl, rfl, ⟨G, hR2.code 2⟩, hf2.trans (gf_m.I _ (by decide) _)⟩)
        · refine gd_r E K 1 (pc' := if (nI (gs_k S a)) = 1 then 136 else 102) (lv' := [(0, .ref 27), (1, .int (nI k)), (2, .int 1), (3, .int (nI a)), (4, .int (nI b)), (5, .int 1)]) (st' := []) (w' := w2) rfl ?_
          refine gd_if (by rw [show (1 : Int32) = nI 1 from rfl, nI_eq (by omega) (by decide)]; exact hka) ?_
          refine gd_r E K 3 (pc' := 108) (lv' := [(0, .ref 27), (1, .int (nI k)), (2, .int 1), (3, .int (nI a)), (4, .int (nI b)), (5, .int 1)]) (st' := [.int (nI b), .ref 28]) (w' := w2) rfl ?_
          refine gd_ialdv E (K.1 108 (.iaload, 0) rfl).1 (j := b) (by decide) (rfl) (rfl) (hb64) (by decide) (v := nI (gs_k S b)) (kb) ?_
          refine gd_r E K 1 (pc' := 110) (lv' := [(0, .ref 27), (1, .int (nI k)), (2, .int 1), (3, .int (nI a)), (4, .int (nI b)), (5, .int 1)]) (st' := [.int 1, .int (nI (gs_k S b))]) (w' := w2) rfl ?_
          by_cases hkb : gs_k S b = 1
          · refine gd_r E K 1 (pc' := if (nI (gs_k S b)) = 1 then 136 else 113) (lv' := [(0, .ref 27), (1, .int (nI k)), (2, .int 1), (3, .int (nI a)), (4, .int (nI b)), (5, .int 1)]) (st' := []) (w' := w2) rfl ?_
            refine gd_it (by rw [hkb]; rfl) ?_
            have hft : gs_fits S k a b = false := by rw [gs_fits, decide_eq_true hkb]; simp
            refine gd_r E K 5 (pc' := 142) (lv' := [(0, .ref 27), (1, .int (nI k)), (2, .int 1), (3, .int (nI a)), (4, .int (nI b)), (5, .int 1), (6, .int 0)]) (st' := [.int (nI k), .ref 27, .ref 27]) (w' := w2) rfl ?_
            refine gd_cV E hA (av := [.int (nI k)]) (rest := [.ref 27]) (c2_isFree hinj _ hR2 k hk) (K.1 142 (.invokevirtual 129, 0) rfl).1 ml_M_129 cv_M_isFree (by decide) (rfl) ⟨Nat.le_of_ble_eq_true rfl, Nat.le_of_ble_eq_true rfl⟩ ⟨Nat.zero_le _, Nat.zero_le _⟩ rfl (Nat.le_of_ble_eq_true rfl) ?_
            cases hfr : gs_free S k with
            | true =>
              refine gd_r E K 1 (pc' := if (gs_b (true)) = 0 then 185 else 148) (lv' := [(0, .ref 27), (1, .int (nI k)), (2, .int 1), (3, .int (nI a)), (4, .int (nI b)), (5, .int 1), (6, .int 0)]) (st' := [.ref 27]) (w' := w2) rfl ?_
              refine gd_if (by decide) ?_
              refine gd_r E K 3 (pc' := 153) (lv' := [(0, .ref 27), (1, .int (nI k)), (2, .int 1), (3, .int (nI a)), (4, .int (nI b)), (5, .int 1), (6, .int 0)]) (st' := [.int (nI k), .ref 29, .ref 27]) (w' := w2) rfl ?_
              refine gd_ialdv E (K.1 153 (.iaload, 0) rfl).1 (j := k) (by decide) (rfl) (rfl) (by omega) (by decide) (v := nI (gs_u S k)) (u1) ?_
              refine gd_r E K 1 (pc' := 155) (lv' := [(0, .ref 27), (1, .int (nI k)), (2, .int 1), (3, .int (nI a)), (4, .int (nI b)), (5, .int 1), (6, .int 0)]) (st' := [.int 2, .int (nI (gs_u S k)), .ref 27]) (w' := w2) rfl ?_
              by_cases hu2 : gs_u S k = 2
              · refine gd_r E K 1 (pc' := if (nI (gs_u S k)) = 2 then 158 else 185) (lv' := [(0, .ref 27), (1, .int (nI k)), (2, .int 1), (3, .int (nI a)), (4, .int (nI b)), (5, .int 1), (6, .int 0)]) (st' := [.ref 27]) (w' := w2) rfl ?_
                refine gd_it (by rw [hu2]; rfl) ?_
                refine gd_r E K 8 (pc' := 197) (lv' := [(0, .ref 27), (1, .int (nI k)), (2, .int 1), (3, .int (nI a)), (4, .int (nI b)), (5, .int 1), (6, .int 0)]) (st' := [.int 0]) (w' := gd_rI w2 27 (upd (w2.1 27) 0 2)) rfl ?_
                exact gd_iretp E hr hlk (K.1 197 (.ireturn, 0) rfl).1 (by rw [if_neg (Bool.eq_false_iff.mp (by rw [gs_halfok, hft]; simp))]; exact ⟨rfl, rfl, ⟨G, hR2.code 2⟩, hf2.trans (gf_m.I _ (by decide) _)⟩)
              · refine gd_r E K 1 (pc' := if (nI (gs_u S k)) = 2 then 158 else 185) (lv' := [(0, .ref 27), (1, .int (nI k)), (2, .int 1), (3, .int (nI a)), (4, .int (nI b)), (5, .int 1), (6, .int 0)]) (st' := [.ref 27]) (w' := w2) rfl ?_
                refine gd_if (by rw [show (2 : Int32) = nI 2 from rfl, nI_eq (by omega) (by decide)]; exact hu2) ?_
                refine gd_r E K 6 (pc' := 197) (lv' := [(0, .ref 27), (1, .int (nI k)), (2, .int 1), (3, .int (nI a)), (4, .int (nI b)), (5, .int 1), (6, .int 0)]) (st' := [.int 0]) (w' := gd_rI w2 27 (upd (w2.1 27) 0 2)) rfl ?_
                exact gd_iretp E hr hlk (K.1 197 (.ireturn, 0) rfl).1 (by rw [if_neg (Bool.eq_false_iff.mp (by rw [gs_halfok, decide_eq_false hu2]; simp))]; exact ⟨rfl, rfl, ⟨G, hR2.code 2⟩, hf2.trans (gf_m.I _ (by decide) _)⟩)
            | false =>
              refine gd_r E K 1 (pc' := if (gs_b (false)) = 0 then 185 else 148) (lv' := [(0, .ref 27), (1, .int (nI k)), (2, .int 1), (3, .int (nI a)), (4, .int (nI b)), (5, .int 1), (6, .int 0)]) (st' := [.ref 27]) (w' := w2) rfl ?_
              refine gd_it (by decide) ?_
              refine gd_r E K 6 (pc' := 197) (lv' := [(0, .ref 27), (1, .int (nI k)), (2, .int 1), (3, .int (nI a)), (4, .int (nI b)), (5, .int 1), (6, .int 0)]) (st' := [.int 0]) (w' := gd_rI w2 27 (upd (w2.1 27) 0 2)) rfl ?_
              exact gd_iretp E hr hlk (K.1 197 (.ireturn, 0) rfl).1 (by rw [if_neg (Bool.eq_false_iff.mp (by rw [gs_halfok, hfr]; simp))]; exact ⟨rfl, rfl, ⟨G, hR2.code 2⟩, hf2.trans (gf_m.I _ (by decide) _)⟩)
          · refine gd_r E K 1 (pc' := if (nI (gs_k S b)) = 1 then 136 else 113) (lv' := [(0, .ref 27), (1, .int (nI k)), (2, .int 1), (3, .int (nI a)), (4, .int (nI b)), (5, .int 1)]) (st' := []) (w' := w2) rfl ?_
            refine gd_if (by rw [show (1 : Int32) = nI 1 from rfl, nI_eq (by omega) (by decide)]; exact hkb) ?_
            refine gd_r E K 3 (pc' := 116) (lv' := [(0, .ref 27), (1, .int (nI k)), (2, .int 1), (3, .int (nI a)), (4, .int (nI b)), (5, .int 1)]) (st' := [.int 0, .int (nI a), .ref 27]) (w' := w2) rfl ?_
            refine gd_cg (lv' := [(0, .ref 27), (1, .int (nI k)), (2, .int 1), (3, .int (nI a)), (4, .int (nI b)), (5, .int 1)]) (st' := [.int (nI 0), .int (nI a), .ref 27]) (w' := w2) ?_ (rfl) (rfl) (rfl)
            refine gd_cV E hA (av := [.int (nI a), .int (nI 0)]) (rest := []) (c2_restk hinj w2 k hT2 a ha64) (K.1 116 (.invokevirtual 98, 0) rfl).1 ml_M_98 cv_M_canRest (by decide) (rfl) ⟨Nat.le_of_ble_eq_true rfl, Nat.le_of_ble_eq_true rfl⟩ ⟨Nat.zero_le _, Nat.zero_le _⟩ rfl (Nat.le_of_ble_eq_true rfl) ?_
            cases hra : gs_rest S k a with
            | true =>
              refine gd_r E K 1 (pc' := if (gs_b (true)) = 0 then 136 else 122) (lv' := [(0, .ref 27), (1, .int (nI k)), (2, .int 1), (3, .int (nI a)), (4, .int (nI b)), (5, .int 1)]) (st' := []) (w' := w2) rfl ?_
              refine gd_if (by decide) ?_
              refine gd_r E K 3 (pc' := 126) (lv' := [(0, .ref 27), (1, .int (nI k)), (2, .int 1), (3, .int (nI a)), (4, .int (nI b)), (5, .int 1)]) (st' := [.int 0, .int (nI b), .ref 27]) (w' := w2) rfl ?_
              refine gd_cg (lv' := [(0, .ref 27), (1, .int (nI k)), (2, .int 1), (3, .int (nI a)), (4, .int (nI b)), (5, .int 1)]) (st' := [.int (nI 0), .int (nI b), .ref 27]) (w' := w2) ?_ (rfl) (rfl) (rfl)
              refine gd_cV E hA (av := [.int (nI b), .int (nI 0)]) (rest := []) (c2_restk hinj w2 k hT2 b hb64) (K.1 126 (.invokevirtual 98, 0) rfl).1 ml_M_98 cv_M_canRest (by decide) (rfl) ⟨Nat.le_of_ble_eq_true rfl, Nat.le_of_ble_eq_true rfl⟩ ⟨Nat.zero_le _, Nat.zero_le _⟩ rfl (Nat.le_of_ble_eq_true rfl) ?_
              cases hrb : gs_rest S k b with
              | true =>
                refine gd_r E K 1 (pc' := if (gs_b (true)) = 0 then 136 else 132) (lv' := [(0, .ref 27), (1, .int (nI k)), (2, .int 1), (3, .int (nI a)), (4, .int (nI b)), (5, .int 1)]) (st' := []) (w' := w2) rfl ?_
                refine gd_if (by decide) ?_
                have hft : gs_fits S k a b = true := by rw [gs_fits, decide_eq_false hka, decide_eq_false hkb, hra, hrb]; rfl
                refine gd_r E K 6 (pc' := 142) (lv' := [(0, .ref 27), (1, .int (nI k)), (2, .int 1), (3, .int (nI a)), (4, .int (nI b)), (5, .int 1), (6, .int 1)]) (st' := [.int (nI k), .ref 27, .ref 27]) (w' := w2) rfl ?_
                refine gd_cV E hA (av := [.int (nI k)]) (rest := [.ref 27]) (c2_isFree hinj _ hR2 k hk) (K.1 142 (.invokevirtual 129, 0) rfl).1 ml_M_129 cv_M_isFree (by decide) (rfl) ⟨Nat.le_of_ble_eq_true rfl, Nat.le_of_ble_eq_true rfl⟩ ⟨Nat.zero_le _, Nat.zero_le _⟩ rfl (Nat.le_of_ble_eq_true rfl) ?_
                cases hfr : gs_free S k with
                | true =>
                  refine gd_r E K 1 (pc' := if (gs_b (true)) = 0 then 185 else 148) (lv' := [(0, .ref 27), (1, .int (nI k)), (2, .int 1), (3, .int (nI a)), (4, .int (nI b)), (5, .int 1), (6, .int 1)]) (st' := [.ref 27]) (w' := w2) rfl ?_
                  refine gd_if (by decide) ?_
                  refine gd_r E K 3 (pc' := 153) (lv' := [(0, .ref 27), (1, .int (nI k)), (2, .int 1), (3, .int (nI a)), (4, .int (nI b)), (5, .int 1), (6, .int 1)]) (st' := [.int (nI k), .ref 29, .ref 27]) (w' := w2) rfl ?_
                  refine gd_ialdv E (K.1 153 (.iaload, 0) rfl).1 (j := k) (by decide) (rfl) (rfl) (by omega) (by decide) (v := nI (gs_u S k)) (u1) ?_
                  refine gd_r E K 1 (pc' := 155) (lv' := [(0, .ref 27), (1, .int (nI k)), (2, .int 1), (3, .int (nI a)), (4, .int (nI b)), (5, .int 1), (6, .int 1)]) (st' := [.int 2, .int (nI (gs_u S k)), .ref 27]) (w' := w2) rfl ?_
                  by_cases hu2 : gs_u S k = 2
                  · refine gd_r E K 1 (pc' := if (nI (gs_u S k)) = 2 then 158 else 185) (lv' := [(0, .ref 27), (1, .int (nI k)), (2, .int 1), (3, .int (nI a)), (4, .int (nI b)), (5, .int 1), (6, .int 1)]) (st' := [.ref 27]) (w' := w2) rfl ?_
                    refine gd_it (by rw [hu2]; rfl) ?_
                    refine gd_r E K 3 (pc' := 164) (lv' := [(0, .ref 27), (1, .int (nI k)), (2, .int 1), (3, .int (nI a)), (4, .int (nI b)), (5, .int 1), (6, .int 1)]) (st' := [.ref 27, .ref 27]) (w' := w2) rfl ?_
                    refine gd_cV E hA (av := []) (rest := [.ref 27]) (c2_count hinj _ hR2.U) (K.1 164 (.invokevirtual 71, 0) rfl).1 ml_M_71 cv_M_count (by decide) (rfl) ⟨Nat.le_of_ble_eq_true rfl, Nat.le_of_ble_eq_true rfl⟩ ⟨Nat.zero_le _, Nat.zero_le _⟩ rfl (Nat.le_of_ble_eq_true rfl) ?_
                    refine gd_r E K 1 (pc' := 169) (lv' := [(0, .ref 27), (1, .int (nI k)), (2, .int 1), (3, .int (nI a)), (4, .int (nI b)), (5, .int 1), (6, .int 1)]) (st' := [.int 6, .int (nI (gs_cnt (gs_u S) (gs_made S))), .ref 27]) (w' := w2) rfl ?_
                    by_cases h6 : gs_cnt (gs_u S) (gs_made S) < 6
                    · refine gd_r E K 1 (pc' := if 6 ≤ (nI (gs_cnt (gs_u S) (gs_made S))) then 185 else 172) (lv' := [(0, .ref 27), (1, .int (nI k)), (2, .int 1), (3, .int (nI a)), (4, .int (nI b)), (5, .int 1), (6, .int 1)]) (st' := [.ref 27]) (w' := w2) rfl ?_
                      refine gd_if (nI_ge h6 (by decide)) ?_
                      refine gd_r E K 3 (pc' := 178) (lv' := [(0, .ref 27), (1, .int (nI k)), (2, .int 1), (3, .int (nI a)), (4, .int (nI b)), (5, .int 1), (6, .int 1)]) (st' := [.int 59, .int (w2.1 27 3), .ref 27]) (w' := w2) rfl ?_
                      refine gd_cg (lv' := [(0, .ref 27), (1, .int (nI k)), (2, .int 1), (3, .int (nI a)), (4, .int (nI b)), (5, .int 1), (6, .int 1)]) (st' := [.int 59, .int (nI (gs_made S)), .ref 27]) (w' := w2) ?_ (rfl) (by simp only [hR2.1.1]) rfl
                      by_cases h59 : gs_made S < 59
                      · refine gd_r E K 1 (pc' := if 59 ≤ (nI (gs_made S)) then 185 else 181) (lv' := [(0, .ref 27), (1, .int (nI k)), (2, .int 1), (3, .int (nI a)), (4, .int (nI b)), (5, .int 1), (6, .int 1)]) (st' := [.ref 27]) (w' := w2) rfl ?_
                        refine gd_if (nI_ge h59 (by decide)) ?_
                        have hall : gs_halfok S k a b = true := by rw [gs_halfok, hfr, decide_eq_true hu2, hft, decide_eq_true h6, decide_eq_true h59]; rfl
                        rw [if_pos hall]
                        refine gd_r E K 10 (pc' := 204) (lv' := [(0, .ref 27), (1, .int (nI k)), (2, .int 1), (3, .int (nI a)), (4, .int (nI b)), (5, .int 1), (6, .int 1)]) (st' := [.int 0, .int (nI k), .ref 29]) (w' := gd_rI w2 27 (upd (w2.1 27) 0 0)) rfl ?_
                        refine gd_iast E (K.1 204 (.iastore, 0) rfl).1 (j := k) (by decide) (rfl) (rfl) (by omega) (by decide) ?_
                        refine gd_r E K 3 (pc' := 208) (lv' := [(0, .ref 27), (1, .int (nI k)), (2, .int 1), (3, .int (nI a)), (4, .int (nI b)), (5, .int 1), (6, .int 1)]) (st' := [.int 1, .int (nI a), .ref 27]) (w' := gd_rI (gd_rI w2 27 (upd (w2.1 27) 0 0)) 29 (upd ((gd_rI w2 27 (upd (w2.1 27) 0 0)).1 29) k 0)) rfl ?_
                        have hR3 := (hR2.code 0).f0 k 0 (by decide)
                        refine gd_cg (lv' := [(0, .ref 27), (1, .int (nI k)), (2, .int 1), (3, .int (nI a)), (4, .int (nI b)), (5, .int 1), (6, .int 1)]) (st' := [.int (nI 1), .int (nI a), .ref 27]) (w' := gd_rI (gd_rI w2 27 (upd (w2.1 27) 0 0)) 29 (upd ((gd_rI w2 27 (upd (w2.1 27) 0 0)).1 29) k 0)) ?_ (rfl) (rfl) (rfl)
                        refine gd_cVp E hA (av := [.int (nI a), .int (nI 1)]) (rest := []) (c2_Madd hinj _ hR3 a 1 ha64 (by decide) (by show gs_made S < 60; omega)) (K.1 208 (.invokevirtual 119, 0) rfl).1 ml_M_119 cv_M_add (by decide) (rfl) ⟨Nat.le_of_ble_eq_true rfl, Nat.le_of_ble_eq_true rfl⟩ ⟨Nat.zero_le _, Nat.zero_le _⟩ rfl (Nat.le_of_ble_eq_true rfl) (fun r9 w4 h9 => ?_)
                        obtain ⟨rfl, ⟨G4, hR4⟩, hf4, hc4⟩ := h9
                        refine gd_r E K 4 (pc' := 217) (lv' := [(0, .ref 27), (1, .int (nI k)), (2, .int 1), (3, .int (nI a)), (4, .int (nI b)), (5, .int 1), (6, .int 1), (7, .int (nI (gs_made S)))]) (st' := [.int 1, .int (nI b), .ref 27]) (w' := w4) rfl ?_
                        refine gd_cg (lv' := [(0, .ref 27), (1, .int (nI k)), (2, .int 1), (3, .int (nI a)), (4, .int (nI b)), (5, .int 1), (6, .int 1), (7, .int (nI (gs_made S)))]) (st' := [.int (nI 1), .int (nI b), .ref 27]) (w' := w4) ?_ (rfl) (rfl) (rfl)
                        refine gd_cVp E hA (av := [.int (nI b), .int (nI 1)]) (rest := []) (c2_Madd hinj _ hR4 b 1 hb64 (by decide) (by show gs_made S + 1 < 60; omega)) (K.1 217 (.invokevirtual 119, 0) rfl).1 ml_M_119 cv_M_add (by decide) (rfl) ⟨Nat.le_of_ble_eq_true rfl, Nat.le_of_ble_eq_true rfl⟩ ⟨Nat.zero_le _, Nat.zero_le _⟩ rfl (Nat.le_of_ble_eq_true rfl) (fun r9 w5 h9 => ?_)
                        obtain ⟨rfl, ⟨G5, hR5⟩, hf5, hc5⟩ := h9
                        have hs5 : ∀ j, j < 4 → w5.2.1 31 (4 * k + j) = gs_sh S k j := fun j hj => hR5.2.2.2.2.2.2.2.1 k (by omega) j hj
                        have hp5 : w5.1 32 k = nI (gs_p S k) := (hR5.2.2.2.2.2.2.2.2.1 k (by omega)).1
                        have hp6 : gs_p S k ≤ 60 := (hR5.2.2.2.2.2.2.2.2.1 k (by omega)).2
                        have hf9 : gf_m w w5 := hf2.trans ((gf_m.I _ (by decide) _).trans ((gf_m.I _ (by decide) _).trans (hf4.trans hf5)))
                        have hc9 : w5.1 27 0 = 0 := (hc5.trans hc4).trans rfl
                        have hR9 := hR5
                        clear hR5 hf5 hc5 hR4 hf4 hc4 hR3
                        refine gd_r E K 22 (pc' := 254) (lv' := [(0, .ref 27), (1, .int (nI k)), (2, .int 1), (3, .int (nI a)), (4, .int (nI b)), (5, .int 1), (6, .int 1), (7, .int (nI (gs_made S))), (8, .int 0)]) (st' := [.int ((4 * (nI k)) + 0), .ref 31, .int ((4 * (nI (gs_made S))) + 0), .ref 31]) (w' := w5) rfl ?_
                        refine gd_laldv E (K.1 254 (.laload, 0) rfl).1 (j := 4 * k + 0) (by decide) (rfl) (by show nI 4 * nI k + nI 0 = _; rw [pk_mul, nI_add]) (by omega) (by decide) (v := gs_sh S k 0) (hs5 0 (by decide)) ?_
                        refine gd_last E (K.1 255 (.lastore, 0) rfl).1 (j := 4 * (gs_made S) + 0) (by decide) (rfl) (by show nI 4 * nI (gs_made S) + nI 0 = _; rw [pk_mul, nI_add] <;> (congr 1 <;> omega)) (by omega) (by decide) ?_
                        replace hR9 := hR9.sset (gs_made S) 0 (gs_sh S k 0) (by decide)
                        replace hs5 : ∀ j, j < 4 → (gd_rL w5 31 (vp_updL (w5.2.1 31) (4 * (gs_made S) + 0) (gs_sh S k 0))).2.1 31 (4 * k + j) = gs_sh S k j := fun j hj => by rw [gd_rL_s, gd_ul_n (by omega)]; exact hs5 j hj
                        replace hp5 : (gd_rL w5 31 (vp_updL (w5.2.1 31) (4 * (gs_made S) + 0) (gs_sh S k 0))).1 32 k = nI (gs_p S k) := hp5
                        replace hc9 : (gd_rL w5 31 (vp_updL (w5.2.1 31) (4 * (gs_made S) + 0) (gs_sh S k 0))).1 27 0 = 0 := hc9
                        replace hf9 : gf_m w (gd_rL w5 31 (vp_updL (w5.2.1 31) (4 * (gs_made S) + 0) (gs_sh S k 0))) := hf9.trans (gf_m.L _ (by decide) _)
                        generalize gd_rL w5 31 (vp_updL (w5.2.1 31) (4 * (gs_made S) + 0) (gs_sh S k 0)) = v0 at hR9 hs5 hp5 hc9 hf9 ⊢
                        refine gd_r E K 21 (pc' := 254) (lv' := [(0, .ref 27), (1, .int (nI k)), (2, .int 1), (3, .int (nI a)), (4, .int (nI b)), (5, .int 1), (6, .int 1), (7, .int (nI (gs_made S))), (8, .int 1)]) (st' := [.int ((4 * (nI k)) + 1), .ref 31, .int ((4 * (nI (gs_made S))) + 1), .ref 31]) (w' := v0) rfl ?_
                        refine gd_laldv E (K.1 254 (.laload, 0) rfl).1 (j := 4 * k + 1) (by decide) (rfl) (by show nI 4 * nI k + nI 1 = _; rw [pk_mul, nI_add]) (by omega) (by decide) (v := gs_sh S k 1) (hs5 1 (by decide)) ?_
                        refine gd_last E (K.1 255 (.lastore, 0) rfl).1 (j := 4 * (gs_made S) + 1) (by decide) (rfl) (by show nI 4 * nI (gs_made S) + nI 1 = _; rw [pk_mul, nI_add] <;> (congr 1 <;> omega)) (by omega) (by decide) ?_
                        replace hR9 := hR9.sset (gs_made S) 1 (gs_sh S k 1) (by decide)
                        replace hs5 : ∀ j, j < 4 → (gd_rL v0 31 (vp_updL (v0.2.1 31) (4 * (gs_made S) + 1) (gs_sh S k 1))).2.1 31 (4 * k + j) = gs_sh S k j := fun j hj => by rw [gd_rL_s, gd_ul_n (by omega)]; exact hs5 j hj
                        replace hp5 : (gd_rL v0 31 (vp_updL (v0.2.1 31) (4 * (gs_made S) + 1) (gs_sh S k 1))).1 32 k = nI (gs_p S k) := hp5
                        replace hc9 : (gd_rL v0 31 (vp_updL (v0.2.1 31) (4 * (gs_made S) + 1) (gs_sh S k 1))).1 27 0 = 0 := hc9
                        replace hf9 : gf_m w (gd_rL v0 31 (vp_updL (v0.2.1 31) (4 * (gs_made S) + 1) (gs_sh S k 1))) := hf9.trans (gf_m.L _ (by decide) _)
                        generalize gd_rL v0 31 (vp_updL (v0.2.1 31) (4 * (gs_made S) + 1) (gs_sh S k 1)) = v1 at hR9 hs5 hp5 hc9 hf9 ⊢
                        refine gd_r E K 21 (pc' := 254) (lv' := [(0, .ref 27), (1, .int (nI k)), (2, .int 1), (3, .int (nI a)), (4, .int (nI b)), (5, .int 1), (6, .int 1), (7, .int (nI (gs_made S))), (8, .int 2)]) (st' := [.int ((4 * (nI k)) + 2), .ref 31, .int ((4 * (nI (gs_made S))) + 2), .ref 31]) (w' := v1) rfl ?_
                        refine gd_laldv E (K.1 254 (.laload, 0) rfl).1 (j := 4 * k + 2) (by decide) (rfl) (by show nI 4 * nI k + nI 2 = _; rw [pk_mul, nI_add]) (by omega) (by decide) (v := gs_sh S k 2) (hs5 2 (by decide)) ?_
                        refine gd_last E (K.1 255 (.lastore, 0) rfl).1 (j := 4 * (gs_made S) + 2) (by decide) (rfl) (by show nI 4 * nI (gs_made S) + nI 2 = _; rw [pk_mul, nI_add] <;> (congr 1 <;> omega)) (by omega) (by decide) ?_
                        replace hR9 := hR9.sset (gs_made S) 2 (gs_sh S k 2) (by decide)
                        replace hs5 : ∀ j, j < 4 → (gd_rL v1 31 (vp_updL (v1.2.1 31) (4 * (gs_made S) + 2) (gs_sh S k 2))).2.1 31 (4 * k + j) = gs_sh S k j := fun j hj => by rw [gd_rL_s, gd_ul_n (by omega)]; exact hs5 j hj
                        replace hp5 : (gd_rL v1 31 (vp_updL (v1.2.1 31) (4 * (gs_made S) + 2) (gs_sh S k 2))).1 32 k = nI (gs_p S k) := hp5
                        replace hc9 : (gd_rL v1 31 (vp_updL (v1.2.1 31) (4 * (gs_made S) + 2) (gs_sh S k 2))).1 27 0 = 0 := hc9
                        replace hf9 : gf_m w (gd_rL v1 31 (vp_updL (v1.2.1 31) (4 * (gs_made S) + 2) (gs_sh S k 2))) := hf9.trans (gf_m.L _ (by decide) _)
                        generalize gd_rL v1 31 (vp_updL (v1.2.1 31) (4 * (gs_made S) + 2) (gs_sh S k 2)) = v2 at hR9 hs5 hp5 hc9 hf9 ⊢
                        refine gd_r E K 21 (pc' := 254) (lv' := [(0, .ref 27), (1, .int (nI k)), (2, .int 1), (3, .int (nI a)), (4, .int (nI b)), (5, .int 1), (6, .int 1), (7, .int (nI (gs_made S))), (8, .int 3)]) (st' := [.int ((4 * (nI k)) + 3), .ref 31, .int ((4 * (nI (gs_made S))) + 3), .ref 31]) (w' := v2) rfl ?_
                        refine gd_laldv E (K.1 254 (.laload, 0) rfl).1 (j := 4 * k + 3) (by decide) (rfl) (by show nI 4 * nI k + nI 3 = _; rw [pk_mul, nI_add]) (by omega) (by decide) (v := gs_sh S k 3) (hs5 3 (by decide)) ?_
                        refine gd_last E (K.1 255 (.lastore, 0) rfl).1 (j := 4 * (gs_made S) + 3) (by decide) (rfl) (by show nI 4 * nI (gs_made S) + nI 3 = _; rw [pk_mul, nI_add] <;> (congr 1 <;> omega)) (by omega) (by decide) ?_
                        replace hR9 := hR9.sset (gs_made S) 3 (gs_sh S k 3) (by decide)
                        replace hs5 : ∀ j, j < 4 → (gd_rL v2 31 (vp_updL (v2.2.1 31) (4 * (gs_made S) + 3) (gs_sh S k 3))).2.1 31 (4 * k + j) = gs_sh S k j := fun j hj => by rw [gd_rL_s, gd_ul_n (by omega)]; exact hs5 j hj
                        replace hp5 : (gd_rL v2 31 (vp_updL (v2.2.1 31) (4 * (gs_made S) + 3) (gs_sh S k 3))).1 32 k = nI (gs_p S k) := hp5
                        replace hc9 : (gd_rL v2 31 (vp_updL (v2.2.1 31) (4 * (gs_made S) + 3) (gs_sh S k 3))).1 27 0 = 0 := hc9
                        replace hf9 : gf_m w (gd_rL v2 31 (vp_updL (v2.2.1 31) (4 * (gs_made S) + 3) (gs_sh S k 3))) := hf9.trans (gf_m.L _ (by decide) _)
                        generalize gd_rL v2 31 (vp_updL (v2.2.1 31) (4 * (gs_made S) + 3) (gs_sh S k 3)) = v3 at hR9 hs5 hp5 hc9 hf9 ⊢
                        refine gd_r E K 21 (pc' := 254) (lv' := [(0, .ref 27), (1, .int (nI k)), (2, .int 1), (3, .int (nI a)), (4, .int (nI b)), (5, .int 1), (6, .int 1), (7, .int (nI (gs_made S))), (8, .int 4)]) (st' := [.int ((4 * (nI k)) + 0), .ref 31, .int ((4 * (nI (gs_made S))) + 4), .ref 31]) (w' := v3) rfl ?_
                        refine gd_laldv E (K.1 254 (.laload, 0) rfl).1 (j := 4 * k + 0) (by decide) (rfl) (by show nI 4 * nI k + nI 0 = _; rw [pk_mul, nI_add]) (by omega) (by decide) (v := gs_sh S k 0) (hs5 0 (by decide)) ?_
                        refine gd_last E (K.1 255 (.lastore, 0) rfl).1 (j := 4 * (gs_made S + 1) + 0) (by decide) (rfl) (by show nI 4 * nI (gs_made S) + nI 4 = _; rw [pk_mul, nI_add] <;> (congr 1 <;> omega)) (by omega) (by decide) ?_
                        replace hR9 := hR9.sset (gs_made S + 1) 0 (gs_sh S k 0) (by decide)
                        replace hs5 : ∀ j, j < 4 → (gd_rL v3 31 (vp_updL (v3.2.1 31) (4 * (gs_made S + 1) + 0) (gs_sh S k 0))).2.1 31 (4 * k + j) = gs_sh S k j := fun j hj => by rw [gd_rL_s, gd_ul_n (by omega)]; exact hs5 j hj
                        replace hp5 : (gd_rL v3 31 (vp_updL (v3.2.1 31) (4 * (gs_made S + 1) + 0) (gs_sh S k 0))).1 32 k = nI (gs_p S k) := hp5
                        replace hc9 : (gd_rL v3 31 (vp_updL (v3.2.1 31) (4 * (gs_made S + 1) + 0) (gs_sh S k 0))).1 27 0 = 0 := hc9
                        replace hf9 : gf_m w (gd_rL v3 31 (vp_updL (v3.2.1 31) (4 * (gs_made S + 1) + 0) (gs_sh S k 0))) := hf9.trans (gf_m.L _ (by decide) _)
                        generalize gd_rL v3 31 (vp_updL (v3.2.1 31) (4 * (gs_made S + 1) + 0) (gs_sh S k 0)) = v4 at hR9 hs5 hp5 hc9 hf9 ⊢
                        refine gd_r E K 21 (pc' := 254) (lv' := [(0, .ref 27), (1, .int (nI k)), (2, .int 1), (3, .int (nI a)), (4, .int (nI b)), (5, .int 1), (6, .int 1), (7, .int (nI (gs_made S))), (8, .int 5)]) (st' := [.int ((4 * (nI k)) + 1), .ref 31, .int ((4 * (nI (gs_made S))) + 5), .ref 31]) (w' := v4) rfl ?_
                        refine gd_laldv E (K.1 254 (.laload, 0) rfl).1 (j := 4 * k + 1) (by decide) (rfl) (by show nI 4 * nI k + nI 1 = _; rw [pk_mul, nI_add]) (by omega) (by decide) (v := gs_sh S k 1) (hs5 1 (by decide)) ?_
                        refine gd_last E (K.1 255 (.lastore, 0) rfl).1 (j := 4 * (gs_made S + 1) + 1) (by decide) (rfl) (by show nI 4 * nI (gs_made S) + nI 5 = _; rw [pk_mul, nI_add] <;> (congr 1 <;> omega)) (by omega) (by decide) ?_
                        replace hR9 := hR9.sset (gs_made S + 1) 1 (gs_sh S k 1) (by decide)
                        replace hs5 : ∀ j, j < 4 → (gd_rL v4 31 (vp_updL (v4.2.1 31) (4 * (gs_made S + 1) + 1) (gs_sh S k 1))).2.1 31 (4 * k + j) = gs_sh S k j := fun j hj => by rw [gd_rL_s, gd_ul_n (by omega)]; exact hs5 j hj
                        replace hp5 : (gd_rL v4 31 (vp_updL (v4.2.1 31) (4 * (gs_made S + 1) + 1) (gs_sh S k 1))).1 32 k = nI (gs_p S k) := hp5
                        replace hc9 : (gd_rL v4 31 (vp_updL (v4.2.1 31) (4 * (gs_made S + 1) + 1) (gs_sh S k 1))).1 27 0 = 0 := hc9
                        replace hf9 : gf_m w (gd_rL v4 31 (vp_updL (v4.2.1 31) (4 * (gs_made S + 1) + 1) (gs_sh S k 1))) := hf9.trans (gf_m.L _ (by decide) _)
                        generalize gd_rL v4 31 (vp_updL (v4.2.1 31) (4 * (gs_made S + 1) + 1) (gs_sh S k 1)) = v5 at hR9 hs5 hp5 hc9 hf9 ⊢
                        refine gd_r E K 21 (pc' := 254) (lv' := [(0, .ref 27), (1, .int (nI k)), (2, .int 1), (3, .int (nI a)), (4, .int (nI b)), (5, .int 1), (6, .int 1), (7, .int (nI (gs_made S))), (8, .int 6)]) (st' := [.int ((4 * (nI k)) + 2), .ref 31, .int ((4 * (nI (gs_made S))) + 6), .ref 31]) (w' := v5) rfl ?_
                        refine gd_laldv E (K.1 254 (.laload, 0) rfl).1 (j := 4 * k + 2) (by decide) (rfl) (by show nI 4 * nI k + nI 2 = _; rw [pk_mul, nI_add]) (by omega) (by decide) (v := gs_sh S k 2) (hs5 2 (by decide)) ?_
                        refine gd_last E (K.1 255 (.lastore, 0) rfl).1 (j := 4 * (gs_made S + 1) + 2) (by decide) (rfl) (by show nI 4 * nI (gs_made S) + nI 6 = _; rw [pk_mul, nI_add] <;> (congr 1 <;> omega)) (by omega) (by decide) ?_
                        replace hR9 := hR9.sset (gs_made S + 1) 2 (gs_sh S k 2) (by decide)
                        replace hs5 : ∀ j, j < 4 → (gd_rL v5 31 (vp_updL (v5.2.1 31) (4 * (gs_made S + 1) + 2) (gs_sh S k 2))).2.1 31 (4 * k + j) = gs_sh S k j := fun j hj => by rw [gd_rL_s, gd_ul_n (by omega)]; exact hs5 j hj
                        replace hp5 : (gd_rL v5 31 (vp_updL (v5.2.1 31) (4 * (gs_made S + 1) + 2) (gs_sh S k 2))).1 32 k = nI (gs_p S k) := hp5
                        replace hc9 : (gd_rL v5 31 (vp_updL (v5.2.1 31) (4 * (gs_made S + 1) + 2) (gs_sh S k 2))).1 27 0 = 0 := hc9
                        replace hf9 : gf_m w (gd_rL v5 31 (vp_updL (v5.2.1 31) (4 * (gs_made S + 1) + 2) (gs_sh S k 2))) := hf9.trans (gf_m.L _ (by decide) _)
                        generalize gd_rL v5 31 (vp_updL (v5.2.1 31) (4 * (gs_made S + 1) + 2) (gs_sh S k 2)) = v6 at hR9 hs5 hp5 hc9 hf9 ⊢
                        refine gd_r E K 21 (pc' := 254) (lv' := [(0, .ref 27), (1, .int (nI k)), (2, .int 1), (3, .int (nI a)), (4, .int (nI b)), (5, .int 1), (6, .int 1), (7, .int (nI (gs_made S))), (8, .int 7)]) (st' := [.int ((4 * (nI k)) + 3), .ref 31, .int ((4 * (nI (gs_made S))) + 7), .ref 31]) (w' := v6) rfl ?_
                        refine gd_laldv E (K.1 254 (.laload, 0) rfl).1 (j := 4 * k + 3) (by decide) (rfl) (by show nI 4 * nI k + nI 3 = _; rw [pk_mul, nI_add]) (by omega) (by decide) (v := gs_sh S k 3) (hs5 3 (by decide)) ?_
                        refine gd_last E (K.1 255 (.lastore, 0) rfl).1 (j := 4 * (gs_made S + 1) + 3) (by decide) (rfl) (by show nI 4 * nI (gs_made S) + nI 7 = _; rw [pk_mul, nI_add] <;> (congr 1 <;> omega)) (by omega) (by decide) ?_
                        replace hR9 := hR9.sset (gs_made S + 1) 3 (gs_sh S k 3) (by decide)
                        replace hs5 : ∀ j, j < 4 → (gd_rL v6 31 (vp_updL (v6.2.1 31) (4 * (gs_made S + 1) + 3) (gs_sh S k 3))).2.1 31 (4 * k + j) = gs_sh S k j := fun j hj => by rw [gd_rL_s, gd_ul_n (by omega)]; exact hs5 j hj
                        replace hp5 : (gd_rL v6 31 (vp_updL (v6.2.1 31) (4 * (gs_made S + 1) + 3) (gs_sh S k 3))).1 32 k = nI (gs_p S k) := hp5
                        replace hc9 : (gd_rL v6 31 (vp_updL (v6.2.1 31) (4 * (gs_made S + 1) + 3) (gs_sh S k 3))).1 27 0 = 0 := hc9
                        replace hf9 : gf_m w (gd_rL v6 31 (vp_updL (v6.2.1 31) (4 * (gs_made S + 1) + 3) (gs_sh S k 3))) := hf9.trans (gf_m.L _ (by decide) _)
                        generalize gd_rL v6 31 (vp_updL (v6.2.1 31) (4 * (gs_made S + 1) + 3) (gs_sh S k 3)) = v7 at hR9 hs5 hp5 hc9 hf9 ⊢
                        refine gd_r E K 11 (pc' := 273) (lv' := [(0, .ref 27), (1, .int (nI k)), (2, .int 1), (3, .int (nI a)), (4, .int (nI b)), (5, .int 1), (6, .int 1), (7, .int (nI (gs_made S))), (8, .int 8)]) (st' := [.int (nI k), .ref 32, .int (nI (gs_made S)), .ref 32]) (w' := v7) rfl ?_
                        refine gd_ialdv E (K.1 273 (.iaload, 0) rfl).1 (j := k) (by decide) (rfl) (rfl) (by omega) (by decide) (v := nI (gs_p S k)) (hp5) ?_
                        refine gd_iast E (K.1 274 (.iastore, 0) rfl).1 (j := gs_made S) (by decide) (rfl) (rfl) (by omega) (by decide) ?_
                        refine gd_r E K 8 (pc' := 288) (lv' := [(0, .ref 27), (1, .int (nI k)), (2, .int 1), (3, .int (nI a)), (4, .int (nI b)), (5, .int 1), (6, .int 1), (7, .int (nI (gs_made S))), (8, .int 8)]) (st' := [.int (nI k), .ref 32, .int ((nI (gs_made S)) + 1), .ref 32]) (w' := gd_rI v7 32 (upd (v7.1 32) (gs_made S) (nI (gs_p S k)))) rfl ?_
                        refine gd_ialdv E (K.1 288 (.iaload, 0) rfl).1 (j := k) (by decide) (rfl) (rfl) (by omega) (by decide) (v := nI (gs_p S k)) (by rw [gd_rI_s, gd_u_n (by omega)]; exact hp5) ?_
                        refine gd_iast E (K.1 289 (.iastore, 0) rfl).1 (j := gs_made S + 1) (by decide) (rfl) (by rw [nI_1]) (by omega) (by decide) ?_
                        refine gd_r E K 1 (pc' := 292) (lv' := [(0, .ref 27), (1, .int (nI k)), (2, .int 1), (3, .int (nI a)), (4, .int (nI b)), (5, .int 1), (6, .int 1), (7, .int (nI (gs_made S))), (8, .int 8)]) (st' := [.int (nI (gs_made S))]) (w' := gd_rI (gd_rI v7 32 (upd (v7.1 32) (gs_made S) (nI (gs_p S k)))) 32 (upd ((gd_rI v7 32 (upd (v7.1 32) (gs_made S) (nI (gs_p S k)))).1 32) (gs_made S + 1) (nI (gs_p S k)))) rfl ?_
                        exact gd_iretp E hr hlk (K.1 292 (.ireturn, 0) rfl).1 (⟨rfl, hc9, ⟨G5, (hR9.f2 (gs_made S) (gs_p S k) hp6).f2 (gs_made S + 1) (gs_p S k) hp6⟩, hf9.trans ((gf_m.I _ (by decide) _).trans (gf_m.I _ (by decide) _))⟩)
                      · refine gd_r E K 1 (pc' := if 59 ≤ (nI (gs_made S)) then 185 else 181) (lv' := [(0, .ref 27), (1, .int (nI k)), (2, .int 1), (3, .int (nI a)), (4, .int (nI b)), (5, .int 1), (6, .int 1)]) (st' := [.ref 27]) (w' := w2) rfl ?_
                        refine gd_it (nI_le (show 59 ≤ gs_made S by omega) (by omega)) ?_
                        refine gd_r E K 6 (pc' := 197) (lv' := [(0, .ref 27), (1, .int (nI k)), (2, .int 1), (3, .int (nI a)), (4, .int (nI b)), (5, .int 1), (6, .int 1)]) (st' := [.int 0]) (w' := gd_rI w2 27 (upd (w2.1 27) 0 2)) rfl ?_
                        exact gd_iretp E hr hlk (K.1 197 (.ireturn, 0) rfl).1 (by rw [if_neg (Bool.eq_false_iff.mp (by rw [gs_halfok, decide_eq_false h59]; simp))]; exact ⟨rfl, rfl, ⟨G, hR2.code 2⟩, hf2.trans (gf_m.I _ (by decide) _)⟩)
                    · refine gd_r E K 1 (pc' := if 6 ≤ (nI (gs_cnt (gs_u S) (gs_made S))) then 185 else 172) (lv' := [(0, .ref 27), (1, .int (nI k)), (2, .int 1), (3, .int (nI a)), (4, .int (nI b)), (5, .int 1), (6, .int 1)]) (st' := [.ref 27]) (w' := w2) rfl ?_
                      refine gd_it (nI_le (show 6 ≤ gs_cnt (gs_u S) (gs_made S) by omega) (by omega)) ?_
                      refine gd_r E K 6 (pc' := 197) (lv' := [(0, .ref 27), (1, .int (nI k)), (2, .int 1), (3, .int (nI a)), (4, .int (nI b)), (5, .int 1), (6, .int 1)]) (st' := [.int 0]) (w' := gd_rI w2 27 (upd (w2.1 27) 0 2)) rfl ?_
                      exact gd_iretp E hr hlk (K.1 197 (.ireturn, 0) rfl).1 (by rw [if_neg (Bool.eq_false_iff.mp (by rw [gs_halfok, decide_eq_false h6]; simp))]; exact ⟨rfl, rfl, ⟨G, hR2.code 2⟩, hf2.trans (gf_m.I _ (by decide) _)⟩)
                  · refine gd_r E K 1 (pc' := if (nI (gs_u S k)) = 2 then 158 else 185) (lv' := [(0, .ref 27), (1, .int (nI k)), (2, .int 1), (3, .int (nI a)), (4, .int (nI b)), (5, .int 1), (6, .int 1)]) (st' := [.ref 27]) (w' := w2) rfl ?_
                    refine gd_if (by rw [show (2 : Int32) = nI 2 from rfl, nI_eq (by omega) (by decide)]; exact hu2) ?_
                    refine gd_r E K 6 (pc' := 197) (lv' := [(0, .ref 27), (1, .int (nI k)), (2, .int 1), (3, .int (nI a)), (4, .int (nI b)), (5, .int 1), (6, .int 1)]) (st' := [.int 0]) (w' := gd_rI w2 27 (upd (w2.1 27) 0 2)) rfl ?_
                    exact gd_iretp E hr hlk (K.1 197 (.ireturn, 0) rfl).1 (by rw [if_neg (Bool.eq_false_iff.mp (by rw [gs_halfok, decide_eq_false hu2]; simp))]; exact ⟨rfl, rfl, ⟨G, hR2.code 2⟩, hf2.trans (gf_m.I _ (by decide) _)⟩)
                | false =>
                  refine gd_r E K 1 (pc' := if (gs_b (false)) = 0 then 185 else 148) (lv' := [(0, .ref 27), (1, .int (nI k)), (2, .int 1), (3, .int (nI a)), (4, .int (nI b)), (5, .int 1), (6, .int 1)]) (st' := [.ref 27]) (w' := w2) rfl ?_
                  refine gd_it (by decide) ?_
                  refine gd_r E K 6 (pc' := 197) (lv' := [(0, .ref 27), (1, .int (nI k)), (2, .int 1), (3, .int (nI a)), (4, .int (nI b)), (5, .int 1), (6, .int 1)]) (st' := [.int 0]) (w' := gd_rI w2 27 (upd (w2.1 27) 0 2)) rfl ?_
                  exact gd_iretp E hr hlk (K.1 197 (.ireturn, 0) rfl).1 (by rw [if_neg (Bool.eq_false_iff.mp (by rw [gs_halfok, hfr]; simp))]; exact ⟨rfl, rfl, ⟨G, hR2.code 2⟩, hf2.trans (gf_m.I _ (by decide) _)⟩)
              | false =>
                refine gd_r E K 1 (pc' := if (gs_b (false)) = 0 then 136 else 132) (lv' := [(0, .ref 27), (1, .int (nI k)), (2, .int 1), (3, .int (nI a)), (4, .int (nI b)), (5, .int 1)]) (st' := []) (w' := w2) rfl ?_
                refine gd_it (by decide) ?_
                have hft : gs_fits S k a b = false := by rw [gs_fits, hrb]; simp
                refine gd_r E K 5 (pc' := 142) (lv' := [(0, .ref 27), (1, .int (nI k)), (2, .int 1), (3, .int (nI a)), (4, .int (nI b)), (5, .int 1), (6, .int 0)]) (st' := [.int (nI k), .ref 27, .ref 27]) (w' := w2) rfl ?_
                refine gd_cV E hA (av := [.int (nI k)]) (rest := [.ref 27]) (c2_isFree hinj _ hR2 k hk) (K.1 142 (.invokevirtual 129, 0) rfl).1 ml_M_129 cv_M_isFree (by decide) (rfl) ⟨Nat.le_of_ble_eq_true rfl, Nat.le_of_ble_eq_true rfl⟩ ⟨Nat.zero_le _, Nat.zero_le _⟩ rfl (Nat.le_of_ble_eq_true rfl) ?_
                cases hfr : gs_free S k with
                | true =>
                  refine gd_r E K 1 (pc' := if (gs_b (true)) = 0 then 185 else 148) (lv' := [(0, .ref 27), (1, .int (nI k)), (2, .int 1), (3, .int (nI a)), (4, .int (nI b)), (5, .int 1), (6, .int 0)]) (st' := [.ref 27]) (w' := w2) rfl ?_
                  refine gd_if (by decide) ?_
                  refine gd_r E K 3 (pc' := 153) (lv' := [(0, .ref 27), (1, .int (nI k)), (2, .int 1), (3, .int (nI a)), (4, .int (nI b)), (5, .int 1), (6, .int 0)]) (st' := [.int (nI k), .ref 29, .ref 27]) (w' := w2) rfl ?_
                  refine gd_ialdv E (K.1 153 (.iaload, 0) rfl).1 (j := k) (by decide) (rfl) (rfl) (by omega) (by decide) (v := nI (gs_u S k)) (u1) ?_
                  refine gd_r E K 1 (pc' := 155) (lv' := [(0, .ref 27), (1, .int (nI k)), (2, .int 1), (3, .int (nI a)), (4, .int (nI b)), (5, .int 1), (6, .int 0)]) (st' := [.int 2, .int (nI (gs_u S k)), .ref 27]) (w' := w2) rfl ?_
                  by_cases hu2 : gs_u S k = 2
                  · refine gd_r E K 1 (pc' := if (nI (gs_u S k)) = 2 then 158 else 185) (lv' := [(0, .ref 27), (1, .int (nI k)), (2, .int 1), (3, .int (nI a)), (4, .int (nI b)), (5, .int 1), (6, .int 0)]) (st' := [.ref 27]) (w' := w2) rfl ?_
                    refine gd_it (by rw [hu2]; rfl) ?_
                    refine gd_r E K 8 (pc' := 197) (lv' := [(0, .ref 27), (1, .int (nI k)), (2, .int 1), (3, .int (nI a)), (4, .int (nI b)), (5, .int 1), (6, .int 0)]) (st' := [.int 0]) (w' := gd_rI w2 27 (upd (w2.1 27) 0 2)) rfl ?_
                    exact gd_iretp E hr hlk (K.1 197 (.ireturn, 0) rfl).1 (by rw [if_neg (Bool.eq_false_iff.mp (by rw [gs_halfok, hft]; simp))]; exact ⟨rfl, rfl, ⟨G, hR2.code 2⟩, hf2.trans (gf_m.I _ (by decide) _)⟩)
                  · refine gd_r E K 1 (pc' := if (nI (gs_u S k)) = 2 then 158 else 185) (lv' := [(0, .ref 27), (1, .int (nI k)), (2, .int 1), (3, .int (nI a)), (4, .int (nI b)), (5, .int 1), (6, .int 0)]) (st' := [.ref 27]) (w' := w2) rfl ?_
                    refine gd_if (by rw [show (2 : Int32) = nI 2 from rfl, nI_eq (by omega) (by decide)]; exact hu2) ?_
                    refine gd_r E K 6 (pc' := 197) (lv' := [(0, .ref 27), (1, .int (nI k)), (2, .int 1), (3, .int (nI a)), (4, .int (nI b)), (5, .int 1), (6, .int 0)]) (st' := [.int 0]) (w' := gd_rI w2 27 (upd (w2.1 27) 0 2)) rfl ?_
                    exact gd_iretp E hr hlk (K.1 197 (.ireturn, 0) rfl).1 (by rw [if_neg (Bool.eq_false_iff.mp (by rw [gs_halfok, decide_eq_false hu2]; simp))]; exact ⟨rfl, rfl, ⟨G, hR2.code 2⟩, hf2.trans (gf_m.I _ (by decide) _)⟩)
                | false =>
                  refine gd_r E K 1 (pc' := if (gs_b (false)) = 0 then 185 else 148) (lv' := [(0, .ref 27), (1, .int (nI k)), (2, .int 1), (3, .int (nI a)), (4, .int (nI b)), (5, .int 1), (6, .int 0)]) (st' := [.ref 27]) (w' := w2) rfl ?_
                  refine gd_it (by decide) ?_
                  refine gd_r E K 6 (pc' := 197) (lv' := [(0, .ref 27), (1, .int (nI k)), (2, .int 1), (3, .int (nI a)), (4, .int (nI b)), (5, .int 1), (6, .int 0)]) (st' := [.int 0]) (w' := gd_rI w2 27 (upd (w2.1 27) 0 2)) rfl ?_
                  exact gd_iretp E hr hlk (K.1 197 (.ireturn, 0) rfl).1 (by rw [if_neg (Bool.eq_false_iff.mp (by rw [gs_halfok, hfr]; simp))]; exact ⟨rfl, rfl, ⟨G, hR2.code 2⟩, hf2.trans (gf_m.I _ (by decide) _)⟩)
            | false =>
              refine gd_r E K 1 (pc' := if (gs_b (false)) = 0 then 136 else 122) (lv' := [(0, .ref 27), (1, .int (nI k)), (2, .int 1), (3, .int (nI a)), (4, .int (nI b)), (5, .int 1)]) (st' := []) (w' := w2) rfl ?_
              refine gd_it (by decide) ?_
              have hft : gs_fits S k a b = false := by rw [gs_fits, hra]; simp
              refine gd_r E K 5 (pc' := 142) (lv' := [(0, .ref 27), (1, .int (nI k)), (2, .int 1), (3, .int (nI a)), (4, .int (nI b)), (5, .int 1), (6, .int 0)]) (st' := [.int (nI k), .ref 27, .ref 27]) (w' := w2) rfl ?_
              refine gd_cV E hA (av := [.int (nI k)]) (rest := [.ref 27]) (c2_isFree hinj _ hR2 k hk) (K.1 142 (.invokevirtual 129, 0) rfl).1 ml_M_129 cv_M_isFree (by decide) (rfl) ⟨Nat.le_of_ble_eq_true rfl, Nat.le_of_ble_eq_true rfl⟩ ⟨Nat.zero_le _, Nat.zero_le _⟩ rfl (Nat.le_of_ble_eq_true rfl) ?_
              cases hfr : gs_free S k with
              | true =>
                refine gd_r E K 1 (pc' := if (gs_b (true)) = 0 then 185 else 148) (lv' := [(0, .ref 27), (1, .int (nI k)), (2, .int 1), (3, .int (nI a)), (4, .int (nI b)), (5, .int 1), (6, .int 0)]) (st' := [.ref 27]) (w' := w2) rfl ?_
                refine gd_if (by decide) ?_
                refine gd_r E K 3 (pc' := 153) (lv' := [(0, .ref 27), (1, .int (nI k)), (2, .int 1), (3, .int (nI a)), (4, .int (nI b)), (5, .int 1), (6, .int 0)]) (st' := [.int (nI k), .ref 29, .ref 27]) (w' := w2) rfl ?_
                refine gd_ialdv E (K.1 153 (.iaload, 0) rfl).1 (j := k) (by decide) (rfl) (rfl) (by omega) (by decide) (v := nI (gs_u S k)) (u1) ?_
                refine gd_r E K 1 (pc' := 155) (lv' := [(0, .ref 27), (1, .int (nI k)), (2, .int 1), (3, .int (nI a)), (4, .int (nI b)), (5, .int 1), (6, .int 0)]) (st' := [.int 2, .int (nI (gs_u S k)), .ref 27]) (w' := w2) rfl ?_
                by_cases hu2 : gs_u S k = 2
                · refine gd_r E K 1 (pc' := if (nI (gs_u S k)) = 2 then 158 else 185) (lv' := [(0, .ref 27), (1, .int (nI k)), (2, .int 1), (3, .int (nI a)), (4, .int (nI b)), (5, .int 1), (6, .int 0)]) (st' := [.ref 27]) (w' := w2) rfl ?_
                  refine gd_it (by rw [hu2]; rfl) ?_
                  refine gd_r E K 8 (pc' := 197) (lv' := [(0, .ref 27), (1, .int (nI k)), (2, .int 1), (3, .int (nI a)), (4, .int (nI b)), (5, .int 1), (6, .int 0)]) (st' := [.int 0]) (w' := gd_rI w2 27 (upd (w2.1 27) 0 2)) rfl ?_
                  exact gd_iretp E hr hlk (K.1 197 (.ireturn, 0) rfl).1 (by rw [if_neg (Bool.eq_false_iff.mp (by rw [gs_halfok, hft]; simp))]; exact ⟨rfl, rfl, ⟨G, hR2.code 2⟩, hf2.trans (gf_m.I _ (by decide) _)⟩)
                · refine gd_r E K 1 (pc' := if (nI (gs_u S k)) = 2 then 158 else 185) (lv' := [(0, .ref 27), (1, .int (nI k)), (2, .int 1), (3, .int (nI a)), (4, .int (nI b)), (5, .int 1), (6, .int 0)]) (st' := [.ref 27]) (w' := w2) rfl ?_
                  refine gd_if (by rw [show (2 : Int32) = nI 2 from rfl, nI_eq (by omega) (by decide)]; exact hu2) ?_
                  refine gd_r E K 6 (pc' := 197) (lv' := [(0, .ref 27), (1, .int (nI k)), (2, .int 1), (3, .int (nI a)), (4, .int (nI b)), (5, .int 1), (6, .int 0)]) (st' := [.int 0]) (w' := gd_rI w2 27 (upd (w2.1 27) 0 2)) rfl ?_
                  exact gd_iretp E hr hlk (K.1 197 (.ireturn, 0) rfl).1 (by rw [if_neg (Bool.eq_false_iff.mp (by rw [gs_halfok, decide_eq_false hu2]; simp))]; exact ⟨rfl, rfl, ⟨G, hR2.code 2⟩, hf2.trans (gf_m.I _ (by decide) _)⟩)
              | false =>
                refine gd_r E K 1 (pc' := if (gs_b (false)) = 0 then 185 else 148) (lv' := [(0, .ref 27), (1, .int (nI k)), (2, .int 1), (3, .int (nI a)), (4, .int (nI b)), (5, .int 1), (6, .int 0)]) (st' := [.ref 27]) (w' := w2) rfl ?_
                refine gd_it (by decide) ?_
                refine gd_r E K 6 (pc' := 197) (lv' := [(0, .ref 27), (1, .int (nI k)), (2, .int 1), (3, .int (nI a)), (4, .int (nI b)), (5, .int 1), (6, .int 0)]) (st' := [.int 0]) (w' := gd_rI w2 27 (upd (w2.1 27) 0 2)) rfl ?_
                exact gd_iretp E hr hlk (K.1 197 (.ireturn, 0) rfl).1 (by rw [if_neg (Bool.eq_false_iff.mp (by rw [gs_halfok, hfr]; simp))]; exact ⟨rfl, rfl, ⟨G, hR2.code 2⟩, hf2.trans (gf_m.I _ (by decide) _)⟩)
  | false =>
    refine gd_r E K 1 (pc' := if (gs_b (false)) = 0 then 13 else 9) (lv' := [(0, .ref 27), (1, .int d), (2, .int 1)]) (st' := [.ref 27]) (w' := w) rfl ?_
    refine gd_it (by decide) ?_
    refine gd_r E K 6 (pc' := 25) (lv' := [(0, .ref 27), (1, .int d), (2, .int 1)]) (st' := [.int 0]) (w' := gd_rI w 27 (upd (w.1 27) 0 1)) rfl ?_
    exact gd_iretp E hr hlk (K.1 25 (.ireturn, 0) rfl).1 (by rw [gs_halve, if_pos hb]; exact gs_mp_code hR 1 rfl rfl)
set_option maxHeartbeats 8000000 in
set_option maxRecDepth 100000 in
theorem c2_MhalveS {l : Launch} {D : va_G} {tC : FieldType → ClassId} {ad : Nat → Nat} (hinj : ∀ i j, ad i = ad j → i = j) {S : gs_T} {G : Nat → Nat} (w : gd_W) (hR : gr_M w S G) (hc6 : gs_cnt (gs_u S) (gs_made S) ≤ 6) (hv : ∀ k, gs_alive S k → gv_way S k) (d : Int32) : gd_Cp l D tC ad 45 4 92 y_M_halve c_M_halve 9 (some .int) [.ref 27, .int d, .int 0] w (gs_mp (gs_halve S d false).2.2 (gs_halve S d false).1 (.int (nI (gs_halve S d false).2.1)) w) := by
  refine gd_Cp_of rfl hinj (Nat.le_of_ble_eq_true rfl) ?_
  intro p e s m args below meth c E hr hlk
  have K := k_M_halve
  have hA : ∀ q, gd_A ad 45 s.heap.size q → gd_A ad 45 s.heap.size q := fun _ h => h
  have hN := hR.1.2
  have hcle := gs_cnt_le (gs_u S) (gs_made S)
  refine gd_r E K 3 (pc' := 3) (lv' := [(0, .ref 27), (1, .int d), (2, .int 0)]) (st' := [.int d, .ref 27, .ref 27]) (w' := w) rfl ?_
  refine gd_cV E hA (av := [.int d]) (rest := [.ref 27]) (c2_isD hinj _ hR d) (K.1 3 (.invokevirtual 125, 0) rfl).1 ml_M_125 cv_M_isDrop (by decide) (rfl) ⟨Nat.le_of_ble_eq_true rfl, Nat.le_of_ble_eq_true rfl⟩ ⟨Nat.zero_le _, Nat.zero_le _⟩ rfl (Nat.le_of_ble_eq_true rfl) ?_
  cases hb : gs_isd S d with
  | true =>
    refine gd_r E K 1 (pc' := if (gs_b (true)) = 0 then 13 else 9) (lv' := [(0, .ref 27), (1, .int d), (2, .int 0)]) (st' := [.ref 27]) (w' := w) rfl ?_
    refine gd_if (by decide) ?_
    refine gd_r E K 9 (pc' := 31) (lv' := [(0, .ref 27), (1, .int d), (2, .int 0)]) (st' := [.int d, .ref 30]) (w' := gd_rI w 27 (upd (w.1 27) 0 0)) rfl ?_
    obtain ⟨k, hk, rfl, hu⟩ := gs_isd_t hN hb
    have hcl : (nI k).toNatClampNeg = k := nI_clamp (by omega)
    have hR0 := hR.code 0
    obtain ⟨c1, c2⟩ := hR0.2.2.1 k (by omega)
    have hsd : gs_halve S (nI k) false = gs_half2 S k (gm_mv (gs_c S k) 4) (gm_mv (gs_c S k) 2) := by rw [gs_halve, if_neg (by rw [hb]; decide), hcl]; rfl
    rw [hsd]
    clear hsd
    refine gd_ialdv E (K.1 31 (.iaload, 0) rfl).1 (j := k) (by decide) (rfl) (rfl) (by omega) (by decide) (v := nI (gs_c S k)) (c1) ?_
    refine gd_r E K 3 (pc' := 41) (lv' := [(0, .ref 27), (1, .int (nI k)), (2, .int 0)]) (st' := [.int 4, .int (nI (gs_c S k))]) (w' := gd_rI w 27 (upd (w.1 27) 0 0)) rfl ?_
    refine gd_cg (lv' := [(0, .ref 27), (1, .int (nI k)), (2, .int 0)]) (st' := [.int (nI 4), .int (nI (gs_c S k))]) (w' := gd_rI w 27 (upd (w.1 27) 0 0)) ?_ (rfl) (rfl) (rfl)
    refine gd_cS E hA (av := [.int (nI (gs_c S k)), .int (nI 4)]) (rest := []) (c2_moved hinj (gs_c S k) 4 c2 (by decide) _) (K.1 41 (.invokestatic 82, 0) rfl).1 ml_M_82 cv_M_moved ⟨Nat.le_of_ble_eq_true rfl, Nat.le_of_ble_eq_true rfl⟩ ⟨Nat.zero_le _, Nat.zero_le _⟩ rfl (Nat.le_of_ble_eq_true rfl) ?_
    refine gd_r E K 4 (pc' := 50) (lv' := [(0, .ref 27), (1, .int (nI k)), (2, .int 0), (3, .int (gm_nO (gm_mv (gs_c S k) 4)))]) (st' := [.int (nI k), .ref 30]) (w' := gd_rI w 27 (upd (w.1 27) 0 0)) rfl ?_
    refine gd_ialdv E (K.1 50 (.iaload, 0) rfl).1 (j := k) (by decide) (rfl) (rfl) (by omega) (by decide) (v := nI (gs_c S k)) (c1) ?_
    refine gd_r E K 3 (pc' := 60) (lv' := [(0, .ref 27), (1, .int (nI k)), (2, .int 0), (3, .int (gm_nO (gm_mv (gs_c S k) 4)))]) (st' := [.int 2, .int (nI (gs_c S k))]) (w' := gd_rI w 27 (upd (w.1 27) 0 0)) rfl ?_
    refine gd_cg (lv' := [(0, .ref 27), (1, .int (nI k)), (2, .int 0), (3, .int (gm_nO (gm_mv (gs_c S k) 4)))]) (st' := [.int (nI 2), .int (nI (gs_c S k))]) (w' := gd_rI w 27 (upd (w.1 27) 0 0)) ?_ (rfl) (rfl) (rfl)
    refine gd_cS E hA (av := [.int (nI (gs_c S k)), .int (nI 2)]) (rest := []) (c2_moved hinj (gs_c S k) 2 c2 (by decide) _) (K.1 60 (.invokestatic 82, 0) rfl).1 ml_M_82 cv_M_moved ⟨Nat.le_of_ble_eq_true rfl, Nat.le_of_ble_eq_true rfl⟩ ⟨Nat.zero_le _, Nat.zero_le _⟩ rfl (Nat.le_of_ble_eq_true rfl) ?_
    refine gd_r E K 4 (pc' := 68) (lv' := [(0, .ref 27), (1, .int (nI k)), (2, .int 0), (3, .int (gm_nO (gm_mv (gs_c S k) 4))), (4, .int (gm_nO (gm_mv (gs_c S k) 2)))]) (st' := [.int (-1), .int (nI k), .ref 27]) (w' := gd_rI w 27 (upd (w.1 27) 0 0)) rfl ?_
    refine gd_cg (lv' := [(0, .ref 27), (1, .int (nI k)), (2, .int 0), (3, .int (gm_nO (gm_mv (gs_c S k) 4))), (4, .int (gm_nO (gm_mv (gs_c S k) 2)))]) (st' := [.int (gm_nO none), .int (gm_nO (some k)), .ref 27]) (w' := gd_rI w 27 (upd (w.1 27) 0 0)) ?_ (rfl) (rfl) (rfl)
    refine gd_cVp E hA (av := [.int (gm_nO (some k)), .int (gm_nO none)]) (rest := []) (c2_foresee hinj _ hR0 hc6 hv (some k) none (fun x h => by cases h; omega) (fun _ h => nomatch h)) (K.1 68 (.invokevirtual 115, 0) rfl).1 ml_M_115 cv_M_foresee (by decide) (rfl) ⟨Nat.le_of_ble_eq_true rfl, Nat.le_of_ble_eq_true rfl⟩ ⟨Nat.zero_le _, Nat.zero_le _⟩ rfl (Nat.le_of_ble_eq_true rfl) (fun r9 w2 h9 => ?_)
    obtain ⟨rfl, hfi⟩ := h9
    have hR2 := hfi.1.M hR0
    have hT2 := gs_fi_tab hfi hc6 hv
    have hf2 : gf_m w w2 := (gf_m.I w (by decide) _).trans hfi.1.m
    obtain ⟨u1, u2⟩ := hR2.2.1 k (by omega)
    refine gd_r E K 1 (pc' := 72) (lv' := [(0, .ref 27), (1, .int (nI k)), (2, .int 0), (3, .int (gm_nO (gm_mv (gs_c S k) 4))), (4, .int (gm_nO (gm_mv (gs_c S k) 2)))]) (st' := [.int (gm_nO (gm_mv (gs_c S k) 4))]) (w' := w2) rfl ?_
    cases h1 : gm_mv (gs_c S k) 4 with
    | none =>
      refine gd_r E K 1 (pc' := if (gm_nO (none)) < 0 then 84 else 75) (lv' := [(0, .ref 27), (1, .int (nI k)), (2, .int 0), (3, .int (gm_nO (none))), (4, .int (gm_nO (gm_mv (gs_c S k) 2)))]) (st' := []) (w' := w2) rfl ?_
      refine gd_it (by decide) ?_
      refine gd_r E K 9 (pc' := 142) (lv' := [(0, .ref 27), (1, .int (nI k)), (2, .int 0), (3, .int (gm_nO (none))), (4, .int (gm_nO (gm_mv (gs_c S k) 2))), (5, .int 0), (6, .int 0)]) (st' := [.int (nI k), .ref 27, .ref 27]) (w' := w2) rfl ?_
      refine gd_cV E hA (av := [.int (nI k)]) (rest := [.ref 27]) (c2_isFree hinj _ hR2 k hk) (K.1 142 (.invokevirtual 129, 0) rfl).1 ml_M_129 cv_M_isFree (by decide) (rfl) ⟨Nat.le_of_ble_eq_true rfl, Nat.le_of_ble_eq_true rfl⟩ ⟨Nat.zero_le _, Nat.zero_le _⟩ rfl (Nat.le_of_ble_eq_true rfl) ?_
      cases hfr : gs_free S k with
      | true =>
        refine gd_r E K 1 (pc' := if (gs_b (true)) = 0 then 185 else 148) (lv' := [(0, .ref 27), (1, .int (nI k)), (2, .int 0), (3, .int (gm_nO (none))), (4, .int (gm_nO (gm_mv (gs_c S k) 2))), (5, .int 0), (6, .int 0)]) (st' := [.ref 27]) (w' := w2) rfl ?_
        refine gd_if (by decide) ?_
        refine gd_r E K 3 (pc' := 153) (lv' := [(0, .ref 27), (1, .int (nI k)), (2, .int 0), (3, .int (gm_nO (none))), (4, .int (gm_nO (gm_mv (gs_c S k) 2))), (5, .int 0), (6, .int 0)]) (st' := [.int (nI k), .ref 29, .ref 27]) (w' := w2) rfl ?_
        refine gd_ialdv E (K.1 153 (.iaload, 0) rfl).1 (j := k) (by decide) (rfl) (rfl) (by omega) (by decide) (v := nI (gs_u S k)) (u1) ?_
        refine gd_r E K 1 (pc' := 155) (lv' := [(0, .ref 27), (1, .int (nI k)), (2, .int 0), (3, .int (gm_nO (none))), (4, .int (gm_nO (gm_mv (gs_c S k) 2))), (5, .int 0), (6, .int 0)]) (st' := [.int 2, .int (nI (gs_u S k)), .ref 27]) (w' := w2) rfl ?_
        by_cases hu2 : gs_u S k = 2
        · refine gd_r E K 1 (pc' := if (nI (gs_u S k)) = 2 then 158 else 185) (lv' := [(0, .ref 27), (1, .int (nI k)), (2, .int 0), (3, .int (gm_nO (none))), (4, .int (gm_nO (gm_mv (gs_c S k) 2))), (5, .int 0), (6, .int 0)]) (st' := [.ref 27]) (w' := w2) rfl ?_
          refine gd_it (by rw [hu2]; rfl) ?_
          refine gd_r E K 8 (pc' := 197) (lv' := [(0, .ref 27), (1, .int (nI k)), (2, .int 0), (3, .int (gm_nO (none))), (4, .int (gm_nO (gm_mv (gs_c S k) 2))), (5, .int 0), (6, .int 0)]) (st' := [.int 0]) (w' := gd_rI w2 27 (upd (w2.1 27) 0 2)) rfl ?_
          exact gd_iretp E hr hlk (K.1 197 (.ireturn, 0) rfl).1 (by rw [gs_half2_n1]; exact ⟨rfl, rfl, ⟨G, hR2.code 2⟩, hf2.trans (gf_m.I _ (by decide) _)⟩)
        · refine gd_r E K 1 (pc' := if (nI (gs_u S k)) = 2 then 158 else 185) (lv' := [(0, .ref 27), (1, .int (nI k)), (2, .int 0), (3, .int (gm_nO (none))), (4, .int (gm_nO (gm_mv (gs_c S k) 2))), (5, .int 0), (6, .int 0)]) (st' := [.ref 27]) (w' := w2) rfl ?_
          refine gd_if (by rw [show (2 : Int32) = nI 2 from rfl, nI_eq (by omega) (by decide)]; exact hu2) ?_
          refine gd_r E K 6 (pc' := 197) (lv' := [(0, .ref 27), (1, .int (nI k)), (2, .int 0), (3, .int (gm_nO (none))), (4, .int (gm_nO (gm_mv (gs_c S k) 2))), (5, .int 0), (6, .int 0)]) (st' := [.int 0]) (w' := gd_rI w2 27 (upd (w2.1 27) 0 2)) rfl ?_
          exact gd_iretp E hr hlk (K.1 197 (.ireturn, 0) rfl).1 (by rw [gs_half2_n1]; exact ⟨rfl, rfl, ⟨G, hR2.code 2⟩, hf2.trans (gf_m.I _ (by decide) _)⟩)
      | false =>
        refine gd_r E K 1 (pc' := if (gs_b (false)) = 0 then 185 else 148) (lv' := [(0, .ref 27), (1, .int (nI k)), (2, .int 0), (3, .int (gm_nO (none))), (4, .int (gm_nO (gm_mv (gs_c S k) 2))), (5, .int 0), (6, .int 0)]) (st' := [.ref 27]) (w' := w2) rfl ?_
        refine gd_it (by decide) ?_
        refine gd_r E K 6 (pc' := 197) (lv' := [(0, .ref 27), (1, .int (nI k)), (2, .int 0), (3, .int (gm_nO (none))), (4, .int (gm_nO (gm_mv (gs_c S k) 2))), (5, .int 0), (6, .int 0)]) (st' := [.int 0]) (w' := gd_rI w2 27 (upd (w2.1 27) 0 2)) rfl ?_
        exact gd_iretp E hr hlk (K.1 197 (.ireturn, 0) rfl).1 (by rw [gs_half2_n1]; exact ⟨rfl, rfl, ⟨G, hR2.code 2⟩, hf2.trans (gf_m.I _ (by decide) _)⟩)
    | some a =>
      have ha64 := gm_mv_lt c2 h1
      refine gd_r E K 1 (pc' := if (gm_nO (some a)) < 0 then 84 else 75) (lv' := [(0, .ref 27), (1, .int (nI k)), (2, .int 0), (3, .int (gm_nO (some a))), (4, .int (gm_nO (gm_mv (gs_c S k) 2)))]) (st' := []) (w' := w2) rfl ?_
      refine gd_if (gm_nO_some (by omega)) ?_
      refine gd_r E K 1 (pc' := 77) (lv' := [(0, .ref 27), (1, .int (nI k)), (2, .int 0), (3, .int (gm_nO (some a))), (4, .int (gm_nO (gm_mv (gs_c S k) 2)))]) (st' := [.int (gm_nO (gm_mv (gs_c S k) 2))]) (w' := w2) rfl ?_
      cases h2 : gm_mv (gs_c S k) 2 with
      | none =>
        refine gd_r E K 1 (pc' := if (gm_nO (none)) < 0 then 84 else 80) (lv' := [(0, .ref 27), (1, .int (nI k)), (2, .int 0), (3, .int (gm_nO (some a))), (4, .int (gm_nO (none)))]) (st' := []) (w' := w2) rfl ?_
        refine gd_it (by decide) ?_
        refine gd_r E K 9 (pc' := 142) (lv' := [(0, .ref 27), (1, .int (nI k)), (2, .int 0), (3, .int (gm_nO (some a))), (4, .int (gm_nO (none))), (5, .int 0), (6, .int 0)]) (st' := [.int (nI k), .ref 27, .ref 27]) (w' := w2) rfl ?_
        refine gd_cV E hA (av := [.int (nI k)]) (rest := [.ref 27]) (c2_isFree hinj _ hR2 k hk) (K.1 142 (.invokevirtual 129, 0) rfl).1 ml_M_129 cv_M_isFree (by decide) (rfl) ⟨Nat.le_of_ble_eq_true rfl, Nat.le_of_ble_eq_true rfl⟩ ⟨Nat.zero_le _, Nat.zero_le _⟩ rfl (Nat.le_of_ble_eq_true rfl) ?_
        cases hfr : gs_free S k with
        | true =>
          refine gd_r E K 1 (pc' := if (gs_b (true)) = 0 then 185 else 148) (lv' := [(0, .ref 27), (1, .int (nI k)), (2, .int 0), (3, .int (gm_nO (some a))), (4, .int (gm_nO (none))), (5, .int 0), (6, .int 0)]) (st' := [.ref 27]) (w' := w2) rfl ?_
          refine gd_if (by decide) ?_
          refine gd_r E K 3 (pc' := 153) (lv' := [(0, .ref 27), (1, .int (nI k)), (2, .int 0), (3, .int (gm_nO (some a))), (4, .int (gm_nO (none))), (5, .int 0), (6, .int 0)]) (st' := [.int (nI k), .ref 29, .ref 27]) (w' := w2) rfl ?_
          refine gd_ialdv E (K.1 153 (.iaload, 0) rfl).1 (j := k) (by decide) (rfl) (rfl) (by omega) (by decide) (v := nI (gs_u S k)) (u1) ?_
          refine gd_r E K 1 (pc' := 155) (lv' := [(0, .ref 27), (1, .int (nI k)), (2, .int 0), (3, .int (gm_nO (some a))), (4, .int (gm_nO (none))), (5, .int 0), (6, .int 0)]) (st' := [.int 2, .int (nI (gs_u S k)), .ref 27]) (w' := w2) rfl ?_
          by_cases hu2 : gs_u S k = 2
          · refine gd_r E K 1 (pc' := if (nI (gs_u S k)) = 2 then 158 else 185) (lv' := [(0, .ref 27), (1, .int (nI k)), (2, .int 0), (3, .int (gm_nO (some a))), (4, .int (gm_nO (none))), (5, .int 0), (6, .int 0)]) (st' := [.ref 27]) (w' := w2) rfl ?_
            refine gd_it (by rw [hu2]; rfl) ?_
            refine gd_r E K 8 (pc' := 197) (lv' := [(0, .ref 27), (1, .int (nI k)), (2, .int 0), (3, .int (gm_nO (some a))), (4, .int (gm_nO (none))), (5, .int 0), (6, .int 0)]) (st' := [.int 0]) (w' := gd_rI w2 27 (upd (w2.1 27) 0 2)) rfl ?_
            exact gd_iretp E hr hlk (K.1 197 (.ireturn, 0) rfl).1 (by rw [gs_half2_n2]; exact ⟨rfl, rfl, ⟨G, hR2.code 2⟩, hf2.trans (gf_m.I _ (by decide) _)⟩)
          · refine gd_r E K 1 (pc' := if (nI (gs_u S k)) = 2 then 158 else 185) (lv' := [(0, .ref 27), (1, .int (nI k)), (2, .int 0), (3, .int (gm_nO (some a))), (4, .int (gm_nO (none))), (5, .int 0), (6, .int 0)]) (st' := [.ref 27]) (w' := w2) rfl ?_
            refine gd_if (by rw [show (2 : Int32) = nI 2 from rfl, nI_eq (by omega) (by decide)]; exact hu2) ?_
            refine gd_r E K 6 (pc' := 197) (lv' := [(0, .ref 27), (1, .int (nI k)), (2, .int 0), (3, .int (gm_nO (some a))), (4, .int (gm_nO (none))), (5, .int 0), (6, .int 0)]) (st' := [.int 0]) (w' := gd_rI w2 27 (upd (w2.1 27) 0 2)) rfl ?_
            exact gd_iretp E hr hlk (K.1 197 (.ireturn, 0) rfl).1 (by rw [gs_half2_n2]; exact ⟨rfl, rfl, ⟨G, hR2.code 2⟩, hf2.trans (gf_m.I _ (by decide) _)⟩)
        | false =>
          refine gd_r E K 1 (pc' := if (gs_b (false)) = 0 then 185 else 148) (lv' := [(0, .ref 27), (1, .int (nI k)), (2, .int 0), (3, .int (gm_nO (some a))), (4, .int (gm_nO (none))), (5, .int 0), (6, .int 0)]) (st' := [.ref 27]) (w' := w2) rfl ?_
          refine gd_it (by decide) ?_
          refine gd_r E K 6 (pc' := 197) (lv' := [(0, .ref 27), (1, .int (nI k)), (2, .int 0), (3, .int (gm_nO (some a))), (4, .int (gm_nO (none))), (5, .int 0), (6, .int 0)]) (st' := [.int 0]) (w' := gd_rI w2 27 (upd (w2.1 27) 0 2)) rfl ?_
          exact gd_iretp E hr hlk (K.1 197 (.ireturn, 0) rfl).1 (by rw [gs_half2_n2]; exact ⟨rfl, rfl, ⟨G, hR2.code 2⟩, hf2.trans (gf_m.I _ (by decide) _)⟩)
      | some b =>
        have hb64 := gm_mv_lt c2 h2
        refine gd_r E K 1 (pc' := if (gm_nO (some b)) < 0 then 84 else 80) (lv' := [(0, .ref 27), (1, .int (nI k)), (2, .int 0), (3, .int (gm_nO (some a))), (4, .int (gm_nO (some b)))]) (st' := []) (w' := w2) rfl ?_
        refine gd_if (gm_nO_some (by omega)) ?_
        obtain ⟨ka, ka8⟩ := hR2.KK a ha64
        obtain ⟨kb, kb8⟩ := hR2.KK b hb64
        have hh2 : gs_half2 S k (some a) (some b) = if gs_halfok S k a b then (0, gs_made S, gs_halfS S k a b) else (2, 0, S) := rfl
        rw [hh2]
        clear hh2
        refine gd_r E K 3 (pc' := 87) (lv' := [(0, .ref 27), (1, .int (nI k)), (2, .int 0), (3, .int (gm_nO (some a))), (4, .int (gm_nO (some b))), (5, .int 1)]) (st' := []) (w' := w2) rfl ?_
        refine gd_cg (lv' := [(0, .ref 27), (1, .int (nI k)), (2, .int 0), (3, .int (nI a)), (4, .int (nI b)), (5, .int 1)]) (st' := []) (w' := w2) ?_ (rfl) (rfl) (rfl)
        refine gd_r E K 5 (pc' := 97) (lv' := [(0, .ref 27), (1, .int (nI k)), (2, .int 0), (3, .int (nI a)), (4, .int (nI b)), (5, .int 1)]) (st' := [.int (nI a), .ref 28]) (w' := w2) rfl ?_
        refine gd_ialdv E (K.1 97 (.iaload, 0) rfl).1 (j := a) (by decide) (rfl) (rfl) (ha64) (by decide) (v := nI (gs_k S a)) (ka) ?_
        refine gd_r E K 1 (pc' := 99) (lv' := [(0, .ref 27), (1, .int (nI k)), (2, .int 0), (3, .int (nI a)), (4, .int (nI b)), (5, .int 1)]) (st' := [.int 1, .int (nI (gs_k S a))]) (w' := w2) rfl ?_
        by_cases hka : gs_k S a = 1
        · refine gd_r E K 1 (pc' := if (nI (gs_k S a)) = 1 then 136 else 102) (lv' := [(0, .ref 27), (1, .int (nI k)), (2, .int 0), (3, .int (nI a)), (4, .int (nI b)), (5, .int 1)]) (st' := []) (w' := w2) rfl ?_
          refine gd_it (by rw [hka]; rfl) ?_
          have hft : gs_fits S k a b = false := by rw [gs_fits, decide_eq_true hka]; simp
          refine gd_r E K 5 (pc' := 142) (lv' := [(0, .ref 27), (1, .int (nI k)), (2, .int 0), (3, .int (nI a)), (4, .int (nI b)), (5, .int 1), (6, .int 0)]) (st' := [.int (nI k), .ref 27, .ref 27]) (w' := w2) rfl ?_
          refine gd_cV E hA (av := [.int (nI k)]) (rest := [.ref 27]) (c2_isFree hinj _ hR2 k hk) (K.1 142 (.invokevirtual 129, 0) rfl).1 ml_M_129 cv_M_isFree (by decide) (rfl) ⟨Nat.le_of_ble_eq_true rfl, Nat.le_of_ble_eq_true rfl⟩ ⟨Nat.zero_le _, Nat.zero_le _⟩ rfl (Nat.le_of_ble_eq_true rfl) ?_
          cases hfr : gs_free S k with
          | true =>
            refine gd_r E K 1 (pc' := if (gs_b (true)) = 0 then 185 else 148) (lv' := [(0, .ref 27), (1, .int (nI k)), (2, .int 0), (3, .int (nI a)), (4, .int (nI b)), (5, .int 1), (6, .int 0)]) (st' := [.ref 27]) (w' := w2) rfl ?_
            refine gd_if (by decide) ?_
            refine gd_r E K 3 (pc' := 153) (lv' := [(0, .ref 27), (1, .int (nI k)), (2, .int 0), (3, .int (nI a)), (4, .int (nI b)), (5, .int 1), (6, .int 0)]) (st' := [.int (nI k), .ref 29, .ref 27]) (w' := w2) rfl ?_
            refine gd_ialdv E (K.1 153 (.iaload, 0) rfl).1 (j := k) (by decide) (rfl) (rfl) (by omega) (by decide) (v := nI (gs_u S k)) (u1) ?_
            refine gd_r E K 1 (pc' := 155) (lv' := [(0, .ref 27), (1, .int (nI k)), (2, .int 0), (3, .int (nI a)), (4, .int (nI b)), (5, .int 1), (6, .int 0)]) (st' := [.int 2, .int (nI (gs_u S k)), .ref 27]) (w' := w2) rfl ?_
            by_cases hu2 : gs_u S k = 2
            · refine gd_r E K 1 (pc' := if (nI (gs_u S k)) = 2 then 158 else 185) (lv' := [(0, .ref 27), (1, .int (nI k)), (2, .int 0), (3, .int (nI a)), (4, .int (nI b)), (5, .int 1), (6, .int 0)]) (st' := [.ref 27]) (w' := w2) rfl ?_
              refine gd_it (by rw [hu2]; rfl) ?_
              refine gd_r E K 8 (pc' := 197) (lv' := [(0, .ref 27), (1, .int (nI k)), (2, .int 0), (3, .int (nI a)), (4, .int (nI b)), (5, .int 1), (6, .int 0)]) (st' := [.int 0]) (w' := gd_rI w2 27 (upd (w2.1 27) 0 2)) rfl ?_
              exact gd_iretp E hr hlk (K.1 197 (.ireturn, 0) rfl).1 (by rw [if_neg (Bool.eq_false_iff.mp (by rw [gs_halfok, hft]; simp))]; exact ⟨rfl, rfl, ⟨G, hR2.code 2⟩, hf2.trans (gf_m.I _ (by decide) _)⟩)
            · refine gd_r E K 1 (pc' := if (nI (gs_u S k)) = 2 then 158 else 185) (lv' := [(0, .ref 27), (1, .int (nI k)), (2, .int 0), (3, .int (nI a)), (4, .int (nI b)), (5, .int 1), (6, .int 0)]) (st' := [.ref 27]) (w' := w2) rfl ?_
              refine gd_if (by rw [show (2 : Int32) = nI 2 from rfl, nI_eq (by omega) (by decide)]; exact hu2) ?_
              refine gd_r E K 6 (pc' := 197) (lv' := [(0, .ref 27), (1, .int (nI k)), (2, .int 0), (3, .int (nI a)), (4, .int (nI b)), (5, .int 1), (6, .int 0)]) (st' := [.int 0]) (w' := gd_rI w2 27 (upd (w2.1 27) 0 2)) rfl ?_
              exact gd_iretp E hr hlk (K.1 197 (.ireturn, 0) rfl).1 (by rw [if_neg (Bool.eq_false_iff.mp (by rw [gs_halfok, decide_eq_false hu2]; simp))]; exact ⟨rfl, rfl, ⟨G, hR2.code 2⟩, hf2.trans (gf_m.I _ (by decide) _)⟩)
          | false =>
            refine gd_r E K 1 (pc' := if (gs_b (false)) = 0 then 185 else 148) (lv' := [(0, .ref 27), (1, .int (nI k)), (2, .int 0), (3, .int (nI a)), (4, .int (nI b)), (5, .int 1), (6, .int 0)]) (st' := [.ref 27]) (w' := w2) rfl ?_
            refine gd_it (by decide) ?_
            refine gd_r E K 6 (pc' := 197) (lv' := [(0, .ref 27), (1, .int (nI k)), (2, .int 0), (3, .int (nI a)), (4, .int (nI b)), (5, .int 1), (6, .int 0)]) (st' := [.int 0]) (w' := gd_rI w2 27 (upd (w2.1 27) 0 2)) rfl ?_
            exact gd_iretp E hr hlk (K.1 197 (.ireturn, 0) rfl).1 (by rw [if_neg (Bool.eq_false_iff.mp (by rw [gs_halfok, hfr]; simp))]; exact ⟨rfl, rfl, ⟨G, hR2.code 2⟩, hf2.trans (gf_m.I _ (by decide) _)⟩)
        · refine gd_r E K 1 (pc' := if (nI (gs_k S a)) = 1 then 136 else 102) (lv' := [(0, .ref 27), (1, .int (nI k)), (2, .int 0), (3, .int (nI a)), (4, .int (nI b)), (5, .int 1)]) (st' := []) (w' := w2) rfl ?_
          refine gd_if (by rw [show (1 : Int32) = nI 1 from rfl, nI_eq (by omega) (by decide)]; exact hka) ?_
          refine gd_r E K 3 (pc' := 108) (lv' := [(0, .ref 27), (1, .int (nI k)), (2, .int 0), (3, .int (nI a)), (4, .int (nI b)), (5, .int 1)]) (st' := [.int (nI b), .ref 28]) (w' := w2) rfl ?_
          refine gd_ialdv E (K.1 108 (.iaload, 0) rfl).1 (j := b) (by decide) (rfl) (rfl) (hb64) (by decide) (v := nI (gs_k S b)) (kb) ?_
          refine gd_r E K 1 (pc' := 110) (lv' := [(0, .ref 27), (1, .int (nI k)), (2, .int 0), (3, .int (nI a)), (4, .int (nI b)), (5, .int 1)]) (st' := [.int 1, .int (nI (gs_k S b))]) (w' := w2) rfl ?_
          by_cases hkb : gs_k S b = 1
          · refine gd_r E K 1 (pc' := if (nI (gs_k S b)) = 1 then 136 else 113) (lv' := [(0, .ref 27), (1, .int (nI k)), (2, .int 0), (3, .int (nI a)), (4, .int (nI b)), (5, .int 1)]) (st' := []) (w' := w2) rfl ?_
            refine gd_it (by rw [hkb]; rfl) ?_
            have hft : gs_fits S k a b = false := by rw [gs_fits, decide_eq_true hkb]; simp
            refine gd_r E K 5 (pc' := 142) (lv' := [(0, .ref 27), (1, .int (nI k)), (2, .int 0), (3, .int (nI a)), (4, .int (nI b)), (5, .int 1), (6, .int 0)]) (st' := [.int (nI k), .ref 27, .ref 27]) (w' := w2) rfl ?_
            refine gd_cV E hA (av := [.int (nI k)]) (rest := [.ref 27]) (c2_isFree hinj _ hR2 k hk) (K.1 142 (.invokevirtual 129, 0) rfl).1 ml_M_129 cv_M_isFree (by decide) (rfl) ⟨Nat.le_of_ble_eq_true rfl, Nat.le_of_ble_eq_true rfl⟩ ⟨Nat.zero_le _, Nat.zero_le _⟩ rfl (Nat.le_of_ble_eq_true rfl) ?_
            cases hfr : gs_free S k with
            | true =>
              refine gd_r E K 1 (pc' := if (gs_b (true)) = 0 then 185 else 148) (lv' := [(0, .ref 27), (1, .int (nI k)), (2, .int 0), (3, .int (nI a)), (4, .int (nI b)), (5, .int 1), (6, .int 0)]) (st' := [.ref 27]) (w' := w2) rfl ?_
              refine gd_if (by decide) ?_
              refine gd_r E K 3 (pc' := 153) (lv' := [(0, .ref 27), (1, .int (nI k)), (2, .int 0), (3, .int (nI a)), (4, .int (nI b)), (5, .int 1), (6, .int 0)]) (st' := [.int (nI k), .ref 29, .ref 27]) (w' := w2) rfl ?_
              refine gd_ialdv E (K.1 153 (.iaload, 0) rfl).1 (j := k) (by decide) (rfl) (rfl) (by omega) (by decide) (v := nI (gs_u S k)) (u1) ?_
              refine gd_r E K 1 (pc' := 155) (lv' := [(0, .ref 27), (1, .int (nI k)), (2, .int 0), (3, .int (nI a)), (4, .int (nI b)), (5, .int 1), (6, .int 0)]) (st' := [.int 2, .int (nI (gs_u S k)), .ref 27]) (w' := w2) rfl ?_
              by_cases hu2 : gs_u S k = 2
              · refine gd_r E K 1 (pc' := if (nI (gs_u S k)) = 2 then 158 else 185) (lv' := [(0, .ref 27), (1, .int (nI k)), (2, .int 0), (3, .int (nI a)), (4, .int (nI b)), (5, .int 1), (6, .int 0)]) (st' := [.ref 27]) (w' := w2) rfl ?_
                refine gd_it (by rw [hu2]; rfl) ?_
                refine gd_r E K 8 (pc' := 197) (lv' := [(0, .ref 27), (1, .int (nI k)), (2, .int 0), (3, .int (nI a)), (4, .int (nI b)), (5, .int 1), (6, .int 0)]) (st' := [.int 0]) (w' := gd_rI w2 27 (upd (w2.1 27) 0 2)) rfl ?_
                exact gd_iretp E hr hlk (K.1 197 (.ireturn, 0) rfl).1 (by rw [if_neg (Bool.eq_false_iff.mp (by rw [gs_halfok, hft]; simp))]; exact ⟨rfl, rfl, ⟨G, hR2.code 2⟩, hf2.trans (gf_m.I _ (by decide) _)⟩)
              · refine gd_r E K 1 (pc' := if (nI (gs_u S k)) = 2 then 158 else 185) (lv' := [(0, .ref 27), (1, .int (nI k)), (2, .int 0), (3, .int (nI a)), (4, .int (nI b)), (5, .int 1), (6, .int 0)]) (st' := [.ref 27]) (w' := w2) rfl ?_
                refine gd_if (by rw [show (2 : Int32) = nI 2 from rfl, nI_eq (by omega) (by decide)]; exact hu2) ?_
                refine gd_r E K 6 (pc' := 197) (lv' := [(0, .ref 27), (1, .int (nI k)), (2, .int 0), (3, .int (nI a)), (4, .int (nI b)), (5, .int 1), (6, .int 0)]) (st' := [.int 0]) (w' := gd_rI w2 27 (upd (w2.1 27) 0 2)) rfl ?_
                exact gd_iretp E hr hlk (K.1 197 (.ireturn, 0) rfl).1 (by rw [if_neg (Bool.eq_false_iff.mp (by rw [gs_halfok, decide_eq_false hu2]; simp))]; exact ⟨rfl, rfl, ⟨G, hR2.code 2⟩, hf2.trans (gf_m.I _ (by decide) _)⟩)
            | false =>
              refine gd_r E K 1 (pc' := if (gs_b (false)) = 0 then 185 else 148) (lv' := [(0, .ref 27), (1, .int (nI k)), (2, .int 0), (3, .int (nI a)), (4, .int (nI b)), (5, .int 1), (6, .int 0)]) (st' := [.ref 27]) (w' := w2) rfl ?_
              refine gd_it (by decide) ?_
              refine gd_r E K 6 (pc' := 197) (lv' := [(0, .ref 27), (1, .int (nI k)), (2, .int 0), (3, .int (nI a)), (4, .int (nI b)), (5, .int 1), (6, .int 0)]) (st' := [.int 0]) (w' := gd_rI w2 27 (upd (w2.1 27) 0 2)) rfl ?_
              exact gd_iretp E hr hlk (K.1 197 (.ireturn, 0) rfl).1 (by rw [if_neg (Bool.eq_false_iff.mp (by rw [gs_halfok, hfr]; simp))]; exact ⟨rfl, rfl, ⟨G, hR2.code 2⟩, hf2.trans (gf_m.I _ (by decide) _)⟩)
          · refine gd_r E K 1 (pc' := if (nI (gs_k S b)) = 1 then 136 else 113) (lv' := [(0, .ref 27), (1, .int (nI k)), (2, .int 0), (3, .int (nI a)), (4, .int (nI b)), (5, .int 1)]) (st' := []) (w' := w2) rfl ?_
            refine gd_if (by rw [show (1 : Int32) = nI 1 from rfl, nI_eq (by omega) (by decide)]; exact hkb) ?_
            refine gd_r E K 3 (pc' := 116) (lv' := [(0, .ref 27), (1, .int (nI k)), (2, .int 0), (3, .int (nI a)), (4, .int (nI b)), (5, .int 1)]) (st' := [.int 0, .int (nI a), .ref 27]) (w' := w2) rfl ?_
            refine gd_cg (lv' := [(0, .ref 27), (1, .int (nI k)), (2, .int 0), (3, .int (nI a)), (4, .int (nI b)), (5, .int 1)]) (st' := [.int (nI 0), .int (nI a), .ref 27]) (w' := w2) ?_ (rfl) (rfl) (rfl)
            refine gd_cV E hA (av := [.int (nI a), .int (nI 0)]) (rest := []) (c2_restk hinj w2 k hT2 a ha64) (K.1 116 (.invokevirtual 98, 0) rfl).1 ml_M_98 cv_M_canRest (by decide) (rfl) ⟨Nat.le_of_ble_eq_true rfl, Nat.le_of_ble_eq_true rfl⟩ ⟨Nat.zero_le _, Nat.zero_le _⟩ rfl (Nat.le_of_ble_eq_true rfl) ?_
            cases hra : gs_rest S k a with
            | true =>
              refine gd_r E K 1 (pc' := if (gs_b (true)) = 0 then 136 else 122) (lv' := [(0, .ref 27), (1, .int (nI k)), (2, .int 0), (3, .int (nI a)), (4, .int (nI b)), (5, .int 1)]) (st' := []) (w' := w2) rfl ?_
              refine gd_if (by decide) ?_
              refine gd_r E K 3 (pc' := 126) (lv' := [(0, .ref 27), (1, .int (nI k)), (2, .int 0), (3, .int (nI a)), (4, .int (nI b)), (5, .int 1)]) (st' := [.int 0, .int (nI b), .ref 27]) (w' := w2) rfl ?_
              refine gd_cg (lv' := [(0, .ref 27), (1, .int (nI k)), (2, .int 0), (3, .int (nI a)), (4, .int (nI b)), (5, .int 1)]) (st' := [.int (nI 0), .int (nI b), .ref 27]) (w' := w2) ?_ (rfl) (rfl) (rfl)
              refine gd_cV E hA (av := [.int (nI b), .int (nI 0)]) (rest := []) (c2_restk hinj w2 k hT2 b hb64) (K.1 126 (.invokevirtual 98, 0) rfl).1 ml_M_98 cv_M_canRest (by decide) (rfl) ⟨Nat.le_of_ble_eq_true rfl, Nat.le_of_ble_eq_true rfl⟩ ⟨Nat.zero_le _, Nat.zero_le _⟩ rfl (Nat.le_of_ble_eq_true rfl) ?_
              cases hrb : gs_rest S k b with
              | true =>
                refine gd_r E K 1 (pc' := if (gs_b (true)) = 0 then 136 else 132) (lv' := [(0, .ref 27), (1, .int (nI k)), (2, .int 0), (3, .int (nI a)), (4, .int (nI b)), (5, .int 1)]) (st' := []) (w' := w2) rfl ?_
                refine gd_if (by decide) ?_
                have hft : gs_fits S k a b = true := by rw [gs_fits, decide_eq_false hka, decide_eq_false hkb, hra, hrb]; rfl
                refine gd_r E K 6 (pc' := 142) (lv' := [(0, .ref 27), (1, .int (nI k)), (2, .int 0), (3, .int (nI a)), (4, .int (nI b)), (5, .int 1), (6, .int 1)]) (st' := [.int (nI k), .ref 27, .ref 27]) (w' := w2) rfl ?_
                refine gd_cV E hA (av := [.int (nI k)]) (rest := [.ref 27]) (c2_isFree hinj _ hR2 k hk) (K.1 142 (.invokevirtual 129, 0) rfl).1 ml_M_129 cv_M_isFree (by decide) (rfl) ⟨Nat.le_of_ble_eq_true rfl, Nat.le_of_ble_eq_true rfl⟩ ⟨Nat.zero_le _, Nat.zero_le _⟩ rfl (Nat.le_of_ble_eq_true rfl) ?_
                cases hfr : gs_free S k with
                | true =>
                  refine gd_r E K 1 (pc' := if (gs_b (true)) = 0 then 185 else 148) (lv' := [(0, .ref 27), (1, .int (nI k)), (2, .int 0), (3, .int (nI a)), (4, .int (nI b)), (5, .int 1), (6, .int 1)]) (st' := [.ref 27]) (w' := w2) rfl ?_
                  refine gd_if (by decide) ?_
                  refine gd_r E K 3 (pc' := 153) (lv' := [(0, .ref 27), (1, .int (nI k)), (2, .int 0), (3, .int (nI a)), (4, .int (nI b)), (5, .int 1), (6, .int 1)]) (st' := [.int (nI k), .ref 29, .ref 27]) (w' := w2) rfl ?_
                  refine gd_ialdv E (K.1 153 (.iaload, 0) rfl).1 (j := k) (by decide) (rfl) (rfl) (by omega) (by decide) (v := nI (gs_u S k)) (u1) ?_
                  refine gd_r E K 1 (pc' := 155) (lv' := [(0, .ref 27), (1, .int (nI k)), (2, .int 0), (3, .int (nI a)), (4, .int (nI b)), (5, .int 1), (6, .int 1)]) (st' := [.int 2, .int (nI (gs_u S k)), .ref 27]) (w' := w2) rfl ?_
                  by_cases hu2 : gs_u S k = 2
                  · refine gd_r E K 1 (pc' := if (nI (gs_u S k)) = 2 then 158 else 185) (lv' := [(0, .ref 27), (1, .int (nI k)), (2, .int 0), (3, .int (nI a)), (4, .int (nI b)), (5, .int 1), (6, .int 1)]) (st' := [.ref 27]) (w' := w2) rfl ?_
                    refine gd_it (by rw [hu2]; rfl) ?_
                    refine gd_r E K 3 (pc' := 164) (lv' := [(0, .ref 27), (1, .int (nI k)), (2, .int 0), (3, .int (nI a)), (4, .int (nI b)), (5, .int 1), (6, .int 1)]) (st' := [.ref 27, .ref 27]) (w' := w2) rfl ?_
                    refine gd_cV E hA (av := []) (rest := [.ref 27]) (c2_count hinj _ hR2.U) (K.1 164 (.invokevirtual 71, 0) rfl).1 ml_M_71 cv_M_count (by decide) (rfl) ⟨Nat.le_of_ble_eq_true rfl, Nat.le_of_ble_eq_true rfl⟩ ⟨Nat.zero_le _, Nat.zero_le _⟩ rfl (Nat.le_of_ble_eq_true rfl) ?_
                    refine gd_r E K 1 (pc' := 169) (lv' := [(0, .ref 27), (1, .int (nI k)), (2, .int 0), (3, .int (nI a)), (4, .int (nI b)), (5, .int 1), (6, .int 1)]) (st' := [.int 6, .int (nI (gs_cnt (gs_u S) (gs_made S))), .ref 27]) (w' := w2) rfl ?_
                    by_cases h6 : gs_cnt (gs_u S) (gs_made S) < 6
                    · refine gd_r E K 1 (pc' := if 6 ≤ (nI (gs_cnt (gs_u S) (gs_made S))) then 185 else 172) (lv' := [(0, .ref 27), (1, .int (nI k)), (2, .int 0), (3, .int (nI a)), (4, .int (nI b)), (5, .int 1), (6, .int 1)]) (st' := [.ref 27]) (w' := w2) rfl ?_
                      refine gd_if (nI_ge h6 (by decide)) ?_
                      refine gd_r E K 3 (pc' := 178) (lv' := [(0, .ref 27), (1, .int (nI k)), (2, .int 0), (3, .int (nI a)), (4, .int (nI b)), (5, .int 1), (6, .int 1)]) (st' := [.int 59, .int (w2.1 27 3), .ref 27]) (w' := w2) rfl ?_
                      refine gd_cg (lv' := [(0, .ref 27), (1, .int (nI k)), (2, .int 0), (3, .int (nI a)), (4, .int (nI b)), (5, .int 1), (6, .int 1)]) (st' := [.int 59, .int (nI (gs_made S)), .ref 27]) (w' := w2) ?_ (rfl) (by simp only [hR2.1.1]) rfl
                      by_cases h59 : gs_made S < 59
                      · refine gd_r E K 1 (pc' := if 59 ≤ (nI (gs_made S)) then 185 else 181) (lv' := [(0, .ref 27), (1, .int (nI k)), (2, .int 0), (3, .int (nI a)), (4, .int (nI b)), (5, .int 1), (6, .int 1)]) (st' := [.ref 27]) (w' := w2) rfl ?_
                        refine gd_if (nI_ge h59 (by decide)) ?_
                        have hall : gs_halfok S k a b = true := by rw [gs_halfok, hfr, decide_eq_true hu2, hft, decide_eq_true h6, decide_eq_true h59]; rfl
                        rw [if_pos hall]
                        refine gd_r E K 10 (pc' := 204) (lv' := [(0, .ref 27), (1, .int (nI k)), (2, .int 0), (3, .int (nI a)), (4, .int (nI b)), (5, .int 1), (6, .int 1)]) (st' := [.int 0, .int (nI k), .ref 29]) (w' := gd_rI w2 27 (upd (w2.1 27) 0 0)) rfl ?_
                        refine gd_iast E (K.1 204 (.iastore, 0) rfl).1 (j := k) (by decide) (rfl) (rfl) (by omega) (by decide) ?_
                        refine gd_r E K 3 (pc' := 208) (lv' := [(0, .ref 27), (1, .int (nI k)), (2, .int 0), (3, .int (nI a)), (4, .int (nI b)), (5, .int 1), (6, .int 1)]) (st' := [.int 1, .int (nI a), .ref 27]) (w' := gd_rI (gd_rI w2 27 (upd (w2.1 27) 0 0)) 29 (upd ((gd_rI w2 27 (upd (w2.1 27) 0 0)).1 29) k 0)) rfl ?_
                        have hR3 := (hR2.code 0).f0 k 0 (by decide)
                        refine gd_cg (lv' := [(0, .ref 27), (1, .int (nI k)), (2, .int 0), (3, .int (nI a)), (4, .int (nI b)), (5, .int 1), (6, .int 1)]) (st' := [.int (nI 1), .int (nI a), .ref 27]) (w' := gd_rI (gd_rI w2 27 (upd (w2.1 27) 0 0)) 29 (upd ((gd_rI w2 27 (upd (w2.1 27) 0 0)).1 29) k 0)) ?_ (rfl) (rfl) (rfl)
                        refine gd_cVp E hA (av := [.int (nI a), .int (nI 1)]) (rest := []) (c2_Madd hinj _ hR3 a 1 ha64 (by decide) (by show gs_made S < 60; omega)) (K.1 208 (.invokevirtual 119, 0) rfl).1 ml_M_119 cv_M_add (by decide) (rfl) ⟨Nat.le_of_ble_eq_true rfl, Nat.le_of_ble_eq_true rfl⟩ ⟨Nat.zero_le _, Nat.zero_le _⟩ rfl (Nat.le_of_ble_eq_true rfl) (fun r9 w4 h9 => ?_)
                        obtain ⟨rfl, ⟨G4, hR4⟩, hf4, hc4⟩ := h9
                        refine gd_r E K 4 (pc' := 217) (lv' := [(0, .ref 27), (1, .int (nI k)), (2, .int 0), (3, .int (nI a)), (4, .int (nI b)), (5, .int 1), (6, .int 1), (7, .int (nI (gs_made S)))]) (st' := [.int 1, .int (nI b), .ref 27]) (w' := w4) rfl ?_
                        refine gd_cg (lv' := [(0, .ref 27), (1, .int (nI k)), (2, .int 0), (3, .int (nI a)), (4, .int (nI b)), (5, .int 1), (6, .int 1), (7, .int (nI (gs_made S)))]) (st' := [.int (nI 1), .int (nI b), .ref 27]) (w' := w4) ?_ (rfl) (rfl) (rfl)
                        refine gd_cVp E hA (av := [.int (nI b), .int (nI 1)]) (rest := []) (c2_Madd hinj _ hR4 b 1 hb64 (by decide) (by show gs_made S + 1 < 60; omega)) (K.1 217 (.invokevirtual 119, 0) rfl).1 ml_M_119 cv_M_add (by decide) (rfl) ⟨Nat.le_of_ble_eq_true rfl, Nat.le_of_ble_eq_true rfl⟩ ⟨Nat.zero_le _, Nat.zero_le _⟩ rfl (Nat.le_of_ble_eq_true rfl) (fun r9 w5 h9 => ?_)
                        obtain ⟨rfl, ⟨G5, hR5⟩, hf5, hc5⟩ := h9
                        have hs5 : ∀ j, j < 4 → w5.2.1 31 (4 * k + j) = gs_sh S k j := fun j hj => hR5.2.2.2.2.2.2.2.1 k (by omega) j hj
                        have hp5 : w5.1 32 k = nI (gs_p S k) := (hR5.2.2.2.2.2.2.2.2.1 k (by omega)).1
                        have hp6 : gs_p S k ≤ 60 := (hR5.2.2.2.2.2.2.2.2.1 k (by omega)).2
                        have hf9 : gf_m w w5 := hf2.trans ((gf_m.I _ (by decide) _).trans ((gf_m.I _ (by decide) _).trans (hf4.trans hf5)))
                        have hc9 : w5.1 27 0 = 0 := (hc5.trans hc4).trans rfl
                        have hR9 := hR5
                        clear hR5 hf5 hc5 hR4 hf4 hc4 hR3
                        refine gd_r E K 22 (pc' := 254) (lv' := [(0, .ref 27), (1, .int (nI k)), (2, .int 0), (3, .int (nI a)), (4, .int (nI b)), (5, .int 1), (6, .int 1), (7, .int (nI (gs_made S))), (8, .int 0)]) (st' := [.int ((4 * (nI k)) + 0), .ref 31, .int ((4 * (nI (gs_made S))) + 0), .ref 31]) (w' := w5) rfl ?_
                        refine gd_laldv E (K.1 254 (.laload, 0) rfl).1 (j := 4 * k + 0) (by decide) (rfl) (by show nI 4 * nI k + nI 0 = _; rw [pk_mul, nI_add]) (by omega) (by decide) (v := gs_sh S k 0) (hs5 0 (by decide)) ?_
                        refine gd_last E (K.1 255 (.lastore, 0) rfl).1 (j := 4 * (gs_made S) + 0) (by decide) (rfl) (by show nI 4 * nI (gs_made S) + nI 0 = _; rw [pk_mul, nI_add] <;> (congr 1 <;> omega)) (by omega) (by decide) ?_
                        replace hR9 := hR9.sset (gs_made S) 0 (gs_sh S k 0) (by decide)
                        replace hs5 : ∀ j, j < 4 → (gd_rL w5 31 (vp_updL (w5.2.1 31) (4 * (gs_made S) + 0) (gs_sh S k 0))).2.1 31 (4 * k + j) = gs_sh S k j := fun j hj => by rw [gd_rL_s, gd_ul_n (by omega)]; exact hs5 j hj
                        replace hp5 : (gd_rL w5 31 (vp_updL (w5.2.1 31) (4 * (gs_made S) + 0) (gs_sh S k 0))).1 32 k = nI (gs_p S k) := hp5
                        replace hc9 : (gd_rL w5 31 (vp_updL (w5.2.1 31) (4 * (gs_made S) + 0) (gs_sh S k 0))).1 27 0 = 0 := hc9
                        replace hf9 : gf_m w (gd_rL w5 31 (vp_updL (w5.2.1 31) (4 * (gs_made S) + 0) (gs_sh S k 0))) := hf9.trans (gf_m.L _ (by decide) _)
                        generalize gd_rL w5 31 (vp_updL (w5.2.1 31) (4 * (gs_made S) + 0) (gs_sh S k 0)) = v0 at hR9 hs5 hp5 hc9 hf9 ⊢
                        refine gd_r E K 21 (pc' := 254) (lv' := [(0, .ref 27), (1, .int (nI k)), (2, .int 0), (3, .int (nI a)), (4, .int (nI b)), (5, .int 1), (6, .int 1), (7, .int (nI (gs_made S))), (8, .int 1)]) (st' := [.int ((4 * (nI k)) + 1), .ref 31, .int ((4 * (nI (gs_made S))) + 1), .ref 31]) (w' := v0) rfl ?_
                        refine gd_laldv E (K.1 254 (.laload, 0) rfl).1 (j := 4 * k + 1) (by decide) (rfl) (by show nI 4 * nI k + nI 1 = _; rw [pk_mul, nI_add]) (by omega) (by decide) (v := gs_sh S k 1) (hs5 1 (by decide)) ?_
                        refine gd_last E (K.1 255 (.lastore, 0) rfl).1 (j := 4 * (gs_made S) + 1) (by decide) (rfl) (by show nI 4 * nI (gs_made S) + nI 1 = _; rw [pk_mul, nI_add] <;> (congr 1 <;> omega)) (by omega) (by decide) ?_
                        replace hR9 := hR9.sset (gs_made S) 1 (gs_sh S k 1) (by decide)
                        replace hs5 : ∀ j, j < 4 → (gd_rL v0 31 (vp_updL (v0.2.1 31) (4 * (gs_made S) + 1) (gs_sh S k 1))).2.1 31 (4 * k + j) = gs_sh S k j := fun j hj => by rw [gd_rL_s, gd_ul_n (by omega)]; exact hs5 j hj
                        replace hp5 : (gd_rL v0 31 (vp_updL (v0.2.1 31) (4 * (gs_made S) + 1) (gs_sh S k 1))).1 32 k = nI (gs_p S k) := hp5
                        replace hc9 : (gd_rL v0 31 (vp_updL (v0.2.1 31) (4 * (gs_made S) + 1) (gs_sh S k 1))).1 27 0 = 0 := hc9
                        replace hf9 : gf_m w (gd_rL v0 31 (vp_updL (v0.2.1 31) (4 * (gs_made S) + 1) (gs_sh S k 1))) := hf9.trans (gf_m.L _ (by decide) _)
                        generalize gd_rL v0 31 (vp_updL (v0.2.1 31) (4 * (gs_made S) + 1) (gs_sh S k 1)) = v1 at hR9 hs5 hp5 hc9 hf9 ⊢
                        refine gd_r E K 21 (pc' := 254) (lv' := [(0, .ref 27), (1, .int (nI k)), (2, .int 0), (3, .int (nI a)), (4, .int (nI b)), (5, .int 1), (6, .int 1), (7, .int (nI (gs_made S))), (8, .int 2)]) (st' := [.int ((4 * (nI k)) + 2), .ref 31, .int ((4 * (nI (gs_made S))) + 2), .ref 31]) (w' := v1) rfl ?_
                        refine gd_laldv E (K.1 254 (.laload, 0) rfl).1 (j := 4 * k + 2) (by decide) (rfl) (by show nI 4 * nI k + nI 2 = _; rw [pk_mul, nI_add]) (by omega) (by decide) (v := gs_sh S k 2) (hs5 2 (by decide)) ?_
                        refine gd_last E (K.1 255 (.lastore, 0) rfl).1 (j := 4 * (gs_made S) + 2) (by decide) (rfl) (by show nI 4 * nI (gs_made S) + nI 2 = _; rw [pk_mul, nI_add] <;> (congr 1 <;> omega)) (by omega) (by decide) ?_
                        replace hR9 := hR9.sset (gs_made S) 2 (gs_sh S k 2) (by decide)
                        replace hs5 : ∀ j, j < 4 → (gd_rL v1 31 (vp_updL (v1.2.1 31) (4 * (gs_made S) + 2) (gs_sh S k 2))).2.1 31 (4 * k + j) = gs_sh S k j := fun j hj => by rw [gd_rL_s, gd_ul_n (by omega)]; exact hs5 j hj
                        replace hp5 : (gd_rL v1 31 (vp_updL (v1.2.1 31) (4 * (gs_made S) + 2) (gs_sh S k 2))).1 32 k = nI (gs_p S k) := hp5
                        replace hc9 : (gd_rL v1 31 (vp_updL (v1.2.1 31) (4 * (gs_made S) + 2) (gs_sh S k 2))).1 27 0 = 0 := hc9
                        replace hf9 : gf_m w (gd_rL v1 31 (vp_updL (v1.2.1 31) (4 * (gs_made S) + 2) (gs_sh S k 2))) := hf9.trans (gf_m.L _ (by decide) _)
                        generalize gd_rL v1 31 (vp_updL (v1.2.1 31) (4 * (gs_made S) + 2) (gs_sh S k 2)) = v2 at hR9 hs5 hp5 hc9 hf9 ⊢
                        refine gd_r E K 21 (pc' := 254) (lv' := [(0, .ref 27), (1, .int (nI k)), (2, .int 0), (3, .int (nI a)), (4, .int (nI b)), (5, .int 1), (6, .int 1), (7, .int (nI (gs_made S))), (8, .int 3)]) (st' := [.int ((4 * (nI k)) + 3), .ref 31, .int ((4 * (nI (gs_made S))) + 3), .ref 31]) (w' := v2) rfl ?_
                        refine gd_laldv E (K.1 254 (.laload, 0) rfl).1 (j := 4 * k + 3) (by decide) (rfl) (by show nI 4 * nI k + nI 3 = _; rw [pk_mul, nI_add]) (by omega) (by decide) (v := gs_sh S k 3) (hs5 3 (by decide)) ?_
                        refine gd_last E (K.1 255 (.lastore, 0) rfl).1 (j := 4 * (gs_made S) + 3) (by decide) (rfl) (by show nI 4 * nI (gs_made S) + nI 3 = _; rw [pk_mul, nI_add] <;> (congr 1 <;> omega)) (by omega) (by decide) ?_
                        replace hR9 := hR9.sset (gs_made S) 3 (gs_sh S k 3) (by decide)
                        replace hs5 : ∀ j, j < 4 → (gd_rL v2 31 (vp_updL (v2.2.1 31) (4 * (gs_made S) + 3) (gs_sh S k 3))).2.1 31 (4 * k + j) = gs_sh S k j := fun j hj => by rw [gd_rL_s, gd_ul_n (by omega)]; exact hs5 j hj
                        replace hp5 : (gd_rL v2 31 (vp_updL (v2.2.1 31) (4 * (gs_made S) + 3) (gs_sh S k 3))).1 32 k = nI (gs_p S k) := hp5
                        replace hc9 : (gd_rL v2 31 (vp_updL (v2.2.1 31) (4 * (gs_made S) + 3) (gs_sh S k 3))).1 27 0 = 0 := hc9
                        replace hf9 : gf_m w (gd_rL v2 31 (vp_updL (v2.2.1 31) (4 * (gs_made S) + 3) (gs_sh S k 3))) := hf9.trans (gf_m.L _ (by decide) _)
                        generalize gd_rL v2 31 (vp_updL (v2.2.1 31) (4 * (gs_made S) + 3) (gs_sh S k 3)) = v3 at hR9 hs5 hp5 hc9 hf9 ⊢
                        refine gd_r E K 21 (pc' := 254) (lv' := [(0, .ref 27), (1, .int (nI k)), (2, .int 0), (3, .int (nI a)), (4, .int (nI b)), (5, .int 1), (6, .int 1), (7, .int (nI (gs_made S))), (8, .int 4)]) (st' := [.int ((4 * (nI k)) + 0), .ref 31, .int ((4 * (nI (gs_made S))) + 4), .ref 31]) (w' := v3) rfl ?_
                        refine gd_laldv E (K.1 254 (.laload, 0) rfl).1 (j := 4 * k + 0) (by decide) (rfl) (by show nI 4 * nI k + nI 0 = _; rw [pk_mul, nI_add]) (by omega) (by decide) (v := gs_sh S k 0) (hs5 0 (by decide)) ?_
                        refine gd_last E (K.1 255 (.lastore, 0) rfl).1 (j := 4 * (gs_made S + 1) + 0) (by decide) (rfl) (by show nI 4 * nI (gs_made S) + nI 4 = _; rw [pk_mul, nI_add] <;> (congr 1 <;> omega)) (by omega) (by decide) ?_
                        replace hR9 := hR9.sset (gs_made S + 1) 0 (gs_sh S k 0) (by decide)
                        replace hs5 : ∀ j, j < 4 → (gd_rL v3 31 (vp_updL (v3.2.1 31) (4 * (gs_made S + 1) + 0) (gs_sh S k 0))).2.1 31 (4 * k + j) = gs_sh S k j := fun j hj => by rw [gd_rL_s, gd_ul_n (by omega)]; exact hs5 j hj
                        replace hp5 : (gd_rL v3 31 (vp_updL (v3.2.1 31) (4 * (gs_made S + 1) + 0) (gs_sh S k 0))).1 32 k = nI (gs_p S k) := hp5
                        replace hc9 : (gd_rL v3 31 (vp_updL (v3.2.1 31) (4 * (gs_made S + 1) + 0) (gs_sh S k 0))).1 27 0 = 0 := hc9
                        replace hf9 : gf_m w (gd_rL v3 31 (vp_updL (v3.2.1 31) (4 * (gs_made S + 1) + 0) (gs_sh S k 0))) := hf9.trans (gf_m.L _ (by decide) _)
                        generalize gd_rL v3 31 (vp_updL (v3.2.1 31) (4 * (gs_made S + 1) + 0) (gs_sh S k 0)) = v4 at hR9 hs5 hp5 hc9 hf9 ⊢
                        refine gd_r E K 21 (pc' := 254) (lv' := [(0, .ref 27), (1, .int (nI k)), (2, .int 0), (3, .int (nI a)), (4, .int (nI b)), (5, .int 1), (6, .int 1), (7, .int (nI (gs_made S))), (8, .int 5)]) (st' := [.int ((4 * (nI k)) + 1), .ref 31, .int ((4 * (nI (gs_made S))) + 5), .ref 31]) (w' := v4) rfl ?_
                        refine gd_laldv E (K.1 254 (.laload, 0) rfl).1 (j := 4 * k + 1) (by decide) (rfl) (by show nI 4 * nI k + nI 1 = _; rw [pk_mul, nI_add]) (by omega) (by decide) (v := gs_sh S k 1) (hs5 1 (by decide)) ?_
                        refine gd_last E (K.1 255 (.lastore, 0) rfl).1 (j := 4 * (gs_made S + 1) + 1) (by decide) (rfl) (by show nI 4 * nI (gs_made S) + nI 5 = _; rw [pk_mul, nI_add] <;> (congr 1 <;> omega)) (by omega) (by decide) ?_
                        replace hR9 := hR9.sset (gs_made S + 1) 1 (gs_sh S k 1) (by decide)
                        replace hs5 : ∀ j, j < 4 → (gd_rL v4 31 (vp_updL (v4.2.1 31) (4 * (gs_made S + 1) + 1) (gs_sh S k 1))).2.1 31 (4 * k + j) = gs_sh S k j := fun j hj => by rw [gd_rL_s, gd_ul_n (by omega)]; exact hs5 j hj
                        replace hp5 : (gd_rL v4 31 (vp_updL (v4.2.1 31) (4 * (gs_made S + 1) + 1) (gs_sh S k 1))).1 32 k = nI (gs_p S k) := hp5
                        replace hc9 : (gd_rL v4 31 (vp_updL (v4.2.1 31) (4 * (gs_made S + 1) + 1) (gs_sh S k 1))).1 27 0 = 0 := hc9
                        replace hf9 : gf_m w (gd_rL v4 31 (vp_updL (v4.2.1 31) (4 * (gs_made S + 1) + 1) (gs_sh S k 1))) := hf9.trans (gf_m.L _ (by decide) _)
                        generalize gd_rL v4 31 (vp_updL (v4.2.1 31) (4 * (gs_made S + 1) + 1) (gs_sh S k 1)) = v5 at hR9 hs5 hp5 hc9 hf9 ⊢
                        refine gd_r E K 21 (pc' := 254) (lv' := [(0, .ref 27), (1, .int (nI k)), (2, .int 0), (3, .int (nI a)), (4, .int (nI b)), (5, .int 1), (6, .int 1), (7, .int (nI (gs_made S))), (8, .int 6)]) (st' := [.int ((4 * (nI k)) + 2), .ref 31, .int ((4 * (nI (gs_made S))) + 6), .ref 31]) (w' := v5) rfl ?_
                        refine gd_laldv E (K.1 254 (.laload, 0) rfl).1 (j := 4 * k + 2) (by decide) (rfl) (by show nI 4 * nI k + nI 2 = _; rw [pk_mul, nI_add]) (by omega) (by decide) (v := gs_sh S k 2) (hs5 2 (by decide)) ?_
                        refine gd_last E (K.1 255 (.lastore, 0) rfl).1 (j := 4 * (gs_made S + 1) + 2) (by decide) (rfl) (by show nI 4 * nI (gs_made S) + nI 6 = _; rw [pk_mul, nI_add] <;> (congr 1 <;> omega)) (by omega) (by decide) ?_
                        replace hR9 := hR9.sset (gs_made S + 1) 2 (gs_sh S k 2) (by decide)
                        replace hs5 : ∀ j, j < 4 → (gd_rL v5 31 (vp_updL (v5.2.1 31) (4 * (gs_made S + 1) + 2) (gs_sh S k 2))).2.1 31 (4 * k + j) = gs_sh S k j := fun j hj => by rw [gd_rL_s, gd_ul_n (by omega)]; exact hs5 j hj
                        replace hp5 : (gd_rL v5 31 (vp_updL (v5.2.1 31) (4 * (gs_made S + 1) + 2) (gs_sh S k 2))).1 32 k = nI (gs_p S k) := hp5
                        replace hc9 : (gd_rL v5 31 (vp_updL (v5.2.1 31) (4 * (gs_made S + 1) + 2) (gs_sh S k 2))).1 27 0 = 0 := hc9
                        replace hf9 : gf_m w (gd_rL v5 31 (vp_updL (v5.2.1 31) (4 * (gs_made S + 1) + 2) (gs_sh S k 2))) := hf9.trans (gf_m.L _ (by decide) _)
                        generalize gd_rL v5 31 (vp_updL (v5.2.1 31) (4 * (gs_made S + 1) + 2) (gs_sh S k 2)) = v6 at hR9 hs5 hp5 hc9 hf9 ⊢
                        refine gd_r E K 21 (pc' := 254) (lv' := [(0, .ref 27), (1, .int (nI k)), (2, .int 0), (3, .int (nI a)), (4, .int (nI b)), (5, .int 1), (6, .int 1), (7, .int (nI (gs_made S))), (8, .int 7)]) (st' := [.int ((4 * (nI k)) + 3), .ref 31, .int ((4 * (nI (gs_made S))) + 7), .ref 31]) (w' := v6) rfl ?_
                        refine gd_laldv E (K.1 254 (.laload, 0) rfl).1 (j := 4 * k + 3) (by decide) (rfl) (by show nI 4 * nI k + nI 3 = _; rw [pk_mul, nI_add]) (by omega) (by decide) (v := gs_sh S k 3) (hs5 3 (by decide)) ?_
                        refine gd_last E (K.1 255 (.lastore, 0) rfl).1 (j := 4 * (gs_made S + 1) + 3) (by decide) (rfl) (by show nI 4 * nI (gs_made S) + nI 7 = _; rw [pk_mul, nI_add] <;> (congr 1 <;> omega)) (by omega) (by decide) ?_
                        replace hR9 := hR9.sset (gs_made S + 1) 3 (gs_sh S k 3) (by decide)
                        replace hs5 : ∀ j, j < 4 → (gd_rL v6 31 (vp_updL (v6.2.1 31) (4 * (gs_made S + 1) + 3) (gs_sh S k 3))).2.1 31 (4 * k + j) = gs_sh S k j := fun j hj => by rw [gd_rL_s, gd_ul_n (by omega)]; exact hs5 j hj
                        replace hp5 : (gd_rL v6 31 (vp_updL (v6.2.1 31) (4 * (gs_made S + 1) + 3) (gs_sh S k 3))).1 32 k = nI (gs_p S k) := hp5
                        replace hc9 : (gd_rL v6 31 (vp_updL (v6.2.1 31) (4 * (gs_made S + 1) + 3) (gs_sh S k 3))).1 27 0 = 0 := hc9
                        replace hf9 : gf_m w (gd_rL v6 31 (vp_updL (v6.2.1 31) (4 * (gs_made S + 1) + 3) (gs_sh S k 3))) := hf9.trans (gf_m.L _ (by decide) _)
                        generalize gd_rL v6 31 (vp_updL (v6.2.1 31) (4 * (gs_made S + 1) + 3) (gs_sh S k 3)) = v7 at hR9 hs5 hp5 hc9 hf9 ⊢
                        refine gd_r E K 11 (pc' := 273) (lv' := [(0, .ref 27), (1, .int (nI k)), (2, .int 0), (3, .int (nI a)), (4, .int (nI b)), (5, .int 1), (6, .int 1), (7, .int (nI (gs_made S))), (8, .int 8)]) (st' := [.int (nI k), .ref 32, .int (nI (gs_made S)), .ref 32]) (w' := v7) rfl ?_
                        refine gd_ialdv E (K.1 273 (.iaload, 0) rfl).1 (j := k) (by decide) (rfl) (rfl) (by omega) (by decide) (v := nI (gs_p S k)) (hp5) ?_
                        refine gd_iast E (K.1 274 (.iastore, 0) rfl).1 (j := gs_made S) (by decide) (rfl) (rfl) (by omega) (by decide) ?_
                        refine gd_r E K 8 (pc' := 288) (lv' := [(0, .ref 27), (1, .int (nI k)), (2, .int 0), (3, .int (nI a)), (4, .int (nI b)), (5, .int 1), (6, .int 1), (7, .int (nI (gs_made S))), (8, .int 8)]) (st' := [.int (nI k), .ref 32, .int ((nI (gs_made S)) + 1), .ref 32]) (w' := gd_rI v7 32 (upd (v7.1 32) (gs_made S) (nI (gs_p S k)))) rfl ?_
                        refine gd_ialdv E (K.1 288 (.iaload, 0) rfl).1 (j := k) (by decide) (rfl) (rfl) (by omega) (by decide) (v := nI (gs_p S k)) (by rw [gd_rI_s, gd_u_n (by omega)]; exact hp5) ?_
                        refine gd_iast E (K.1 289 (.iastore, 0) rfl).1 (j := gs_made S + 1) (by decide) (rfl) (by rw [nI_1]) (by omega) (by decide) ?_
                        refine gd_r E K 1 (pc' := 292) (lv' := [(0, .ref 27), (1, .int (nI k)), (2, .int 0), (3, .int (nI a)), (4, .int (nI b)), (5, .int 1), (6, .int 1), (7, .int (nI (gs_made S))), (8, .int 8)]) (st' := [.int (nI (gs_made S))]) (w' := gd_rI (gd_rI v7 32 (upd (v7.1 32) (gs_made S) (nI (gs_p S k)))) 32 (upd ((gd_rI v7 32 (upd (v7.1 32) (gs_made S) (nI (gs_p S k)))).1 32) (gs_made S + 1) (nI (gs_p S k)))) rfl ?_
                        exact gd_iretp E hr hlk (K.1 292 (.ireturn, 0) rfl).1 (⟨rfl, hc9, ⟨G5, (hR9.f2 (gs_made S) (gs_p S k) hp6).f2 (gs_made S + 1) (gs_p S k) hp6⟩, hf9.trans ((gf_m.I _ (by decide) _).trans (gf_m.I _ (by decide) _))⟩)
                      · refine gd_r E K 1 (pc' := if 59 ≤ (nI (gs_made S)) then 185 else 181) (lv' := [(0, .ref 27), (1, .int (nI k)), (2, .int 0), (3, .int (nI a)), (4, .int (nI b)), (5, .int 1), (6, .int 1)]) (st' := [.ref 27]) (w' := w2) rfl ?_
                        refine gd_it (nI_le (show 59 ≤ gs_made S by omega) (by omega)) ?_
                        refine gd_r E K 6 (pc' := 197) (lv' := [(0, .ref 27), (1, .int (nI k)), (2, .int 0), (3, .int (nI a)), (4, .int (nI b)), (5, .int 1), (6, .int 1)]) (st' := [.int 0]) (w' := gd_rI w2 27 (upd (w2.1 27) 0 2)) rfl ?_
                        exact gd_iretp E hr hlk (K.1 197 (.ireturn, 0) rfl).1 (by rw [if_neg (Bool.eq_false_iff.mp (by rw [gs_halfok, decide_eq_false h59]; simp))]; exact ⟨rfl, rfl, ⟨G, hR2.code 2⟩, hf2.trans (gf_m.I _ (by decide) _)⟩)
                    · refine gd_r E K 1 (pc' := if 6 ≤ (nI (gs_cnt (gs_u S) (gs_made S))) then 185 else 172) (lv' := [(0, .ref 27), (1, .int (nI k)), (2, .int 0), (3, .int (nI a)), (4, .int (nI b)), (5, .int 1), (6, .int 1)]) (st' := [.ref 27]) (w' := w2) rfl ?_
                      refine gd_it (nI_le (show 6 ≤ gs_cnt (gs_u S) (gs_made S) by omega) (by omega)) ?_
                      refine gd_r E K 6 (pc' := 197) (lv' := [(0, .ref 27), (1, .int (nI k)), (2, .int 0), (3, .int (nI a)), (4, .int (nI b)), (5, .int 1), (6, .int 1)]) (st' := [.int 0]) (w' := gd_rI w2 27 (upd (w2.1 27) 0 2)) rfl ?_
                      exact gd_iretp E hr hlk (K.1 197 (.ireturn, 0) rfl).1 (by rw [if_neg (Bool.eq_false_iff.mp (by rw [gs_halfok, decide_eq_false h6]; simp))]; exact ⟨rfl, rfl, ⟨G, hR2.code 2⟩, hf2.trans (gf_m.I _ (by decide) _)⟩)
                  · refine gd_r E K 1 (pc' := if (nI (gs_u S k)) = 2 then 158 else 185) (lv' := [(0, .ref 27), (1, .int (nI k)), (2, .int 0), (3, .int (nI a)), (4, .int (nI b)), (5, .int 1), (6, .int 1)]) (st' := [.ref 27]) (w' := w2) rfl ?_
                    refine gd_if (by rw [show (2 : Int32) = nI 2 from rfl, nI_eq (by omega) (by decide)]; exact hu2) ?_
                    refine gd_r E K 6 (pc' := 197) (lv' := [(0, .ref 27), (1, .int (nI k)), (2, .int 0), (3, .int (nI a)), (4, .int (nI b)), (5, .int 1), (6, .int 1)]) (st' := [.int 0]) (w' := gd_rI w2 27 (upd (w2.1 27) 0 2)) rfl ?_
                    exact gd_iretp E hr hlk (K.1 197 (.ireturn, 0) rfl).1 (by rw [if_neg (Bool.eq_false_iff.mp (by rw [gs_halfok, decide_eq_false hu2]; simp))]; exact ⟨rfl, rfl, ⟨G, hR2.code 2⟩, hf2.trans (gf_m.I _ (by decide) _)⟩)
                | false =>
                  refine gd_r E K 1 (pc' := if (gs_b (false)) = 0 then 185 else 148) (lv' := [(0, .ref 27), (1, .int (nI k)), (2, .int 0), (3, .int (nI a)), (4, .int (nI b)), (5, .int 1), (6, .int 1)]) (st' := [.ref 27]) (w' := w2) rfl ?_
                  refine gd_it (by decide) ?_
                  refine gd_r E K 6 (pc' := 197) (lv' := [(0, .ref 27), (1, .int (nI k)), (2, .int 0), (3, .int (nI a)), (4, .int (nI b)), (5, .int 1), (6, .int 1)]) (st' := [.int 0]) (w' := gd_rI w2 27 (upd (w2.1 27) 0 2)) rfl ?_
                  exact gd_iretp E hr hlk (K.1 197 (.ireturn, 0) rfl).1 (by rw [if_neg (Bool.eq_false_iff.mp (by rw [gs_halfok, hfr]; simp))]; exact ⟨rfl, rfl, ⟨G, hR2.code 2⟩, hf2.trans (gf_m.I _ (by decide) _)⟩)
              | false =>
                refine gd_r E K 1 (pc' := if (gs_b (false)) = 0 then 136 else 132) (lv' := [(0, .ref 27), (1, .int (nI k)), (2, .int 0), (3, .int (nI a)), (4, .int (nI b)), (5, .int 1)]) (st' := []) (w' := w2) rfl ?_
                refine gd_it (by decide) ?_
                have hft : gs_fits S k a b = false := by rw [gs_fits, hrb]; simp
                refine gd_r E K 5 (pc' := 142) (lv' := [(0, .ref 27), (1, .int (nI k)), (2, .int 0), (3, .int (nI a)), (4, .int (nI b)), (5, .int 1), (6, .int 0)]) (st' := [.int (nI k), .ref 27, .ref 27]) (w' := w2) rfl ?_
                refine gd_cV E hA (av := [.int (nI k)]) (rest := [.ref 27]) (c2_isFree hinj _ hR2 k hk) (K.1 142 (.invokevirtual 129, 0) rfl).1 ml_M_129 cv_M_isFree (by decide) (rfl) ⟨Nat.le_of_ble_eq_true rfl, Nat.le_of_ble_eq_true rfl⟩ ⟨Nat.zero_le _, Nat.zero_le _⟩ rfl (Nat.le_of_ble_eq_true rfl) ?_
                cases hfr : gs_free S k with
                | true =>
                  refine gd_r E K 1 (pc' := if (gs_b (true)) = 0 then 185 else 148) (lv' := [(0, .ref 27), (1, .int (nI k)), (2, .int 0), (3, .int (nI a)), (4, .int (nI b)), (5, .int 1), (6, .int 0)]) (st' := [.ref 27]) (w' := w2) rfl ?_
                  refine gd_if (by decide) ?_
                  refine gd_r E K 3 (pc' := 153) (lv' := [(0, .ref 27), (1, .int (nI k)), (2, .int 0), (3, .int (nI a)), (4, .int (nI b)), (5, .int 1), (6, .int 0)]) (st' := [.int (nI k), .ref 29, .ref 27]) (w' := w2) rfl ?_
                  refine gd_ialdv E (K.1 153 (.iaload, 0) rfl).1 (j := k) (by decide) (rfl) (rfl) (by omega) (by decide) (v := nI (gs_u S k)) (u1) ?_
                  refine gd_r E K 1 (pc' := 155) (lv' := [(0, .ref 27), (1, .int (nI k)), (2, .int 0), (3, .int (nI a)), (4, .int (nI b)), (5, .int 1), (6, .int 0)]) (st' := [.int 2, .int (nI (gs_u S k)), .ref 27]) (w' := w2) rfl ?_
                  by_cases hu2 : gs_u S k = 2
                  · refine gd_r E K 1 (pc' := if (nI (gs_u S k)) = 2 then 158 else 185) (lv' := [(0, .ref 27), (1, .int (nI k)), (2, .int 0), (3, .int (nI a)), (4, .int (nI b)), (5, .int 1), (6, .int 0)]) (st' := [.ref 27]) (w' := w2) rfl ?_
                    refine gd_it (by rw [hu2]; rfl) ?_
                    refine gd_r E K 8 (pc' := 197) (lv' := [(0, .ref 27), (1, .int (nI k)), (2, .int 0), (3, .int (nI a)), (4, .int (nI b)), (5, .int 1), (6, .int 0)]) (st' := [.int 0]) (w' := gd_rI w2 27 (upd (w2.1 27) 0 2)) rfl ?_
                    exact gd_iretp E hr hlk (K.1 197 (.ireturn, 0) rfl).1 (by rw [if_neg (Bool.eq_false_iff.mp (by rw [gs_halfok, hft]; simp))]; exact ⟨rfl, rfl, ⟨G, hR2.code 2⟩, hf2.trans (gf_m.I _ (by decide) _)⟩)
                  · refine gd_r E K 1 (pc' := if (nI (gs_u S k)) = 2 then 158 else 185) (lv' := [(0, .ref 27), (1, .int (nI k)), (2, .int 0), (3, .int (nI a)), (4, .int (nI b)), (5, .int 1), (6, .int 0)]) (st' := [.ref 27]) (w' := w2) rfl ?_
                    refine gd_if (by rw [show (2 : Int32) = nI 2 from rfl, nI_eq (by omega) (by decide)]; exact hu2) ?_
                    refine gd_r E K 6 (pc' := 197) (lv' := [(0, .ref 27), (1, .int (nI k)), (2, .int 0), (3, .int (nI a)), (4, .int (nI b)), (5, .int 1), (6, .int 0)]) (st' := [.int 0]) (w' := gd_rI w2 27 (upd (w2.1 27) 0 2)) rfl ?_
                    exact gd_iretp E hr hlk (K.1 197 (.ireturn, 0) rfl).1 (by rw [if_neg (Bool.eq_false_iff.mp (by rw [gs_halfok, decide_eq_false hu2]; simp))]; exact ⟨rfl, rfl, ⟨G, hR2.code 2⟩, hf2.trans (gf_m.I _ (by decide) _)⟩)
                | false =>
                  refine gd_r E K 1 (pc' := if (gs_b (false)) = 0 then 185 else 148) (lv' := [(0, .ref 27), (1, .int (nI k)), (2, .int 0), (3, .int (nI a)), (4, .int (nI b)), (5, .int 1), (6, .int 0)]) (st' := [.ref 27]) (w' := w2) rfl ?_
                  refine gd_it (by decide) ?_
                  refine gd_r E K 6 (pc' := 197) (lv' := [(0, .ref 27), (1, .int (nI k)), (2, .int 0), (3, .int (nI a)), (4, .int (nI b)), (5, .int 1), (6, .int 0)]) (st' := [.int 0]) (w' := gd_rI w2 27 (upd (w2.1 27) 0 2)) rfl ?_
                  exact gd_iretp E hr hlk (K.1 197 (.ireturn, 0) rfl).1 (by rw [if_neg (Bool.eq_false_iff.mp (by rw [gs_halfok, hfr]; simp))]; exact ⟨rfl, rfl, ⟨G, hR2.code 2⟩, hf2.trans (gf_m.I _ (by decide) _)⟩)
            | false =>
              refine gd_r E K 1 (pc' := if (gs_b (false)) = 0 then 136 else 122) (lv' := [(0, .ref 27), (1, .int (nI k)), (2, .int 0), (3, .int (nI a)), (4, .int (nI b)), (5, .int 1)]) (st' := []) (w' := w2) rfl ?_
              refine gd_it (by decide) ?_
              have hft : gs_fits S k a b = false := by rw [gs_fits, hra]; simp
              refine gd_r E K 5 (pc' := 142) (lv' := [(0, .ref 27), (1, .int (nI k)), (2, .int 0), (3, .int (nI a)), (4, .int (nI b)), (5, .int 1), (6, .int 0)]) (st' := [.int (nI k), .ref 27, .ref 27]) (w' := w2) rfl ?_
              refine gd_cV E hA (av := [.int (nI k)]) (rest := [.ref 27]) (c2_isFree hinj _ hR2 k hk) (K.1 142 (.invokevirtual 129, 0) rfl).1 ml_M_129 cv_M_isFree (by decide) (rfl) ⟨Nat.le_of_ble_eq_true rfl, Nat.le_of_ble_eq_true rfl⟩ ⟨Nat.zero_le _, Nat.zero_le _⟩ rfl (Nat.le_of_ble_eq_true rfl) ?_
              cases hfr : gs_free S k with
              | true =>
                refine gd_r E K 1 (pc' := if (gs_b (true)) = 0 then 185 else 148) (lv' := [(0, .ref 27), (1, .int (nI k)), (2, .int 0), (3, .int (nI a)), (4, .int (nI b)), (5, .int 1), (6, .int 0)]) (st' := [.ref 27]) (w' := w2) rfl ?_
                refine gd_if (by decide) ?_
                refine gd_r E K 3 (pc' := 153) (lv' := [(0, .ref 27), (1, .int (nI k)), (2, .int 0), (3, .int (nI a)), (4, .int (nI b)), (5, .int 1), (6, .int 0)]) (st' := [.int (nI k), .ref 29, .ref 27]) (w' := w2) rfl ?_
                refine gd_ialdv E (K.1 153 (.iaload, 0) rfl).1 (j := k) (by decide) (rfl) (rfl) (by omega) (by decide) (v := nI (gs_u S k)) (u1) ?_
                refine gd_r E K 1 (pc' := 155) (lv' := [(0, .ref 27), (1, .int (nI k)), (2, .int 0), (3, .int (nI a)), (4, .int (nI b)), (5, .int 1), (6, .int 0)]) (st' := [.int 2, .int (nI (gs_u S k)), .ref 27]) (w' := w2) rfl ?_
                by_cases hu2 : gs_u S k = 2
                · refine gd_r E K 1 (pc' := if (nI (gs_u S k)) = 2 then 158 else 185) (lv' := [(0, .ref 27), (1, .int (nI k)), (2, .int 0), (3, .int (nI a)), (4, .int (nI b)), (5, .int 1), (6, .int 0)]) (st' := [.ref 27]) (w' := w2) rfl ?_
                  refine gd_it (by rw [hu2]; rfl) ?_
                  refine gd_r E K 8 (pc' := 197) (lv' := [(0, .ref 27), (1, .int (nI k)), (2, .int 0), (3, .int (nI a)), (4, .int (nI b)), (5, .int 1), (6, .int 0)]) (st' := [.int 0]) (w' := gd_rI w2 27 (upd (w2.1 27) 0 2)) rfl ?_
                  exact gd_iretp E hr hlk (K.1 197 (.ireturn, 0) rfl).1 (by rw [if_neg (Bool.eq_false_iff.mp (by rw [gs_halfok, hft]; simp))]; exact ⟨rfl, rfl, ⟨G, hR2.code 2⟩, hf2.trans (gf_m.I _ (by decide) _)⟩)
                · refine gd_r E K 1 (pc' := if (nI (gs_u S k)) = 2 then 158 else 185) (lv' := [(0, .ref 27), (1, .int (nI k)), (2, .int 0), (3, .int (nI a)), (4, .int (nI b)), (5, .int 1), (6, .int 0)]) (st' := [.ref 27]) (w' := w2) rfl ?_
                  refine gd_if (by rw [show (2 : Int32) = nI 2 from rfl, nI_eq (by omega) (by decide)]; exact hu2) ?_
                  refine gd_r E K 6 (pc' := 197) (lv' := [(0, .ref 27), (1, .int (nI k)), (2, .int 0), (3, .int (nI a)), (4, .int (nI b)), (5, .int 1), (6, .int 0)]) (st' := [.int 0]) (w' := gd_rI w2 27 (upd (w2.1 27) 0 2)) rfl ?_
                  exact gd_iretp E hr hlk (K.1 197 (.ireturn, 0) rfl).1 (by rw [if_neg (Bool.eq_false_iff.mp (by rw [gs_halfok, decide_eq_false hu2]; simp))]; exact ⟨rfl, rfl, ⟨G, hR2.code 2⟩, hf2.trans (gf_m.I _ (by decide) _)⟩)
              | false =>
                refine gd_r E K 1 (pc' := if (gs_b (false)) = 0 then 185 else 148) (lv' := [(0, .ref 27), (1, .int (nI k)), (2, .int 0), (3, .int (nI a)), (4, .int (nI b)), (5, .int 1), (6, .int 0)]) (st' := [.ref 27]) (w' := w2) rfl ?_
                refine gd_it (by decide) ?_
                refine gd_r E K 6 (pc' := 197) (lv' := [(0, .ref 27), (1, .int (nI k)), (2, .int 0), (3, .int (nI a)), (4, .int (nI b)), (5, .int 1), (6, .int 0)]) (st' := [.int 0]) (w' := gd_rI w2 27 (upd (w2.1 27) 0 2)) rfl ?_
                exact gd_iretp E hr hlk (K.1 197 (.ireturn, 0) rfl).1 (by rw [if_neg (Bool.eq_false_iff.mp (by rw [gs_halfok, hfr]; simp))]; exact ⟨rfl, rfl, ⟨G, hR2.code 2⟩, hf2.trans (gf_m.I _ (by decide) _)⟩)
  | false =>
    refine gd_r E K 1 (pc' := if (gs_b (false)) = 0 then 13 else 9) (lv' := [(0, .ref 27), (1, .int d), (2, .int 0)]) (st' := [.ref 27]) (w' := w) rfl ?_
    refine gd_it (by decide) ?_
    refine gd_r E K 6 (pc' := 25) (lv' := [(0, .ref 27), (1, .int d), (2, .int 0)]) (st' := [.int 0]) (w' := gd_rI w 27 (upd (w.1 27) 0 1)) rfl ?_
    exact gd_iretp E hr hlk (K.1 25 (.ireturn, 0) rfl).1 (by rw [gs_halve, if_pos hb]; exact gs_mp_code hR 1 rfl rfl)
