/-- the way of a droplet k to a cell, the others but k and e in its way -/
abbrev gs_R (S : gs_T) (k : Nat) (e : Option Nat) : Nat → Nat → Bool := gs_rch S (gs_T2 S (some k) e) (gs_cn S (some k) e) (gs_c S k)
abbrev gs_W (S : gs_T) (k : Nat) (e : Option Nat) (goal : Nat) (j : Bool) : Option Nat := gs_way S (gs_T2 S (some k) e) (gs_cn S (some k) e) (gs_c S k) goal j
abbrev gs_V (S : gs_T) (k : Nat) (e : Option Nat) (goal en : Nat) : Nat → Nat := gs_rtm (gs_led (gs_R S k e) goal en) en (gs_c S k)
def gs_send (S : gs_T) (d x y : Int32) : Nat × Nat × gs_T := if gs_isd S d = false ∨ gm_has x y = 0 then (1, 0, S) else if gs_free S d.toNatClampNeg = false then (2, 0, S) else match gs_W S d.toNatClampNeg none (8 * y + x).toNatClampNeg false with
  | none => (3, 0, S)
  | some en => (0, en, gs_route S d.toNatClampNeg en (gs_V S d.toNatClampNeg none (8 * y + x).toNatClampNeg en))
def gs_join (S : gs_T) (d e : Int32) : Nat × Nat × gs_T := if gs_isd S d = false ∨ gs_isd S e = false ∨ d = e then (1, 0, S) else if gs_free S d.toNatClampNeg = false ∨ gs_free S e.toNatClampNeg = false ∨ gs_u S d.toNatClampNeg ≠ 1 ∨ gs_u S e.toNatClampNeg ≠ 1 then (2, 0, S) else match gs_W S d.toNatClampNeg (some e.toNatClampNeg) (gs_c S e.toNatClampNeg) true with
  | none => (3, 0, S)
  | some en => (0, en, gs_fd (gs_route S d.toNatClampNeg en (gs_V S d.toNatClampNeg (some e.toNatClampNeg) (gs_c S e.toNatClampNeg) en)) 4 d.toNatClampNeg (e.toNatClampNeg + 1))
set_option maxRecDepth 100000 in
theorem c2_Msend {l : Launch} {D : va_G} {tC : FieldType → ClassId} {ad : Nat → Nat} (hinj : ∀ i j, ad i = ad j → i = j) {S : gs_T} {G : Nat → Nat} (w : gd_W) (hR : gr_M w S G) (hc6 : gs_cnt (gs_u S) (gs_made S) ≤ 6) (hv : ∀ k, gs_alive S k → gv_way S k) (d x y : Int32) : gd_Cp l D tC ad 45 6 149 y_M_send c_M_send 5 (some .int) [.ref 27, .int d, .int x, .int y] w (gs_mp (gs_send S d x y).2.2 (gs_send S d x y).1 (.int (nI (gs_send S d x y).2.1)) w) := by
  refine gd_Cp_of rfl hinj (Nat.le_of_ble_eq_true rfl) ?_
  intro p e s m args below meth c E hr hlk
  have K := k_M_send
  have hA : ∀ q, gd_A ad 45 s.heap.size q → gd_A ad 45 s.heap.size q := fun _ h => h
  have hN := hR.1.2
  refine gd_r E K 3 (pc' := 3) (lv' := [(0, .ref 27), (1, .int d), (2, .int x), (3, .int y)]) (st' := [.int d, .ref 27, .ref 27]) (w' := w) rfl ?_
  refine gd_cV E hA (av := [.int d]) (rest := [.ref 27]) (c2_isD hinj _ hR d) (K.1 3 (.invokevirtual 125, 0) rfl).1 ml_M_125 cv_M_isDrop (by decide) (rfl) ⟨Nat.le_of_ble_eq_true rfl, Nat.le_of_ble_eq_true rfl⟩ ⟨Nat.zero_le _, Nat.zero_le _⟩ rfl (Nat.le_of_ble_eq_true rfl) ?_
  cases hb : gs_isd S d with
  | true =>
    refine gd_r E K 1 (pc' := if (gs_b (true)) = 0 then 17 else 9) (lv' := [(0, .ref 27), (1, .int d), (2, .int x), (3, .int y)]) (st' := [.ref 27]) (w' := w) rfl ?_
    refine gd_if (by decide) ?_
    refine gd_r E K 2 (pc' := 11) (lv' := [(0, .ref 27), (1, .int d), (2, .int x), (3, .int y)]) (st' := [.int y, .int x, .ref 27]) (w' := w) rfl ?_
    refine gd_cS E hA (av := [.int x, .int y]) (rest := [.ref 27]) (c2_isCell hinj x y _) (K.1 11 (.invokestatic 64, 0) rfl).1 ml_M_64 cv_M_isCell ⟨Nat.le_of_ble_eq_true rfl, Nat.le_of_ble_eq_true rfl⟩ ⟨Nat.zero_le _, Nat.zero_le _⟩ rfl (Nat.le_of_ble_eq_true rfl) ?_
    refine gd_r E K 1 (pc' := if (gm_has x y) = 0 then 17 else 21) (lv' := [(0, .ref 27), (1, .int d), (2, .int x), (3, .int y)]) (st' := [.ref 27]) (w' := w) rfl ?_
    refine gd_ite (fun h1 => ?_) (fun h1 => ?_)
    · refine gd_r E K 7 (pc' := 45) (lv' := [(0, .ref 27), (1, .int d), (2, .int x), (3, .int y)]) (st' := [.int 0]) (w' := gd_rI w 27 (upd (w.1 27) 0 1)) rfl ?_
      exact gd_iretp E hr hlk (K.1 45 (.ireturn, 0) rfl).1 (by rw [gs_send, if_pos (Or.inr h1)]; exact gs_mp_code hR 1 rfl rfl)
    · have hno : ¬ (gs_isd S d = false ∨ gm_has x y = 0) := fun z => z.elim (fun h => by rw [hb] at h; cases h) h1
      obtain ⟨k, hk, rfl, hu⟩ := gs_isd_t hN hb
      have hcl : (nI k).toNatClampNeg = k := nI_clamp (by omega)
      obtain ⟨a, b, ha, hb8, rfl, rfl⟩ := gm_has_1 h1
      have hgl : (8 * nI b + nI a).toNatClampNeg = 8 * b + a := by rw [gm_at_eq, nI_clamp (by omega)]
      refine gd_r E K 2 (pc' := 23) (lv' := [(0, .ref 27), (1, .int (nI k)), (2, .int (nI a)), (3, .int (nI b))]) (st' := [.int (nI k), .ref 27, .ref 27]) (w' := w) rfl ?_
      refine gd_cV E hA (av := [.int (nI k)]) (rest := [.ref 27]) (c2_isFree hinj _ hR k hk) (K.1 23 (.invokevirtual 129, 0) rfl).1 ml_M_129 cv_M_isFree (by decide) (rfl) ⟨Nat.le_of_ble_eq_true rfl, Nat.le_of_ble_eq_true rfl⟩ ⟨Nat.zero_le _, Nat.zero_le _⟩ rfl (Nat.le_of_ble_eq_true rfl) ?_
      cases hfr : gs_free S k with
      | true =>
        refine gd_r E K 1 (pc' := if (gs_b (true)) = 0 then 29 else 33) (lv' := [(0, .ref 27), (1, .int (nI k)), (2, .int (nI a)), (3, .int (nI b))]) (st' := [.ref 27]) (w' := w) rfl ?_
        refine gd_if (by decide) ?_
        refine gd_r E K 8 (pc' := 49) (lv' := [(0, .ref 27), (1, .int (nI k)), (2, .int (nI a)), (3, .int (nI b))]) (st' := [.int (-1), .int (nI k), .ref 27]) (w' := gd_rI w 27 (upd (w.1 27) 0 0)) rfl ?_
        have hR0 := hR.code 0
        refine gd_cg (lv' := [(0, .ref 27), (1, .int (nI k)), (2, .int (nI a)), (3, .int (nI b))]) (st' := [.int (gm_nO none), .int (gm_nO (some k)), .ref 27]) (w' := gd_rI w 27 (upd (w.1 27) 0 0)) ?_ (rfl) (rfl) (rfl)
        refine gd_cVp E hA (av := [.int (gm_nO (some k)), .int (gm_nO none)]) (rest := []) (c2_foresee hinj _ hR0 hc6 hv (some k) none (fun x h => by cases h; omega) (fun _ h => nomatch h)) (K.1 49 (.invokevirtual 115, 0) rfl).1 ml_M_115 cv_M_foresee (by decide) (rfl) ⟨Nat.le_of_ble_eq_true rfl, Nat.le_of_ble_eq_true rfl⟩ ⟨Nat.zero_le _, Nat.zero_le _⟩ rfl (Nat.le_of_ble_eq_true rfl) (fun r9 w2 h9 => ?_)
        obtain ⟨rfl, hfi⟩ := h9
        have hR2 := hfi.1.M hR0
        have hT2 := gs_fi_tab hfi hc6 hv
        have hf2 : gf_m w w2 := (gf_m.I w (by decide) _).trans hfi.1.m
        obtain ⟨c1, c2⟩ := hR2.2.2.1 k (by omega)
        refine gd_r E K 7 (pc' := 60) (lv' := [(0, .ref 27), (1, .int (nI k)), (2, .int (nI a)), (3, .int (nI b))]) (st' := [.int ((8 * (nI b)) + (nI a)), .int (nI k), .ref 27]) (w' := w2) rfl ?_
        refine gd_cg (lv' := [(0, .ref 27), (1, .int (nI k)), (2, .int (nI a)), (3, .int (nI b))]) (st' := [.int (nI (8 * b + a)), .int (nI k), .ref 27]) (w' := w2) ?_ (rfl) (by rw [gm_at_eq]) (rfl)
        refine gd_r E K 1 (pc' := 61) (lv' := [(0, .ref 27), (1, .int (nI k)), (2, .int (nI a)), (3, .int (nI b))]) (st' := [.int 0, .int (nI (8 * b + a)), .int (nI k), .ref 27]) (w' := w2) rfl ?_
        refine gd_cVp E hA (av := [.int (nI k), .int (nI (8 * b + a)), .int 0]) (rest := []) (c2_layS hinj w2 hR2.KK hT2 k (gs_c S k) (8 * b + a) (by omega) c1 c2 (by omega)) (K.1 61 (.invokevirtual 132, 0) rfl).1 ml_M_132 cv_M_lay (by decide) (rfl) ⟨Nat.le_of_ble_eq_true rfl, Nat.le_of_ble_eq_true rfl⟩ ⟨Nat.zero_le _, Nat.zero_le _⟩ rfl (Nat.le_of_ble_eq_true rfl) (fun r9 w3 h9 => ?_)
        obtain ⟨rfl, hno3, hyes3⟩ := h9
        refine gd_r E K 3 (pc' := 69) (lv' := [(0, .ref 27), (1, .int (nI k)), (2, .int (nI a)), (3, .int (nI b)), (4, .int (gm_nO (gs_W S k none (8 * b + a) false)))]) (st' := [.int (gm_nO (gs_W S k none (8 * b + a) false)), .ref 27]) (w' := w3) rfl ?_
        have hsd : gs_send S (nI k) (nI a) (nI b) = match gs_W S k none (8 * b + a) false with | none => (3, 0, S) | some en => (0, en, gs_route S k en (gs_V S k none (8 * b + a) en)) := by rw [gs_send, if_neg hno, hcl, if_neg (by rw [hfr]; decide), hgl]
        rw [hsd]
        clear hsd
        cases hres : gs_W S k none (8 * b + a) false with
        | none =>
          refine gd_r E K 1 (pc' := if 0 ≤ (gm_nO (none)) then 76 else 72) (lv' := [(0, .ref 27), (1, .int (nI k)), (2, .int (nI a)), (3, .int (nI b)), (4, .int (gm_nO (none)))]) (st' := [.ref 27]) (w' := w3) rfl ?_
          refine gd_if (by decide) ?_
          refine gd_r E K 8 (pc' := 93) (lv' := [(0, .ref 27), (1, .int (nI k)), (2, .int (nI a)), (3, .int (nI b)), (4, .int (gm_nO (none)))]) (st' := [.int 0]) (w' := gd_rI w3 27 (upd (w3.1 27) 0 3)) rfl ?_
          exact gd_iretp E hr hlk (K.1 93 (.ireturn, 0) rfl).1 (⟨rfl, rfl, ⟨G, ((hno3 hres).M hR2).code 3⟩, hf2.trans (((hno3 hres).m (by decide)).trans (gf_m.I _ (by decide) _))⟩)
        | some en =>
          have hen := gs_way_le hres
          refine gd_r E K 1 (pc' := if 0 ≤ (gm_nO (some en)) then 76 else 72) (lv' := [(0, .ref 27), (1, .int (nI k)), (2, .int (nI a)), (3, .int (nI b)), (4, .int (gm_nO (some en)))]) (st' := [.ref 27]) (w' := w3) rfl ?_
          refine gd_it (nI_pos' (by omega)) ?_
          refine gd_r E K 6 (pc' := 93) (lv' := [(0, .ref 27), (1, .int (nI k)), (2, .int (nI a)), (3, .int (nI b)), (4, .int (gm_nO (some en)))]) (st' := [.int (gm_nO (some en))]) (w' := gd_rI w3 27 (upd (w3.1 27) 0 0)) rfl ?_
          exact gd_iretp E hr hlk (K.1 93 (.ireturn, 0) rfl).1 (⟨rfl, rfl, ⟨_, (hR2.laid (hyes3 en hres) hen (fun i _ => gs_lm_lt _) (by omega)).code 0⟩, hf2.trans ((hyes3 en hres).m.trans (gf_m.I _ (by decide) _))⟩)
      | false =>
        refine gd_r E K 1 (pc' := if (gs_b (false)) = 0 then 29 else 33) (lv' := [(0, .ref 27), (1, .int (nI k)), (2, .int (nI a)), (3, .int (nI b))]) (st' := [.ref 27]) (w' := w) rfl ?_
        refine gd_it (by decide) ?_
        refine gd_r E K 7 (pc' := 45) (lv' := [(0, .ref 27), (1, .int (nI k)), (2, .int (nI a)), (3, .int (nI b))]) (st' := [.int 0]) (w' := gd_rI w 27 (upd (w.1 27) 0 2)) rfl ?_
        exact gd_iretp E hr hlk (K.1 45 (.ireturn, 0) rfl).1 (by rw [gs_send, if_neg hno, hcl, if_pos hfr]; exact gs_mp_code hR 2 rfl rfl)
  | false =>
    refine gd_r E K 1 (pc' := if (gs_b (false)) = 0 then 17 else 9) (lv' := [(0, .ref 27), (1, .int d), (2, .int x), (3, .int y)]) (st' := [.ref 27]) (w' := w) rfl ?_
    refine gd_it (by decide) ?_
    refine gd_r E K 7 (pc' := 45) (lv' := [(0, .ref 27), (1, .int d), (2, .int x), (3, .int y)]) (st' := [.int 0]) (w' := gd_rI w 27 (upd (w.1 27) 0 1)) rfl ?_
    exact gd_iretp E hr hlk (K.1 45 (.ireturn, 0) rfl).1 (by rw [gs_send, if_pos (Or.inl hb)]; exact gs_mp_code hR 1 rfl rfl)
set_option maxRecDepth 100000 in
theorem c2_Mjoin {l : Launch} {D : va_G} {tC : FieldType → ClassId} {ad : Nat → Nat} (hinj : ∀ i j, ad i = ad j → i = j) {S : gs_T} {G : Nat → Nat} (w : gd_W) (hR : gr_M w S G) (hc6 : gs_cnt (gs_u S) (gs_made S) ≤ 6) (hv : ∀ k, gs_alive S k → gv_way S k) (d e1 : Int32) : gd_Cp l D tC ad 45 6 149 y_M_join c_M_join 4 (some .int) [.ref 27, .int d, .int e1] w (gs_mp (gs_join S d e1).2.2 (gs_join S d e1).1 (.int (nI (gs_join S d e1).2.1)) w) := by
  refine gd_Cp_of rfl hinj (Nat.le_of_ble_eq_true rfl) ?_
  intro p e s m args below meth c E hr hlk
  have K := k_M_join
  have hA : ∀ q, gd_A ad 45 s.heap.size q → gd_A ad 45 s.heap.size q := fun _ h => h
  have hN := hR.1.2
  refine gd_r E K 3 (pc' := 3) (lv' := [(0, .ref 27), (1, .int d), (2, .int e1)]) (st' := [.int d, .ref 27, .ref 27]) (w' := w) rfl ?_
  refine gd_cV E hA (av := [.int d]) (rest := [.ref 27]) (c2_isD hinj _ hR d) (K.1 3 (.invokevirtual 125, 0) rfl).1 ml_M_125 cv_M_isDrop (by decide) (rfl) ⟨Nat.le_of_ble_eq_true rfl, Nat.le_of_ble_eq_true rfl⟩ ⟨Nat.zero_le _, Nat.zero_le _⟩ rfl (Nat.le_of_ble_eq_true rfl) ?_
  cases hb : gs_isd S d with
  | true =>
    refine gd_r E K 1 (pc' := if (gs_b (true)) = 0 then 22 else 9) (lv' := [(0, .ref 27), (1, .int d), (2, .int e1)]) (st' := [.ref 27]) (w' := w) rfl ?_
    refine gd_if (by decide) ?_
    refine gd_r E K 2 (pc' := 11) (lv' := [(0, .ref 27), (1, .int d), (2, .int e1)]) (st' := [.int e1, .ref 27, .ref 27]) (w' := w) rfl ?_
    refine gd_cV E hA (av := [.int e1]) (rest := [.ref 27]) (c2_isD hinj _ hR e1) (K.1 11 (.invokevirtual 125, 0) rfl).1 ml_M_125 cv_M_isDrop (by decide) (rfl) ⟨Nat.le_of_ble_eq_true rfl, Nat.le_of_ble_eq_true rfl⟩ ⟨Nat.zero_le _, Nat.zero_le _⟩ rfl (Nat.le_of_ble_eq_true rfl) ?_
    cases hb2 : gs_isd S e1 with
    | true =>
      refine gd_r E K 1 (pc' := if (gs_b (true)) = 0 then 22 else 17) (lv' := [(0, .ref 27), (1, .int d), (2, .int e1)]) (st' := [.ref 27]) (w' := w) rfl ?_
      refine gd_if (by decide) ?_
      refine gd_r E K 2 (pc' := 19) (lv' := [(0, .ref 27), (1, .int d), (2, .int e1)]) (st' := [.int e1, .int d, .ref 27]) (w' := w) rfl ?_
      refine gd_r E K 1 (pc' := if d = e1 then 22 else 26) (lv' := [(0, .ref 27), (1, .int d), (2, .int e1)]) (st' := [.ref 27]) (w' := w) rfl ?_
      refine gd_ite (fun h1 => ?_) (fun h1 => ?_)
      · refine gd_r E K 7 (pc' := 78) (lv' := [(0, .ref 27), (1, .int d), (2, .int e1)]) (st' := [.int 0]) (w' := gd_rI w 27 (upd (w.1 27) 0 1)) rfl ?_
        exact gd_iretp E hr hlk (K.1 78 (.ireturn, 0) rfl).1 (by rw [gs_join, if_pos (Or.inr (Or.inr h1))]; exact gs_mp_code hR 1 rfl rfl)
      · have hno : ¬ (gs_isd S d = false ∨ gs_isd S e1 = false ∨ d = e1) := fun z => z.elim (fun h => by rw [hb] at h; cases h) (fun z => z.elim (fun h => by rw [hb2] at h; cases h) h1)
        obtain ⟨k, hk, rfl, hu⟩ := gs_isd_t hN hb
        have hcl : (nI k).toNatClampNeg = k := nI_clamp (by omega)
        obtain ⟨j, hj, rfl, huj⟩ := gs_isd_t hN hb2
        have hcj : (nI j).toNatClampNeg = j := nI_clamp (by omega)
        obtain ⟨u1, u2⟩ := hR.2.1 k (by omega)
        obtain ⟨v1, v2⟩ := hR.2.1 j (by omega)
        refine gd_r E K 2 (pc' := 28) (lv' := [(0, .ref 27), (1, .int (nI k)), (2, .int (nI j))]) (st' := [.int (nI k), .ref 27, .ref 27]) (w' := w) rfl ?_
        refine gd_cV E hA (av := [.int (nI k)]) (rest := [.ref 27]) (c2_isFree hinj _ hR k hk) (K.1 28 (.invokevirtual 129, 0) rfl).1 ml_M_129 cv_M_isFree (by decide) (rfl) ⟨Nat.le_of_ble_eq_true rfl, Nat.le_of_ble_eq_true rfl⟩ ⟨Nat.zero_le _, Nat.zero_le _⟩ rfl (Nat.le_of_ble_eq_true rfl) ?_
        cases hfr : gs_free S k with
        | true =>
          refine gd_r E K 1 (pc' := if (gs_b (true)) = 0 then 62 else 34) (lv' := [(0, .ref 27), (1, .int (nI k)), (2, .int (nI j))]) (st' := [.ref 27]) (w' := w) rfl ?_
          refine gd_if (by decide) ?_
          refine gd_r E K 2 (pc' := 36) (lv' := [(0, .ref 27), (1, .int (nI k)), (2, .int (nI j))]) (st' := [.int (nI j), .ref 27, .ref 27]) (w' := w) rfl ?_
          refine gd_cV E hA (av := [.int (nI j)]) (rest := [.ref 27]) (c2_isFree hinj _ hR j hj) (K.1 36 (.invokevirtual 129, 0) rfl).1 ml_M_129 cv_M_isFree (by decide) (rfl) ⟨Nat.le_of_ble_eq_true rfl, Nat.le_of_ble_eq_true rfl⟩ ⟨Nat.zero_le _, Nat.zero_le _⟩ rfl (Nat.le_of_ble_eq_true rfl) ?_
          cases hfj : gs_free S j with
          | true =>
            refine gd_r E K 1 (pc' := if (gs_b (true)) = 0 then 62 else 42) (lv' := [(0, .ref 27), (1, .int (nI k)), (2, .int (nI j))]) (st' := [.ref 27]) (w' := w) rfl ?_
            refine gd_if (by decide) ?_
            refine gd_r E K 3 (pc' := 47) (lv' := [(0, .ref 27), (1, .int (nI k)), (2, .int (nI j))]) (st' := [.int (nI k), .ref 29, .ref 27]) (w' := w) rfl ?_
            refine gd_ialdv E (K.1 47 (.iaload, 0) rfl).1 (j := k) (by decide) (rfl) (rfl) (by omega) (by decide) (v := nI (gs_u S k)) (u1) ?_
            refine gd_r E K 1 (pc' := 49) (lv' := [(0, .ref 27), (1, .int (nI k)), (2, .int (nI j))]) (st' := [.int 1, .int (nI (gs_u S k)), .ref 27]) (w' := w) rfl ?_
            by_cases hu1 : gs_u S k = 1
            · refine gd_r E K 1 (pc' := if (nI (gs_u S k)) = 1 then 52 else 62) (lv' := [(0, .ref 27), (1, .int (nI k)), (2, .int (nI j))]) (st' := [.ref 27]) (w' := w) rfl ?_
              refine gd_it (by rw [hu1]; rfl) ?_
              refine gd_r E K 3 (pc' := 57) (lv' := [(0, .ref 27), (1, .int (nI k)), (2, .int (nI j))]) (st' := [.int (nI j), .ref 29, .ref 27]) (w' := w) rfl ?_
              refine gd_ialdv E (K.1 57 (.iaload, 0) rfl).1 (j := j) (by decide) (rfl) (rfl) (by omega) (by decide) (v := nI (gs_u S j)) (v1) ?_
              refine gd_r E K 1 (pc' := 59) (lv' := [(0, .ref 27), (1, .int (nI k)), (2, .int (nI j))]) (st' := [.int 1, .int (nI (gs_u S j)), .ref 27]) (w' := w) rfl ?_
              by_cases hu2 : gs_u S j = 1
              · refine gd_r E K 1 (pc' := if (nI (gs_u S j)) = 1 then 66 else 62) (lv' := [(0, .ref 27), (1, .int (nI k)), (2, .int (nI j))]) (st' := [.ref 27]) (w' := w) rfl ?_
                refine gd_it (by rw [hu2]; rfl) ?_
                refine gd_r E K 8 (pc' := 82) (lv' := [(0, .ref 27), (1, .int (nI k)), (2, .int (nI j))]) (st' := [.int (nI j), .int (nI k), .ref 27]) (w' := gd_rI w 27 (upd (w.1 27) 0 0)) rfl ?_
                have hno2 : ¬ (gs_free S k = false ∨ gs_free S j = false ∨ gs_u S k ≠ 1 ∨ gs_u S j ≠ 1) := fun z => z.elim (fun h => by rw [hfr] at h; cases h) (fun z => z.elim (fun h => by rw [hfj] at h; cases h) (fun z => z.elim (fun h => h hu1) (fun h => h hu2)))
                have hR0 := hR.code 0
                refine gd_cg (lv' := [(0, .ref 27), (1, .int (nI k)), (2, .int (nI j))]) (st' := [.int (gm_nO (some j)), .int (gm_nO (some k)), .ref 27]) (w' := gd_rI w 27 (upd (w.1 27) 0 0)) ?_ (rfl) (rfl) (rfl)
                refine gd_cVp E hA (av := [.int (gm_nO (some k)), .int (gm_nO (some j))]) (rest := []) (c2_foresee hinj _ hR0 hc6 hv (some k) (some j) (fun x h => by cases h; omega) (fun x h => by cases h; omega)) (K.1 82 (.invokevirtual 115, 0) rfl).1 ml_M_115 cv_M_foresee (by decide) (rfl) ⟨Nat.le_of_ble_eq_true rfl, Nat.le_of_ble_eq_true rfl⟩ ⟨Nat.zero_le _, Nat.zero_le _⟩ rfl (Nat.le_of_ble_eq_true rfl) (fun r9 w2 h9 => ?_)
                obtain ⟨rfl, hfi⟩ := h9
                have hR2 := hfi.1.M hR0
                have hT2 := gs_fi_tab hfi hc6 hv
                have hf2 : gf_m w w2 := (gf_m.I w (by decide) _).trans hfi.1.m
                obtain ⟨c1, c2⟩ := hR2.2.2.1 k (by omega)
                obtain ⟨d1, d2⟩ := hR2.2.2.1 j (by omega)
                have hc2 : w2.1 27 0 = 0 := by rw [hfi.1.2.1 0 (by decide)]; rfl
                refine gd_r E K 5 (pc' := 92) (lv' := [(0, .ref 27), (1, .int (nI k)), (2, .int (nI j))]) (st' := [.int (nI j), .ref 30, .int (nI k), .ref 27]) (w' := w2) rfl ?_
                refine gd_ialdv E (K.1 92 (.iaload, 0) rfl).1 (j := j) (by decide) (rfl) (rfl) (by omega) (by decide) (v := nI (gs_c S j)) (d1) ?_
                refine gd_r E K 1 (pc' := 94) (lv' := [(0, .ref 27), (1, .int (nI k)), (2, .int (nI j))]) (st' := [.int 1, .int (nI (gs_c S j)), .int (nI k), .ref 27]) (w' := w2) rfl ?_
                refine gd_cVp E hA (av := [.int (nI k), .int (nI (gs_c S j)), .int 1]) (rest := []) (c2_layJ hinj w2 hR2.KK hT2 k (gs_c S k) (gs_c S j) (by omega) c1 c2 d2) (K.1 94 (.invokevirtual 132, 0) rfl).1 ml_M_132 cv_M_lay (by decide) (rfl) ⟨Nat.le_of_ble_eq_true rfl, Nat.le_of_ble_eq_true rfl⟩ ⟨Nat.zero_le _, Nat.zero_le _⟩ rfl (Nat.le_of_ble_eq_true rfl) (fun r9 w3 h9 => ?_)
                obtain ⟨rfl, hno3, hyes3⟩ := h9
                refine gd_r E K 2 (pc' := 99) (lv' := [(0, .ref 27), (1, .int (nI k)), (2, .int (nI j)), (3, .int (gm_nO (gs_W S k (some j) (gs_c S j) true)))]) (st' := [.int (gm_nO (gs_W S k (some j) (gs_c S j) true))]) (w' := w3) rfl ?_
                have hsd : gs_join S (nI k) (nI j) = match gs_W S k (some j) (gs_c S j) true with | none => (3, 0, S) | some en => (0, en, gs_fd (gs_route S k en (gs_V S k (some j) (gs_c S j) en)) 4 k (j + 1)) := by rw [gs_join, if_neg hno, hcl, hcj, if_neg hno2]
                rw [hsd]
                clear hsd
                cases hres : gs_W S k (some j) (gs_c S j) true with
                | none =>
                  refine gd_r E K 1 (pc' := if 0 ≤ (gm_nO (none)) then 109 else 102) (lv' := [(0, .ref 27), (1, .int (nI k)), (2, .int (nI j)), (3, .int (gm_nO (none)))]) (st' := []) (w' := w3) rfl ?_
                  refine gd_if (by decide) ?_
                  refine gd_r E K 4 (pc' := 108) (lv' := [(0, .ref 27), (1, .int (nI k)), (2, .int (nI j)), (3, .int (gm_nO (none)))]) (st' := [.int 0]) (w' := gd_rI w3 27 (upd (w3.1 27) 0 3)) rfl ?_
                  exact gd_iretp E hr hlk (K.1 108 (.ireturn, 0) rfl).1 (⟨rfl, rfl, ⟨G, ((hno3 hres).M hR2).code 3⟩, hf2.trans (((hno3 hres).m (by decide)).trans (gf_m.I _ (by decide) _))⟩)
                | some en =>
                  have hen := gs_way_le hres
                  refine gd_r E K 1 (pc' := if 0 ≤ (gm_nO (some en)) then 109 else 102) (lv' := [(0, .ref 27), (1, .int (nI k)), (2, .int (nI j)), (3, .int (gm_nO (some en)))]) (st' := []) (w' := w3) rfl ?_
                  refine gd_it (nI_pos' (by omega)) ?_
                  refine gd_r E K 6 (pc' := 117) (lv' := [(0, .ref 27), (1, .int (nI k)), (2, .int (nI j)), (3, .int (gm_nO (some en)))]) (st' := [.int ((nI j) + 1), .int (nI k), .ref 36]) (w' := w3) rfl ?_
                  refine gd_cg (lv' := [(0, .ref 27), (1, .int (nI k)), (2, .int (nI j)), (3, .int (gm_nO (some en)))]) (st' := [.int (nI (j + 1)), .int (nI k), .ref 36]) (w' := w3) ?_ (rfl) (by rw [nI_1]) (rfl)
                  refine gd_iast E (K.1 117 (.iastore, 0) rfl).1 (j := k) (by decide) (rfl) (rfl) (by omega) (by decide) ?_
                  refine gd_r E K 1 (pc' := 119) (lv' := [(0, .ref 27), (1, .int (nI k)), (2, .int (nI j)), (3, .int (gm_nO (some en)))]) (st' := [.int (gm_nO (some en))]) (w' := gd_rI w3 36 (upd (w3.1 36) k (nI (j + 1)))) rfl ?_
                  exact gd_iretp E hr hlk (K.1 119 (.ireturn, 0) rfl).1 (⟨rfl, by rw [gd_rI_n (by decide), (hyes3 en hres).1 27 (by decide) (by decide) (by decide) (by decide) (by decide), hc2]; rfl, ⟨_, (hR2.laid (hyes3 en hres) hen (fun i _ => gs_lm_lt _) (by omega)).f4 k (j + 1) (by omega)⟩, hf2.trans ((hyes3 en hres).m.trans (gf_m.I _ (by decide) _))⟩)
              · refine gd_r E K 1 (pc' := if (nI (gs_u S j)) = 1 then 66 else 62) (lv' := [(0, .ref 27), (1, .int (nI k)), (2, .int (nI j))]) (st' := [.ref 27]) (w' := w) rfl ?_
                refine gd_if (by rw [show (1 : Int32) = nI 1 from rfl, nI_eq (by omega) (by decide)]; exact hu2) ?_
                refine gd_r E K 7 (pc' := 78) (lv' := [(0, .ref 27), (1, .int (nI k)), (2, .int (nI j))]) (st' := [.int 0]) (w' := gd_rI w 27 (upd (w.1 27) 0 2)) rfl ?_
                exact gd_iretp E hr hlk (K.1 78 (.ireturn, 0) rfl).1 (by rw [gs_join, if_neg hno, hcl, hcj, if_pos (Or.inr (Or.inr (Or.inr hu2)))]; exact gs_mp_code hR 2 rfl rfl)
            · refine gd_r E K 1 (pc' := if (nI (gs_u S k)) = 1 then 52 else 62) (lv' := [(0, .ref 27), (1, .int (nI k)), (2, .int (nI j))]) (st' := [.ref 27]) (w' := w) rfl ?_
              refine gd_if (by rw [show (1 : Int32) = nI 1 from rfl, nI_eq (by omega) (by decide)]; exact hu1) ?_
              refine gd_r E K 7 (pc' := 78) (lv' := [(0, .ref 27), (1, .int (nI k)), (2, .int (nI j))]) (st' := [.int 0]) (w' := gd_rI w 27 (upd (w.1 27) 0 2)) rfl ?_
              exact gd_iretp E hr hlk (K.1 78 (.ireturn, 0) rfl).1 (by rw [gs_join, if_neg hno, hcl, hcj, if_pos (Or.inr (Or.inr (Or.inl hu1)))]; exact gs_mp_code hR 2 rfl rfl)
          | false =>
            refine gd_r E K 1 (pc' := if (gs_b (false)) = 0 then 62 else 42) (lv' := [(0, .ref 27), (1, .int (nI k)), (2, .int (nI j))]) (st' := [.ref 27]) (w' := w) rfl ?_
            refine gd_it (by decide) ?_
            refine gd_r E K 7 (pc' := 78) (lv' := [(0, .ref 27), (1, .int (nI k)), (2, .int (nI j))]) (st' := [.int 0]) (w' := gd_rI w 27 (upd (w.1 27) 0 2)) rfl ?_
            exact gd_iretp E hr hlk (K.1 78 (.ireturn, 0) rfl).1 (by rw [gs_join, if_neg hno, hcl, hcj, if_pos (Or.inr (Or.inl hfj))]; exact gs_mp_code hR 2 rfl rfl)
        | false =>
          refine gd_r E K 1 (pc' := if (gs_b (false)) = 0 then 62 else 34) (lv' := [(0, .ref 27), (1, .int (nI k)), (2, .int (nI j))]) (st' := [.ref 27]) (w' := w) rfl ?_
          refine gd_it (by decide) ?_
          refine gd_r E K 7 (pc' := 78) (lv' := [(0, .ref 27), (1, .int (nI k)), (2, .int (nI j))]) (st' := [.int 0]) (w' := gd_rI w 27 (upd (w.1 27) 0 2)) rfl ?_
          exact gd_iretp E hr hlk (K.1 78 (.ireturn, 0) rfl).1 (by rw [gs_join, if_neg hno, hcl, hcj, if_pos (Or.inl hfr)]; exact gs_mp_code hR 2 rfl rfl)
    | false =>
      refine gd_r E K 1 (pc' := if (gs_b (false)) = 0 then 22 else 17) (lv' := [(0, .ref 27), (1, .int d), (2, .int e1)]) (st' := [.ref 27]) (w' := w) rfl ?_
      refine gd_it (by decide) ?_
      refine gd_r E K 7 (pc' := 78) (lv' := [(0, .ref 27), (1, .int d), (2, .int e1)]) (st' := [.int 0]) (w' := gd_rI w 27 (upd (w.1 27) 0 1)) rfl ?_
      exact gd_iretp E hr hlk (K.1 78 (.ireturn, 0) rfl).1 (by rw [gs_join, if_pos (Or.inr (Or.inl hb2))]; exact gs_mp_code hR 1 rfl rfl)
  | false =>
    refine gd_r E K 1 (pc' := if (gs_b (false)) = 0 then 22 else 9) (lv' := [(0, .ref 27), (1, .int d), (2, .int e1)]) (st' := [.ref 27]) (w' := w) rfl ?_
    refine gd_it (by decide) ?_
    refine gd_r E K 7 (pc' := 78) (lv' := [(0, .ref 27), (1, .int d), (2, .int e1)]) (st' := [.int 0]) (w' := gd_rI w 27 (upd (w.1 27) 0 1)) rfl ?_
    exact gd_iretp E hr hlk (K.1 78 (.ireturn, 0) rfl).1 (by rw [gs_join, if_pos (Or.inl hb)]; exact gs_mp_code hR 1 rfl rfl)
