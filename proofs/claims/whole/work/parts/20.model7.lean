/-- the class's cells and the law's are as they were -/
def gf_m (w w' : gd_W) : Prop := (∀ a, (a < 27 ∨ a = 44) → w'.1 a = w.1 a ∧ w'.2.1 a = w.2.1 a) ∧ w'.2.2 = w.2.2
theorem gf_m.refl (w : gd_W) : gf_m w w := ⟨fun _ _ => ⟨rfl, rfl⟩, rfl⟩
theorem gf_m.trans {a b c : gd_W} (h : gf_m a b) (k : gf_m b c) : gf_m a c := ⟨fun x hx => ⟨(k.1 x hx).1.trans (h.1 x hx).1, (k.1 x hx).2.trans (h.1 x hx).2⟩, k.2.trans h.2⟩
theorem gf_m.I (w : gd_W) {k : Nat} (hk : 27 ≤ k ∧ k ≠ 44) (f : Nat → Int32) : gf_m w (gd_rI w k f) := ⟨fun a ha => ⟨gd_rI_n (by omega), rfl⟩, rfl⟩
theorem gf_m.L (w : gd_W) {k : Nat} (hk : 27 ≤ k ∧ k ≠ 44) (f : Nat → Int64) : gf_m w (gd_rL w k f) := ⟨fun a ha => ⟨rfl, gd_rL_n (by omega)⟩, rfl⟩
theorem gf_fs.m {w w' : gd_W} (h : gf_fs w w') : gf_m w w' := ⟨fun a ha => ⟨h.1 a (by omega) (by omega), by rw [h.2.2]⟩, by rw [h.2.2]⟩
theorem gf_r.m {k : Nat} {w w' : gd_W} (h : gf_r k w w') (hk : 27 ≤ k ∧ k ≠ 44) : gf_m w w' := ⟨fun a ha => ⟨h.1 a (by omega), by rw [h.2]⟩, by rw [h.2]⟩
theorem gr_M.code {w : gd_W} {S : gs_T} {G : Nat → Nat} (k : gr_M w S G) (x : Int32) : gr_M (gd_rI w 27 (upd (w.1 27) 0 x)) S G := by
  unfold gr_M at k ⊢
  simp only [gd_rI_s, gd_rI_L, gd_rI_n (w := w) (k := 27) (f := upd (w.1 27) 0 x) (show (28 : Nat) ≠ 27 by decide), gd_rI_n (w := w) (k := 27) (f := upd (w.1 27) 0 x) (show (29 : Nat) ≠ 27 by decide), gd_rI_n (w := w) (k := 27) (f := upd (w.1 27) 0 x) (show (30 : Nat) ≠ 27 by decide), gd_rI_n (w := w) (k := 27) (f := upd (w.1 27) 0 x) (show (32 : Nat) ≠ 27 by decide), gd_rI_n (w := w) (k := 27) (f := upd (w.1 27) 0 x) (show (33 : Nat) ≠ 27 by decide), gd_rI_n (w := w) (k := 27) (f := upd (w.1 27) 0 x) (show (34 : Nat) ≠ 27 by decide), gd_rI_n (w := w) (k := 27) (f := upd (w.1 27) 0 x) (show (35 : Nat) ≠ 27 by decide), gd_rI_n (w := w) (k := 27) (f := upd (w.1 27) 0 x) (show (36 : Nat) ≠ 27 by decide), gd_rI_n (w := w) (k := 27) (f := upd (w.1 27) 0 x) (show (37 : Nat) ≠ 27 by decide), gd_rI_n (w := w) (k := 27) (f := upd (w.1 27) 0 x) (show (38 : Nat) ≠ 27 by decide), gd_rI_n (w := w) (k := 27) (f := upd (w.1 27) 0 x) (show (39 : Nat) ≠ 27 by decide), gd_rI_n (w := w) (k := 27) (f := upd (w.1 27) 0 x) (show (40 : Nat) ≠ 27 by decide),
    gd_u_n (f := w.1 27) (k := 0) (x := x) (show (3 : Nat) ≠ 0 by decide), gd_u_n (f := w.1 27) (k := 0) (x := x) (show (1 : Nat) ≠ 0 by decide), gd_u_n (f := w.1 27) (k := 0) (x := x) (show (12 : Nat) ≠ 0 by decide), gd_u_n (f := w.1 27) (k := 0) (x := x) (show (13 : Nat) ≠ 0 by decide), gd_u_n (f := w.1 27) (k := 0) (x := x) (show (14 : Nat) ≠ 0 by decide)]
  exact k
/-- what a call of the reference gives: the answer, the code, the state -/
def gs_mp (S' : gs_T) (code : Nat) (r0 : Value) (w : gd_W) (r : Option Value) (w' : gd_W) : Prop := r = some r0 ∧ w'.1 27 0 = nI code ∧ (∃ G', gr_M w' S' G') ∧ gf_m w w'
theorem gs_mp_code {w : gd_W} {S : gs_T} {G : Nat → Nat} (k : gr_M w S G) (n : Nat) {x : Int32} (hx : x = nI n) {r0 r1 : Value} (hr : r1 = r0) : gs_mp S n r0 w (some r1) (gd_rI w 27 (upd (w.1 27) 0 x)) := ⟨by rw [hr], by rw [gd_rI_s, gd_u_s, hx], ⟨G, k.code x⟩, gf_m.I w (by decide) _⟩
def gs_isd (S : gs_T) (d : Int32) : Bool := decide (0 ≤ d ∧ d < nI (gs_made S) ∧ 0 < gs_u S d.toNatClampNeg)
theorem gs_isd_t {S : gs_T} {d : Int32} (hN : gs_made S ≤ 60) (h : gs_isd S d = true) : ∃ k, k < gs_made S ∧ d = nI k ∧ 0 < gs_u S k := by
  obtain ⟨h1, h2, h3⟩ := of_decide_eq_true h
  obtain ⟨k, hk, rfl⟩ := nI_of (Int32.not_lt.mpr h1)
  rw [nI_clamp hk] at h3
  exact ⟨k, (nI_ltI hk (by omega)).mp h2, rfl, h3⟩
set_option maxRecDepth 100000 in
theorem c2_isD {l : Launch} {D : va_G} {tC : FieldType → ClassId} {ad : Nat → Nat} (hinj : ∀ i j, ad i = ad j → i = j) {S : gs_T} {G : Nat → Nat} (w : gd_W) (hR : gr_M w S G) (d : Int32) : gd_Ct l D tC ad 45 0 0 y_M_isDrop c_M_isDrop 2 (some .boolean) [.ref 27, .int d] w (some (.int (gs_b (gs_isd S d)))) w := c2_isDrop hinj w hR.U d
set_option maxRecDepth 100000 in
theorem c2_thrown {l : Launch} {D : va_G} {tC : FieldType → ClassId} {ad : Nat → Nat} (hinj : ∀ i j, ad i = ad j → i = j) (w : gd_W) : gd_Ct l D tC ad 45 0 0 y_M_thrown c_M_thrown 1 (some .int) [.ref 27] w (some (.int (w.1 27 0))) w := by
  refine gd_Ct_of rfl hinj (Nat.le_of_ble_eq_true rfl) ?_
  intro p e s m args below meth c E hr hlk
  have K := k_M_thrown
  have hA : ∀ q, gd_A ad 45 s.heap.size q → gd_A ad 45 s.heap.size q := fun _ h => h
  refine gd_r E K 2 (pc' := 4) (lv' := [(0, .ref 27)]) (st' := [.int (w.1 27 0)]) (w' := w) rfl ?_
  exact gd_iretq E hr hlk (K.1 4 (.ireturn, 0) rfl).1 (rfl) (rfl)
set_option maxRecDepth 100000 in
theorem c2_Mtime {l : Launch} {D : va_G} {tC : FieldType → ClassId} {ad : Nat → Nat} (hinj : ∀ i j, ad i = ad j → i = j) {S : gs_T} {G : Nat → Nat} (w : gd_W) (hR : gr_M w S G) : gd_Cp l D tC ad 45 0 0 y_M_time c_M_time 1 (some .int) [.ref 27] w (gs_mp S 0 (.int (gs_time S)) w) := by
  refine gd_Cp_of rfl hinj (Nat.le_of_ble_eq_true rfl) ?_
  intro p e s m args below meth c E hr hlk
  have K := k_M_time
  have hA : ∀ q, gd_A ad 45 s.heap.size q → gd_A ad 45 s.heap.size q := fun _ h => h
  refine gd_r E K 5 (pc' := 9) (lv' := [(0, .ref 27)]) (st' := [.int (w.1 27 1)]) (w' := gd_rI w 27 (upd (w.1 27) 0 0)) rfl ?_
  exact gd_iretp E hr hlk (K.1 9 (.ireturn, 0) rfl).1 (gs_mp_code hR 0 rfl (by rw [hR.2.2.2.2.2.2.2.2.2.1]))
set_option maxRecDepth 100000 in
theorem c2_Mdroplets {l : Launch} {D : va_G} {tC : FieldType → ClassId} {ad : Nat → Nat} (hinj : ∀ i j, ad i = ad j → i = j) {S : gs_T} {G : Nat → Nat} (w : gd_W) (hR : gr_M w S G) : gd_Cp l D tC ad 45 1 22 y_M_droplets c_M_droplets 1 (some .int) [.ref 27] w (gs_mp S 0 (.int (nI (gs_cnt (gs_u S) (gs_made S)))) w) := by
  refine gd_Cp_of rfl hinj (Nat.le_of_ble_eq_true rfl) ?_
  intro p e s m args below meth c E hr hlk
  have K := k_M_droplets
  have hA : ∀ q, gd_A ad 45 s.heap.size q → gd_A ad 45 s.heap.size q := fun _ h => h
  refine gd_r E K 4 (pc' := 6) (lv' := [(0, .ref 27)]) (st' := [.ref 27]) (w' := gd_rI w 27 (upd (w.1 27) 0 0)) rfl ?_
  refine gd_cV E hA (av := []) (rest := []) (c2_count hinj _ (hR.code 0).U) (K.1 6 (.invokevirtual 71, 0) rfl).1 ml_M_71 cv_M_count (by decide) (rfl) ⟨Nat.le_of_ble_eq_true rfl, Nat.le_of_ble_eq_true rfl⟩ ⟨Nat.zero_le _, Nat.zero_le _⟩ rfl (Nat.le_of_ble_eq_true rfl) ?_
  exact gd_iretp E hr hlk (K.1 9 (.ireturn, 0) rfl).1 (gs_mp_code hR 0 rfl rfl)
theorem gm_has_1 {x y : Int32} (h : gm_has x y ≠ 0) : ∃ a b, a < 8 ∧ b < 8 ∧ x = nI a ∧ y = nI b := by
  unfold gm_has at h
  split at h
  · exact absurd rfl h
  · rename_i h1
    split at h
    · exact absurd rfl h
    · rename_i h2
      split at h
      · exact absurd rfl h
      · rename_i h3
        split at h
        · exact absurd rfl h
        · rename_i h4
          obtain ⟨a, ha, rfl⟩ := nI_of h1
          obtain ⟨b, hb, rfl⟩ := nI_of h3
          refine ⟨a, b, ?_, ?_, rfl, rfl⟩
          · rw [show (8 : Int32) = nI 8 from rfl, nI_leI (by decide) ha] at h2; omega
          · rw [show (8 : Int32) = nI 8 from rfl, nI_leI (by decide) hb] at h4; omega
theorem gm_at_eq (a b : Nat) : 8 * nI b + nI a = nI (8 * b + a) := by rw [show (8 : Int32) = nI 8 from rfl, pk_mul, nI_add]
def gs_kindv (S : gs_T) (x y : Int32) : Int32 := if gm_has x y = 0 then -1 else nI (gs_k S (8 * y + x).toNatClampNeg)
set_option maxRecDepth 100000 in
theorem c2_Mkind {l : Launch} {D : va_G} {tC : FieldType → ClassId} {ad : Nat → Nat} (hinj : ∀ i j, ad i = ad j → i = j) {S : gs_T} {G : Nat → Nat} (w : gd_W) (hR : gr_M w S G) (x y : Int32) : gd_Cp l D tC ad 45 1 21 y_M_kind c_M_kind 3 (some .int) [.ref 27, .int x, .int y] w (gs_mp S 0 (.int (gs_kindv S x y)) w) := by
  refine gd_Cp_of rfl hinj (Nat.le_of_ble_eq_true rfl) ?_
  intro p e s m args below meth c E hr hlk
  have K := k_M_kind
  have hA : ∀ q, gd_A ad 45 s.heap.size q → gd_A ad 45 s.heap.size q := fun _ h => h
  refine gd_r E K 5 (pc' := 7) (lv' := [(0, .ref 27), (1, .int x), (2, .int y)]) (st' := [.int y, .int x]) (w' := gd_rI w 27 (upd (w.1 27) 0 0)) rfl ?_
  refine gd_cS E hA (av := [.int x, .int y]) (rest := []) (c2_isCell hinj x y _) (K.1 7 (.invokestatic 64, 0) rfl).1 ml_M_64 cv_M_isCell ⟨Nat.le_of_ble_eq_true rfl, Nat.le_of_ble_eq_true rfl⟩ ⟨Nat.zero_le _, Nat.zero_le _⟩ rfl (Nat.le_of_ble_eq_true rfl) ?_
  refine gd_r E K 1 (pc' := if (gm_has x y) = 0 then 27 else 13) (lv' := [(0, .ref 27), (1, .int x), (2, .int y)]) (st' := []) (w' := gd_rI w 27 (upd (w.1 27) 0 0)) rfl ?_
  refine gd_ite (fun h1 => ?_) (fun h1 => ?_)
  · refine gd_r E K 1 (pc' := 28) (lv' := [(0, .ref 27), (1, .int x), (2, .int y)]) (st' := [.int (-1)]) (w' := gd_rI w 27 (upd (w.1 27) 0 0)) rfl ?_
    exact gd_iretp E hr hlk (K.1 28 (.ireturn, 0) rfl).1 (gs_mp_code hR 0 rfl (by rw [gs_kindv, if_pos h1]))
  · obtain ⟨a, b, ha, hb, rfl, rfl⟩ := gm_has_1 h1
    refine gd_r E K 7 (pc' := 23) (lv' := [(0, .ref 27), (1, .int (nI a)), (2, .int (nI b))]) (st' := [.int ((8 * (nI b)) + (nI a)), .ref 28]) (w' := gd_rI w 27 (upd (w.1 27) 0 0)) rfl ?_
    refine gd_ialdv E (K.1 23 (.iaload, 0) rfl).1 (j := 8 * b + a) (by decide) (rfl) (gm_at_eq a b) (by omega) (by decide) (v := nI (gs_k S (8 * b + a))) (((hR.code 0).2.2.2.2.2.2.1 (8 * b + a) (by omega)).1) ?_
    refine gd_r E K 1 (pc' := 28) (lv' := [(0, .ref 27), (1, .int (nI a)), (2, .int (nI b))]) (st' := [.int (nI (gs_k S (8 * b + a)))]) (w' := gd_rI w 27 (upd (w.1 27) 0 0)) rfl ?_
    exact gd_iretp E hr hlk (K.1 28 (.ireturn, 0) rfl).1 (gs_mp_code hR 0 rfl (by rw [gs_kindv, if_neg h1, gm_at_eq, nI_clamp (by omega)]))
def gs_aheadv (S : gs_T) (d n : Int32) : Int32 := if gs_isd S d = true ∧ ¬ n < 0 then gm_nO (gs_pos S d.toNatClampNeg n.toNatClampNeg) else -1
set_option maxRecDepth 100000 in
theorem c2_Mahead {l : Launch} {D : va_G} {tC : FieldType → ClassId} {ad : Nat → Nat} (hinj : ∀ i j, ad i = ad j → i = j) {S : gs_T} {G : Nat → Nat} (w : gd_W) (hR : gr_M w S G) (hv : ∀ k, gs_alive S k → gv_way S k) (d n : Int32) : gd_Cp l D tC ad 45 3 68 y_M_ahead c_M_ahead 3 (some .int) [.ref 27, .int d, .int n] w (gs_mp S 0 (.int (gs_aheadv S d n)) w) := by
  refine gd_Cp_of rfl hinj (Nat.le_of_ble_eq_true rfl) ?_
  intro p e s m args below meth c E hr hlk
  have K := k_M_ahead
  have hA : ∀ q, gd_A ad 45 s.heap.size q → gd_A ad 45 s.heap.size q := fun _ h => h
  have hN := hR.1.2
  refine gd_r E K 5 (pc' := 7) (lv' := [(0, .ref 27), (1, .int d), (2, .int n)]) (st' := [.int d, .ref 27]) (w' := gd_rI w 27 (upd (w.1 27) 0 0)) rfl ?_
  refine gd_cV E hA (av := [.int d]) (rest := []) (c2_isD hinj _ (hR.code 0) d) (K.1 7 (.invokevirtual 125, 0) rfl).1 ml_M_125 cv_M_isDrop (by decide) (rfl) ⟨Nat.le_of_ble_eq_true rfl, Nat.le_of_ble_eq_true rfl⟩ ⟨Nat.zero_le _, Nat.zero_le _⟩ rfl (Nat.le_of_ble_eq_true rfl) ?_
  cases hb : gs_isd S d with
  | true =>
    refine gd_r E K 1 (pc' := if (gs_b (true)) = 0 then 26 else 13) (lv' := [(0, .ref 27), (1, .int d), (2, .int n)]) (st' := []) (w' := gd_rI w 27 (upd (w.1 27) 0 0)) rfl ?_
    refine gd_if (by decide) ?_
    refine gd_r E K 1 (pc' := 14) (lv' := [(0, .ref 27), (1, .int d), (2, .int n)]) (st' := [.int n]) (w' := gd_rI w 27 (upd (w.1 27) 0 0)) rfl ?_
    refine gd_r E K 1 (pc' := if n < 0 then 26 else 17) (lv' := [(0, .ref 27), (1, .int d), (2, .int n)]) (st' := []) (w' := gd_rI w 27 (upd (w.1 27) 0 0)) rfl ?_
    refine gd_ite (fun h1 => ?_) (fun h1 => ?_)
    · refine gd_r E K 1 (pc' := 27) (lv' := [(0, .ref 27), (1, .int d), (2, .int n)]) (st' := [.int (-1)]) (w' := gd_rI w 27 (upd (w.1 27) 0 0)) rfl ?_
      exact gd_iretp E hr hlk (K.1 27 (.ireturn, 0) rfl).1 (gs_mp_code hR 0 rfl (by rw [gs_aheadv, if_neg (fun z => z.2 h1)]))
    · obtain ⟨k, hk, rfl, hu⟩ := gs_isd_t hN hb
      obtain ⟨j, hj, rfl⟩ := nI_of h1
      refine gd_r E K 3 (pc' := 20) (lv' := [(0, .ref 27), (1, .int (nI k)), (2, .int (nI j))]) (st' := [.int (nI j), .int (nI k), .ref 27]) (w' := gd_rI w 27 (upd (w.1 27) 0 0)) rfl ?_
      refine gd_cV E hA (av := [.int (nI k), .int (nI j)]) (rest := []) (c2_placeAfter hinj _ (hR.code 0) k hk (hv k ⟨hk, hu⟩) j hj) (K.1 20 (.invokevirtual 89, 0) rfl).1 ml_M_89 cv_M_placeAfter (by decide) (rfl) ⟨Nat.le_of_ble_eq_true rfl, Nat.le_of_ble_eq_true rfl⟩ ⟨Nat.zero_le _, Nat.zero_le _⟩ rfl (Nat.le_of_ble_eq_true rfl) ?_
      refine gd_r E K 1 (pc' := 27) (lv' := [(0, .ref 27), (1, .int (nI k)), (2, .int (nI j))]) (st' := [.int (gm_nO (gs_pos S k j))]) (w' := gd_rI w 27 (upd (w.1 27) 0 0)) rfl ?_
      exact gd_iretp E hr hlk (K.1 27 (.ireturn, 0) rfl).1 (gs_mp_code hR 0 rfl (by rw [gs_aheadv, if_pos ⟨hb, h1⟩, nI_clamp (by omega), nI_clamp hj]))
  | false =>
    refine gd_r E K 1 (pc' := if (gs_b (false)) = 0 then 26 else 13) (lv' := [(0, .ref 27), (1, .int d), (2, .int n)]) (st' := []) (w' := gd_rI w 27 (upd (w.1 27) 0 0)) rfl ?_
    refine gd_it (by decide) ?_
    refine gd_r E K 1 (pc' := 27) (lv' := [(0, .ref 27), (1, .int d), (2, .int n)]) (st' := [.int (-1)]) (w' := gd_rI w 27 (upd (w.1 27) 0 0)) rfl ?_
    exact gd_iretp E hr hlk (K.1 27 (.ireturn, 0) rfl).1 (gs_mp_code hR 0 rfl (by rw [gs_aheadv, if_neg (fun z => by rw [hb] at z; cases z.1)]))
def gs_lookc (S : gs_T) (d what : Int32) : Nat := if gs_isd S d = true ∧ ¬ what < 0 ∧ ¬ 4 < what then 0 else 1
def gs_lookv (S : gs_T) (d what : Int32) : Int32 := if gs_isd S d = true ∧ ¬ what < 0 ∧ ¬ 4 < what then
  (if what = 0 then nI (gs_c S d.toNatClampNeg) else if what = 1 then nI (gs_u S d.toNatClampNeg) else if what = 2 then nI (gs_l S d.toNatClampNeg) else if what = 3 then nI (gs_i S d.toNatClampNeg) - 1 else gm_nO (gs_com (gs_u S) (gs_i S) d.toNatClampNeg (gs_made S))) else 0
def gs_sharev (S : gs_T) (d what : Int32) : Int64 := if gs_isd S d = true ∧ ¬ what < 0 ∧ ¬ 4 < what then (if what = 4 then (nI (gs_p S d.toNatClampNeg)).toInt64 else gs_sh S d.toNatClampNeg what.toNatClampNeg) else 0
def gs_readc (S : gs_T) (i what : Int32) : Nat := if ¬ i < 0 ∧ ¬ nI (gs_rd S).length ≤ i ∧ ¬ what < 0 ∧ ¬ 3 < what then 0 else 1
def gs_readv (S : gs_T) (i what : Int32) : Int32 := if ¬ i < 0 ∧ ¬ nI (gs_rd S).length ≤ i ∧ ¬ what < 0 ∧ ¬ 3 < what then
  (let r := (gs_rd S).getD i.toNatClampNeg (0, 0, 0, 0); if what = 0 then nI r.1 else if what = 1 then r.2.1 else if what = 2 then nI r.2.2.1 else nI r.2.2.2) else 0
set_option maxRecDepth 100000 in
theorem c2_Mlook {l : Launch} {D : va_G} {tC : FieldType → ClassId} {ad : Nat → Nat} (hinj : ∀ i j, ad i = ad j → i = j) {S : gs_T} {G : Nat → Nat} (w : gd_W) (hR : gr_M w S G) (d what : Int32) : gd_Cp l D tC ad 45 1 23 y_M_look c_M_look 3 (some .int) [.ref 27, .int d, .int what] w (gs_mp S (gs_lookc S d what) (.int (gs_lookv S d what)) w) := by
  refine gd_Cp_of rfl hinj (Nat.le_of_ble_eq_true rfl) ?_
  intro p e s m args below meth c E hr hlk
  have K := k_M_look
  have hA : ∀ q, gd_A ad 45 s.heap.size q → gd_A ad 45 s.heap.size q := fun _ h => h
  have hN := hR.1.2
  refine gd_r E K 3 (pc' := 3) (lv' := [(0, .ref 27), (1, .int d), (2, .int what)]) (st' := [.int d, .ref 27, .ref 27]) (w' := w) rfl ?_
  refine gd_cV E hA (av := [.int d]) (rest := [.ref 27]) (c2_isD hinj _ hR d) (K.1 3 (.invokevirtual 125, 0) rfl).1 ml_M_125 cv_M_isDrop (by decide) (rfl) ⟨Nat.le_of_ble_eq_true rfl, Nat.le_of_ble_eq_true rfl⟩ ⟨Nat.zero_le _, Nat.zero_le _⟩ rfl (Nat.le_of_ble_eq_true rfl) ?_
  cases hb : gs_isd S d with
  | true =>
    refine gd_r E K 1 (pc' := if (gs_b (true)) = 0 then 22 else 9) (lv' := [(0, .ref 27), (1, .int d), (2, .int what)]) (st' := [.ref 27]) (w' := w) rfl ?_
    refine gd_if (by decide) ?_
    refine gd_r E K 1 (pc' := 10) (lv' := [(0, .ref 27), (1, .int d), (2, .int what)]) (st' := [.int what, .ref 27]) (w' := w) rfl ?_
    refine gd_r E K 1 (pc' := if what < 0 then 22 else 13) (lv' := [(0, .ref 27), (1, .int d), (2, .int what)]) (st' := [.ref 27]) (w' := w) rfl ?_
    refine gd_ite (fun h1 => ?_) (fun h1 => ?_)
    · refine gd_r E K 6 (pc' := 34) (lv' := [(0, .ref 27), (1, .int d), (2, .int what)]) (st' := [.int 0]) (w' := gd_rI w 27 (upd (w.1 27) 0 1)) rfl ?_
      exact gd_iretp E hr hlk (K.1 34 (.ireturn, 0) rfl).1 (gs_mp_code hR _ (by rw [gs_lookc, if_neg (fun z => z.2.1 h1)]; rfl) (by rw [gs_lookv, if_neg (fun z => z.2.1 h1)]))
    · refine gd_r E K 2 (pc' := 15) (lv' := [(0, .ref 27), (1, .int d), (2, .int what)]) (st' := [.int 4, .int what, .ref 27]) (w' := w) rfl ?_
      refine gd_r E K 1 (pc' := if 4 < what then 22 else 18) (lv' := [(0, .ref 27), (1, .int d), (2, .int what)]) (st' := [.ref 27]) (w' := w) rfl ?_
      refine gd_ite (fun h2 => ?_) (fun h2 => ?_)
      · refine gd_r E K 6 (pc' := 34) (lv' := [(0, .ref 27), (1, .int d), (2, .int what)]) (st' := [.int 0]) (w' := gd_rI w 27 (upd (w.1 27) 0 1)) rfl ?_
        exact gd_iretp E hr hlk (K.1 34 (.ireturn, 0) rfl).1 (gs_mp_code hR _ (by rw [gs_lookc, if_neg (fun z => z.2.2 h2)]; rfl) (by rw [gs_lookv, if_neg (fun z => z.2.2 h2)]))
      · have hcond : gs_isd S d = true ∧ ¬ what < 0 ∧ ¬ 4 < what := ⟨hb, h1, h2⟩
        obtain ⟨k, hk, rfl, hu⟩ := gs_isd_t hN hb
        refine gd_r E K 7 (pc' := 36) (lv' := [(0, .ref 27), (1, .int (nI k)), (2, .int what)]) (st' := [.int what]) (w' := gd_rI w 27 (upd (w.1 27) 0 0)) rfl ?_
        refine gd_r E K 1 (pc' := if what = 0 then 39 else 48) (lv' := [(0, .ref 27), (1, .int (nI k)), (2, .int what)]) (st' := []) (w' := gd_rI w 27 (upd (w.1 27) 0 0)) rfl ?_
        refine gd_ite (fun h3 => ?_) (fun h3 => ?_)
        · refine gd_r E K 3 (pc' := 44) (lv' := [(0, .ref 27), (1, .int (nI k)), (2, .int what)]) (st' := [.int (nI k), .ref 30]) (w' := gd_rI w 27 (upd (w.1 27) 0 0)) rfl ?_
          refine gd_ialdv E (K.1 44 (.iaload, 0) rfl).1 (j := k) (by decide) (rfl) (rfl) (by omega) (by decide) (v := nI (gs_c S k)) (((hR.code 0).2.2.1 k (by omega)).1) ?_
          refine gd_r E K 1 (pc' := 96) (lv' := [(0, .ref 27), (1, .int (nI k)), (2, .int what)]) (st' := [.int (nI (gs_c S k))]) (w' := gd_rI w 27 (upd (w.1 27) 0 0)) rfl ?_
          exact gd_iretp E hr hlk (K.1 96 (.ireturn, 0) rfl).1 (gs_mp_code hR _ (by rw [gs_lookc, if_pos hcond]; rfl) (by rw [gs_lookv, if_pos hcond, nI_clamp (by omega), if_pos h3]))
        · refine gd_r E K 2 (pc' := 50) (lv' := [(0, .ref 27), (1, .int (nI k)), (2, .int what)]) (st' := [.int 1, .int what]) (w' := gd_rI w 27 (upd (w.1 27) 0 0)) rfl ?_
          refine gd_r E K 1 (pc' := if what = 1 then 53 else 62) (lv' := [(0, .ref 27), (1, .int (nI k)), (2, .int what)]) (st' := []) (w' := gd_rI w 27 (upd (w.1 27) 0 0)) rfl ?_
          refine gd_ite (fun h4 => ?_) (fun h4 => ?_)
          · refine gd_r E K 3 (pc' := 58) (lv' := [(0, .ref 27), (1, .int (nI k)), (2, .int what)]) (st' := [.int (nI k), .ref 29]) (w' := gd_rI w 27 (upd (w.1 27) 0 0)) rfl ?_
            refine gd_ialdv E (K.1 58 (.iaload, 0) rfl).1 (j := k) (by decide) (rfl) (rfl) (by omega) (by decide) (v := nI (gs_u S k)) (((hR.code 0).2.1 k (by omega)).1) ?_
            refine gd_r E K 1 (pc' := 96) (lv' := [(0, .ref 27), (1, .int (nI k)), (2, .int what)]) (st' := [.int (nI (gs_u S k))]) (w' := gd_rI w 27 (upd (w.1 27) 0 0)) rfl ?_
            exact gd_iretp E hr hlk (K.1 96 (.ireturn, 0) rfl).1 (gs_mp_code hR _ (by rw [gs_lookc, if_pos hcond]; rfl) (by rw [gs_lookv, if_pos hcond, nI_clamp (by omega), if_neg h3, if_pos h4]))
          · refine gd_r E K 2 (pc' := 64) (lv' := [(0, .ref 27), (1, .int (nI k)), (2, .int what)]) (st' := [.int 2, .int what]) (w' := gd_rI w 27 (upd (w.1 27) 0 0)) rfl ?_
            refine gd_r E K 1 (pc' := if what = 2 then 67 else 75) (lv' := [(0, .ref 27), (1, .int (nI k)), (2, .int what)]) (st' := []) (w' := gd_rI w 27 (upd (w.1 27) 0 0)) rfl ?_
            refine gd_ite (fun h5 => ?_) (fun h5 => ?_)
            · refine gd_r E K 2 (pc' := 69) (lv' := [(0, .ref 27), (1, .int (nI k)), (2, .int what)]) (st' := [.int (nI k), .ref 27]) (w' := gd_rI w 27 (upd (w.1 27) 0 0)) rfl ?_
              refine gd_cV E hA (av := [.int (nI k)]) (rest := []) (c2_left hinj _ (hR.code 0) k hk) (K.1 69 (.invokevirtual 75, 0) rfl).1 ml_M_75 cv_M_left (by decide) (rfl) ⟨Nat.le_of_ble_eq_true rfl, Nat.le_of_ble_eq_true rfl⟩ ⟨Nat.zero_le _, Nat.zero_le _⟩ rfl (Nat.le_of_ble_eq_true rfl) ?_
              refine gd_r E K 1 (pc' := 96) (lv' := [(0, .ref 27), (1, .int (nI k)), (2, .int what)]) (st' := [.int (nI (gs_l S k))]) (w' := gd_rI w 27 (upd (w.1 27) 0 0)) rfl ?_
              exact gd_iretp E hr hlk (K.1 96 (.ireturn, 0) rfl).1 (gs_mp_code hR _ (by rw [gs_lookc, if_pos hcond]; rfl) (by rw [gs_lookv, if_pos hcond, nI_clamp (by omega), if_neg h3, if_neg h4, if_pos h5]))
            · refine gd_r E K 2 (pc' := 77) (lv' := [(0, .ref 27), (1, .int (nI k)), (2, .int what)]) (st' := [.int 3, .int what]) (w' := gd_rI w 27 (upd (w.1 27) 0 0)) rfl ?_
              refine gd_r E K 1 (pc' := if what = 3 then 80 else 91) (lv' := [(0, .ref 27), (1, .int (nI k)), (2, .int what)]) (st' := []) (w' := gd_rI w 27 (upd (w.1 27) 0 0)) rfl ?_
              refine gd_ite (fun h6 => ?_) (fun h6 => ?_)
              · refine gd_r E K 3 (pc' := 85) (lv' := [(0, .ref 27), (1, .int (nI k)), (2, .int what)]) (st' := [.int (nI k), .ref 36]) (w' := gd_rI w 27 (upd (w.1 27) 0 0)) rfl ?_
                refine gd_ialdv E (K.1 85 (.iaload, 0) rfl).1 (j := k) (by decide) (rfl) (rfl) (by omega) (by decide) (v := nI (gs_i S k)) (((hR.code 0).2.2.2.2.2.1 k (by omega)).1) ?_
                refine gd_r E K 3 (pc' := 96) (lv' := [(0, .ref 27), (1, .int (nI k)), (2, .int what)]) (st' := [.int ((nI (gs_i S k)) - 1)]) (w' := gd_rI w 27 (upd (w.1 27) 0 0)) rfl ?_
                exact gd_iretp E hr hlk (K.1 96 (.ireturn, 0) rfl).1 (gs_mp_code hR _ (by rw [gs_lookc, if_pos hcond]; rfl) (by rw [gs_lookv, if_pos hcond, nI_clamp (by omega), if_neg h3, if_neg h4, if_neg h5, if_pos h6]))
              · refine gd_r E K 2 (pc' := 93) (lv' := [(0, .ref 27), (1, .int (nI k)), (2, .int what)]) (st' := [.int (nI k), .ref 27]) (w' := gd_rI w 27 (upd (w.1 27) 0 0)) rfl ?_
                refine gd_cV E hA (av := [.int (nI k)]) (rest := []) (c2_comer hinj _ (hR.code 0).U (hR.code 0).J k (by omega)) (K.1 93 (.invokevirtual 79, 0) rfl).1 ml_M_79 cv_M_comer (by decide) (rfl) ⟨Nat.le_of_ble_eq_true rfl, Nat.le_of_ble_eq_true rfl⟩ ⟨Nat.zero_le _, Nat.zero_le _⟩ rfl (Nat.le_of_ble_eq_true rfl) ?_
                exact gd_iretp E hr hlk (K.1 96 (.ireturn, 0) rfl).1 (gs_mp_code hR _ (by rw [gs_lookc, if_pos hcond]; rfl) (by rw [gs_lookv, if_pos hcond, nI_clamp (by omega), if_neg h3, if_neg h4, if_neg h5, if_neg h6]))
  | false =>
    refine gd_r E K 1 (pc' := if (gs_b (false)) = 0 then 22 else 9) (lv' := [(0, .ref 27), (1, .int d), (2, .int what)]) (st' := [.ref 27]) (w' := w) rfl ?_
    refine gd_it (by decide) ?_
    refine gd_r E K 6 (pc' := 34) (lv' := [(0, .ref 27), (1, .int d), (2, .int what)]) (st' := [.int 0]) (w' := gd_rI w 27 (upd (w.1 27) 0 1)) rfl ?_
    exact gd_iretp E hr hlk (K.1 34 (.ireturn, 0) rfl).1 (gs_mp_code hR _ (by rw [gs_lookc, if_neg (fun z => by rw [hb] at z; cases z.1)]; rfl) (by rw [gs_lookv, if_neg (fun z => by rw [hb] at z; cases z.1)]))
set_option maxRecDepth 100000 in
theorem c2_Mshare {l : Launch} {D : va_G} {tC : FieldType → ClassId} {ad : Nat → Nat} (hinj : ∀ i j, ad i = ad j → i = j) {S : gs_T} {G : Nat → Nat} (w : gd_W) (hR : gr_M w S G) (d what : Int32) : gd_Cp l D tC ad 45 1 21 y_M_share c_M_share 3 (some .long) [.ref 27, .int d, .int what] w (gs_mp S (gs_lookc S d what) (.long (gs_sharev S d what)) w) := by
  refine gd_Cp_of rfl hinj (Nat.le_of_ble_eq_true rfl) ?_
  intro p e s m args below meth c E hr hlk
  have K := k_M_share
  have hA : ∀ q, gd_A ad 45 s.heap.size q → gd_A ad 45 s.heap.size q := fun _ h => h
  have hN := hR.1.2
  refine gd_r E K 3 (pc' := 3) (lv' := [(0, .ref 27), (1, .int d), (2, .int what)]) (st' := [.int d, .ref 27, .ref 27]) (w' := w) rfl ?_
  refine gd_cV E hA (av := [.int d]) (rest := [.ref 27]) (c2_isD hinj _ hR d) (K.1 3 (.invokevirtual 125, 0) rfl).1 ml_M_125 cv_M_isDrop (by decide) (rfl) ⟨Nat.le_of_ble_eq_true rfl, Nat.le_of_ble_eq_true rfl⟩ ⟨Nat.zero_le _, Nat.zero_le _⟩ rfl (Nat.le_of_ble_eq_true rfl) ?_
  cases hb : gs_isd S d with
  | true =>
    refine gd_r E K 1 (pc' := if (gs_b (true)) = 0 then 22 else 9) (lv' := [(0, .ref 27), (1, .int d), (2, .int what)]) (st' := [.ref 27]) (w' := w) rfl ?_
    refine gd_if (by decide) ?_
    refine gd_r E K 1 (pc' := 10) (lv' := [(0, .ref 27), (1, .int d), (2, .int what)]) (st' := [.int what, .ref 27]) (w' := w) rfl ?_
    refine gd_r E K 1 (pc' := if what < 0 then 22 else 13) (lv' := [(0, .ref 27), (1, .int d), (2, .int what)]) (st' := [.ref 27]) (w' := w) rfl ?_
    refine gd_ite (fun h1 => ?_) (fun h1 => ?_)
    · refine gd_r E K 7 (pc' := 62) (lv' := [(0, .ref 27), (1, .int d), (2, .int what)]) (st' := [.long 0]) (w' := gd_rI w 27 (upd (w.1 27) 0 1)) rfl ?_
      exact gd_lretp E hr hlk (K.1 62 (.lreturn, 0) rfl).1 (gs_mp_code hR _ (by rw [gs_lookc, if_neg (fun z => z.2.1 h1)]; rfl) (by rw [gs_sharev, if_neg (fun z => z.2.1 h1)]))
    · refine gd_r E K 2 (pc' := 15) (lv' := [(0, .ref 27), (1, .int d), (2, .int what)]) (st' := [.int 4, .int what, .ref 27]) (w' := w) rfl ?_
      refine gd_r E K 1 (pc' := if 4 < what then 22 else 18) (lv' := [(0, .ref 27), (1, .int d), (2, .int what)]) (st' := [.ref 27]) (w' := w) rfl ?_
      refine gd_ite (fun h2 => ?_) (fun h2 => ?_)
      · refine gd_r E K 7 (pc' := 62) (lv' := [(0, .ref 27), (1, .int d), (2, .int what)]) (st' := [.long 0]) (w' := gd_rI w 27 (upd (w.1 27) 0 1)) rfl ?_
        exact gd_lretp E hr hlk (K.1 62 (.lreturn, 0) rfl).1 (gs_mp_code hR _ (by rw [gs_lookc, if_neg (fun z => z.2.2 h2)]; rfl) (by rw [gs_sharev, if_neg (fun z => z.2.2 h2)]))
      · have hcond : gs_isd S d = true ∧ ¬ what < 0 ∧ ¬ 4 < what := ⟨hb, h1, h2⟩
        obtain ⟨k, hk, rfl, hu⟩ := gs_isd_t hN hb
        refine gd_r E K 8 (pc' := 39) (lv' := [(0, .ref 27), (1, .int (nI k)), (2, .int what)]) (st' := [.int 4, .int what]) (w' := gd_rI w 27 (upd (w.1 27) 0 0)) rfl ?_
        refine gd_r E K 1 (pc' := if what = 4 then 42 else 52) (lv' := [(0, .ref 27), (1, .int (nI k)), (2, .int what)]) (st' := []) (w' := gd_rI w 27 (upd (w.1 27) 0 0)) rfl ?_
        refine gd_ite (fun h3 => ?_) (fun h3 => ?_)
        · refine gd_r E K 3 (pc' := 47) (lv' := [(0, .ref 27), (1, .int (nI k)), (2, .int what)]) (st' := [.int (nI k), .ref 32]) (w' := gd_rI w 27 (upd (w.1 27) 0 0)) rfl ?_
          refine gd_ialdv E (K.1 47 (.iaload, 0) rfl).1 (j := k) (by decide) (rfl) (rfl) (by omega) (by decide) (v := nI (gs_p S k)) (((hR.code 0).2.2.2.2.2.2.2.2.1 k (by omega)).1) ?_
          refine gd_r E K 2 (pc' := 62) (lv' := [(0, .ref 27), (1, .int (nI k)), (2, .int what)]) (st' := [.long ((nI (gs_p S k)).toInt64)]) (w' := gd_rI w 27 (upd (w.1 27) 0 0)) rfl ?_
          exact gd_lretp E hr hlk (K.1 62 (.lreturn, 0) rfl).1 (gs_mp_code hR _ (by rw [gs_lookc, if_pos hcond]; rfl) (by rw [gs_sharev, if_pos hcond, nI_clamp (by omega), if_pos h3]))
        · obtain ⟨j, hj, rfl⟩ := nI_of h1
          have hj4 : j < 4 := by
            have e4 : (4 : Int32) = nI 4 := rfl
            rw [e4, nI_ltI (by decide) hj] at h2
            rw [e4, nI_eq hj (by decide)] at h3
            omega
          refine gd_r E K 7 (pc' := 61) (lv' := [(0, .ref 27), (1, .int (nI k)), (2, .int (nI j))]) (st' := [.int ((4 * (nI k)) + (nI j)), .ref 31]) (w' := gd_rI w 27 (upd (w.1 27) 0 0)) rfl ?_
          refine gd_laldv E (K.1 61 (.laload, 0) rfl).1 (j := 4 * k + j) (by decide) (rfl) (by rw [show (4 : Int32) = nI 4 from rfl, pk_mul, nI_add]) (by omega) (by decide) (v := gs_sh S k j) ((hR.code 0).2.2.2.2.2.2.2.1 k (by omega) j hj4) ?_
          exact gd_lretp E hr hlk (K.1 62 (.lreturn, 0) rfl).1 (gs_mp_code hR _ (by rw [gs_lookc, if_pos hcond]; rfl) (by rw [gs_sharev, if_pos hcond, nI_clamp (by omega), if_neg h3, nI_clamp hj]))
  | false =>
    refine gd_r E K 1 (pc' := if (gs_b (false)) = 0 then 22 else 9) (lv' := [(0, .ref 27), (1, .int d), (2, .int what)]) (st' := [.ref 27]) (w' := w) rfl ?_
    refine gd_it (by decide) ?_
    refine gd_r E K 7 (pc' := 62) (lv' := [(0, .ref 27), (1, .int d), (2, .int what)]) (st' := [.long 0]) (w' := gd_rI w 27 (upd (w.1 27) 0 1)) rfl ?_
    exact gd_lretp E hr hlk (K.1 62 (.lreturn, 0) rfl).1 (gs_mp_code hR _ (by rw [gs_lookc, if_neg (fun z => by rw [hb] at z; cases z.1)]; rfl) (by rw [gs_sharev, if_neg (fun z => by rw [hb] at z; cases z.1)]))
set_option maxRecDepth 100000 in
theorem c2_Mreading {l : Launch} {D : va_G} {tC : FieldType → ClassId} {ad : Nat → Nat} (hinj : ∀ i j, ad i = ad j → i = j) {S : gs_T} {G : Nat → Nat} (w : gd_W) (hR : gr_M w S G) (i what : Int32) : gd_Cp l D tC ad 45 0 0 y_M_reading c_M_reading 3 (some .int) [.ref 27, .int i, .int what] w (gs_mp S (gs_readc S i what) (.int (gs_readv S i what)) w) := by
  refine gd_Cp_of rfl hinj (Nat.le_of_ble_eq_true rfl) ?_
  intro p e s m args below meth c E hr hlk
  have K := k_M_reading
  have hA : ∀ q, gd_A ad 45 s.heap.size q → gd_A ad 45 s.heap.size q := fun _ h => h
  obtain ⟨hrl, hr5⟩ := hR.2.2.2.2.2.2.2.2.2.2.2.2.1
  have hrr := hR.2.2.2.2.2.2.2.2.2.2.2.2.2
  refine gd_r E K 2 (pc' := 2) (lv' := [(0, .ref 27), (1, .int i), (2, .int what)]) (st' := [.int i, .ref 27]) (w' := w) rfl ?_
  refine gd_r E K 1 (pc' := if i < 0 then 26 else 5) (lv' := [(0, .ref 27), (1, .int i), (2, .int what)]) (st' := [.ref 27]) (w' := w) rfl ?_
  refine gd_ite (fun h1 => ?_) (fun h1 => ?_)
  · refine gd_r E K 6 (pc' := 38) (lv' := [(0, .ref 27), (1, .int i), (2, .int what)]) (st' := [.int 0]) (w' := gd_rI w 27 (upd (w.1 27) 0 1)) rfl ?_
    exact gd_iretp E hr hlk (K.1 38 (.ireturn, 0) rfl).1 (gs_mp_code hR _ (by rw [gs_readc, if_neg (fun z => z.1 h1)]; rfl) (by rw [gs_readv, if_neg (fun z => z.1 h1)]))
  · refine gd_r E K 3 (pc' := 10) (lv' := [(0, .ref 27), (1, .int i), (2, .int what)]) (st' := [.int (w.1 27 14), .int i, .ref 27]) (w' := w) rfl ?_
    refine gd_cg (lv' := [(0, .ref 27), (1, .int i), (2, .int what)]) (st' := [.int (nI (gs_rd S).length), .int i, .ref 27]) (w' := w) ?_ (rfl) (by simp only [hrl]) rfl
    refine gd_r E K 1 (pc' := if (nI (gs_rd S).length) ≤ i then 26 else 13) (lv' := [(0, .ref 27), (1, .int i), (2, .int what)]) (st' := [.ref 27]) (w' := w) rfl ?_
    refine gd_ite (fun h2 => ?_) (fun h2 => ?_)
    · refine gd_r E K 6 (pc' := 38) (lv' := [(0, .ref 27), (1, .int i), (2, .int what)]) (st' := [.int 0]) (w' := gd_rI w 27 (upd (w.1 27) 0 1)) rfl ?_
      exact gd_iretp E hr hlk (K.1 38 (.ireturn, 0) rfl).1 (gs_mp_code hR _ (by rw [gs_readc, if_neg (fun z => z.2.1 h2)]; rfl) (by rw [gs_readv, if_neg (fun z => z.2.1 h2)]))
    · refine gd_r E K 1 (pc' := 14) (lv' := [(0, .ref 27), (1, .int i), (2, .int what)]) (st' := [.int what, .ref 27]) (w' := w) rfl ?_
      refine gd_r E K 1 (pc' := if what < 0 then 26 else 17) (lv' := [(0, .ref 27), (1, .int i), (2, .int what)]) (st' := [.ref 27]) (w' := w) rfl ?_
      refine gd_ite (fun h3 => ?_) (fun h3 => ?_)
      · refine gd_r E K 6 (pc' := 38) (lv' := [(0, .ref 27), (1, .int i), (2, .int what)]) (st' := [.int 0]) (w' := gd_rI w 27 (upd (w.1 27) 0 1)) rfl ?_
        exact gd_iretp E hr hlk (K.1 38 (.ireturn, 0) rfl).1 (gs_mp_code hR _ (by rw [gs_readc, if_neg (fun z => z.2.2.1 h3)]; rfl) (by rw [gs_readv, if_neg (fun z => z.2.2.1 h3)]))
      · refine gd_r E K 2 (pc' := 19) (lv' := [(0, .ref 27), (1, .int i), (2, .int what)]) (st' := [.int 3, .int what, .ref 27]) (w' := w) rfl ?_
        refine gd_r E K 1 (pc' := if 3 < what then 26 else 22) (lv' := [(0, .ref 27), (1, .int i), (2, .int what)]) (st' := [.ref 27]) (w' := w) rfl ?_
        refine gd_ite (fun h4 => ?_) (fun h4 => ?_)
        · refine gd_r E K 6 (pc' := 38) (lv' := [(0, .ref 27), (1, .int i), (2, .int what)]) (st' := [.int 0]) (w' := gd_rI w 27 (upd (w.1 27) 0 1)) rfl ?_
          exact gd_iretp E hr hlk (K.1 38 (.ireturn, 0) rfl).1 (gs_mp_code hR _ (by rw [gs_readc, if_neg (fun z => z.2.2.2 h4)]; rfl) (by rw [gs_readv, if_neg (fun z => z.2.2.2 h4)]))
        · have hcond : ¬ i < 0 ∧ ¬ nI (gs_rd S).length ≤ i ∧ ¬ what < 0 ∧ ¬ 3 < what := ⟨h1, h2, h3, h4⟩
          obtain ⟨j, hj, rfl⟩ := nI_of h1
          have hjl : j < (gs_rd S).length := by rw [nI_leI (by omega) hj] at h2; omega
          have hx := List.getElem?_eq_getElem hjl
          obtain ⟨r1, r2, r3, r4⟩ := hrr j _ hx
          have hget : (gs_rd S).getD j (0, 0, 0, 0) = (gs_rd S)[j] := by rw [List.getD_eq_getElem?_getD, hx]; rfl
          refine gd_r E K 7 (pc' := 40) (lv' := [(0, .ref 27), (1, .int (nI j)), (2, .int what)]) (st' := [.int what]) (w' := gd_rI w 27 (upd (w.1 27) 0 0)) rfl ?_
          refine gd_r E K 1 (pc' := if what = 0 then 43 else 52) (lv' := [(0, .ref 27), (1, .int (nI j)), (2, .int what)]) (st' := []) (w' := gd_rI w 27 (upd (w.1 27) 0 0)) rfl ?_
          refine gd_ite (fun h5 => ?_) (fun h5 => ?_)
          · refine gd_r E K 3 (pc' := 48) (lv' := [(0, .ref 27), (1, .int (nI j)), (2, .int what)]) (st' := [.int (nI j), .ref 37]) (w' := gd_rI w 27 (upd (w.1 27) 0 0)) rfl ?_
            refine gd_ialdv E (K.1 48 (.iaload, 0) rfl).1 (j := j) (by decide) (rfl) (rfl) (by omega) (by decide) (v := nI ((gs_rd S)[j]).1) (r1) ?_
            refine gd_r E K 1 (pc' := 86) (lv' := [(0, .ref 27), (1, .int (nI j)), (2, .int what)]) (st' := [.int (nI ((gs_rd S)[j]).1)]) (w' := gd_rI w 27 (upd (w.1 27) 0 0)) rfl ?_
            exact gd_iretp E hr hlk (K.1 86 (.ireturn, 0) rfl).1 (gs_mp_code hR _ (by rw [gs_readc, if_pos hcond]; rfl) (by rw [gs_readv, if_pos hcond, nI_clamp hj, hget]; dsimp only; rw [if_pos h5]))
          · refine gd_r E K 2 (pc' := 54) (lv' := [(0, .ref 27), (1, .int (nI j)), (2, .int what)]) (st' := [.int 1, .int what]) (w' := gd_rI w 27 (upd (w.1 27) 0 0)) rfl ?_
            refine gd_r E K 1 (pc' := if what = 1 then 57 else 66) (lv' := [(0, .ref 27), (1, .int (nI j)), (2, .int what)]) (st' := []) (w' := gd_rI w 27 (upd (w.1 27) 0 0)) rfl ?_
            refine gd_ite (fun h6 => ?_) (fun h6 => ?_)
            · refine gd_r E K 3 (pc' := 62) (lv' := [(0, .ref 27), (1, .int (nI j)), (2, .int what)]) (st' := [.int (nI j), .ref 38]) (w' := gd_rI w 27 (upd (w.1 27) 0 0)) rfl ?_
              refine gd_ialdv E (K.1 62 (.iaload, 0) rfl).1 (j := j) (by decide) (rfl) (rfl) (by omega) (by decide) (v := ((gs_rd S)[j]).2.1) (r2) ?_
              refine gd_r E K 1 (pc' := 86) (lv' := [(0, .ref 27), (1, .int (nI j)), (2, .int what)]) (st' := [.int (((gs_rd S)[j]).2.1)]) (w' := gd_rI w 27 (upd (w.1 27) 0 0)) rfl ?_
              exact gd_iretp E hr hlk (K.1 86 (.ireturn, 0) rfl).1 (gs_mp_code hR _ (by rw [gs_readc, if_pos hcond]; rfl) (by rw [gs_readv, if_pos hcond, nI_clamp hj, hget]; dsimp only; rw [if_neg h5, if_pos h6]))
            · refine gd_r E K 2 (pc' := 68) (lv' := [(0, .ref 27), (1, .int (nI j)), (2, .int what)]) (st' := [.int 2, .int what]) (w' := gd_rI w 27 (upd (w.1 27) 0 0)) rfl ?_
              refine gd_r E K 1 (pc' := if what = 2 then 71 else 80) (lv' := [(0, .ref 27), (1, .int (nI j)), (2, .int what)]) (st' := []) (w' := gd_rI w 27 (upd (w.1 27) 0 0)) rfl ?_
              refine gd_ite (fun h7 => ?_) (fun h7 => ?_)
              · refine gd_r E K 3 (pc' := 76) (lv' := [(0, .ref 27), (1, .int (nI j)), (2, .int what)]) (st' := [.int (nI j), .ref 39]) (w' := gd_rI w 27 (upd (w.1 27) 0 0)) rfl ?_
                refine gd_ialdv E (K.1 76 (.iaload, 0) rfl).1 (j := j) (by decide) (rfl) (rfl) (by omega) (by decide) (v := nI ((gs_rd S)[j]).2.2.1) (r3) ?_
                refine gd_r E K 1 (pc' := 86) (lv' := [(0, .ref 27), (1, .int (nI j)), (2, .int what)]) (st' := [.int (nI ((gs_rd S)[j]).2.2.1)]) (w' := gd_rI w 27 (upd (w.1 27) 0 0)) rfl ?_
                exact gd_iretp E hr hlk (K.1 86 (.ireturn, 0) rfl).1 (gs_mp_code hR _ (by rw [gs_readc, if_pos hcond]; rfl) (by rw [gs_readv, if_pos hcond, nI_clamp hj, hget]; dsimp only; rw [if_neg h5, if_neg h6, if_pos h7]))
              · refine gd_r E K 3 (pc' := 85) (lv' := [(0, .ref 27), (1, .int (nI j)), (2, .int what)]) (st' := [.int (nI j), .ref 40]) (w' := gd_rI w 27 (upd (w.1 27) 0 0)) rfl ?_
                refine gd_ialdv E (K.1 85 (.iaload, 0) rfl).1 (j := j) (by decide) (rfl) (rfl) (by omega) (by decide) (v := nI ((gs_rd S)[j]).2.2.2) (r4) ?_
                exact gd_iretp E hr hlk (K.1 86 (.ireturn, 0) rfl).1 (gs_mp_code hR _ (by rw [gs_readc, if_pos hcond]; rfl) (by rw [gs_readv, if_pos hcond, nI_clamp hj, hget]; dsimp only; rw [if_neg h5, if_neg h6, if_neg h7]))
