/-- the table of the others' places: T k n, the k-th of them after n steps -/
def gs_tab (w : gd_W) (cnt : Nat) (T : Nat → Nat → Option Nat) : Prop := (w.1 27 19 = nI cnt ∧ cnt ≤ 6) ∧ ∀ n, n < 64 → ∀ k, k < cnt → w.1 41 (64 * k + n) = gm_nO (T k n) ∧ ∀ b, T k n = some b → b < 64
def gs_mt (T : Nat → Nat → Option Nat) (cnt c n : Nat) : Bool := gs_any (fun k => gs_nearO c (T k n)) cnt
/-- from a on, for ever -/
def gs_mtR (T : Nat → Nat → Option Nat) (cnt c a : Nat) : Bool := gs_any (fun i => gs_mt T cnt c (a + i)) (64 - a)
def gs_atO (r : Nat → Bool) (x : Option Nat) : Bool := match x with
  | some b => r b
  | none => false
theorem gs_any_s (f : Nat → Bool) (n : Nat) : gs_any f (n + 1) = (gs_any f n || f n) := rfl
theorem gs_b_t : gs_b true = 1 := rfl
theorem gs_b_f : gs_b false = 0 := rfl
set_option maxRecDepth 100000 in
theorem c2_isMetN {l : Launch} {D : va_G} {tC : FieldType → ClassId} {ad : Nat → Nat} (hinj : ∀ i j, ad i = ad j → i = j) {cnt : Nat} {T : Nat → Nat → Option Nat} (w : gd_W) (hT : gs_tab w cnt T) (c0 : Nat) : gd_Ct l D tC ad 45 1 23 y_M_isMet c_M_isMet 6 (some .boolean) [.ref 27, .int (nI c0), .int (-1)] w (some (.int 0)) w := by
  refine gd_Ct_of rfl hinj (Nat.le_of_ble_eq_true rfl) ?_
  intro p e s m args below meth c E hr hlk
  have K := k_M_isMet
  have hA : ∀ q, gd_A ad 45 s.heap.size q → gd_A ad 45 s.heap.size q := fun _ h => h
  obtain ⟨⟨h19, hc6⟩, -⟩ := hT
  refine gd_r E K 7 (pc' := 11) (lv' := [(0, .ref 27), (1, .int (nI c0)), (2, .int (-1)), (3, .int 0), (4, .int 0)]) (st' := [.int (w.1 27 19), .int 0]) (w' := w) rfl ?_
  refine gd_cg (lv' := [(0, .ref 27), (1, .int (nI c0)), (2, .int (-1)), (3, .int 0), (4, .int 0)]) (st' := [.int (nI cnt), .int 0]) (w' := w) ?_ (rfl) (by simp only [h19]) rfl
  refine gd_r E K 1 (pc' := if (nI cnt) ≤ 0 then 62 else 14) (lv' := [(0, .ref 27), (1, .int (nI c0)), (2, .int (-1)), (3, .int 0), (4, .int 0)]) (st' := []) (w' := w) rfl ?_
  refine gd_ite (fun h1 => ?_) (fun h1 => ?_)
  · refine gd_r E K 1 (pc' := 63) (lv' := [(0, .ref 27), (1, .int (nI c0)), (2, .int (-1)), (3, .int 0), (4, .int 0)]) (st' := [.int 0]) (w' := w) rfl ?_
    exact gd_zretq E hr hlk (K.1 63 (.ireturn, 0) rfl).1 (by decide) (rfl) (rfl)
  · refine gd_r E K 3 (pc' := 63) (lv' := [(0, .ref 27), (1, .int (nI c0)), (2, .int (-1)), (3, .int 0), (4, .int 0)]) (st' := [.int 0]) (w' := w) rfl ?_
    exact gd_zretq E hr hlk (K.1 63 (.ireturn, 0) rfl).1 (by decide) (rfl) (rfl)
set_option maxRecDepth 100000 in
theorem c2_isMet {l : Launch} {D : va_G} {tC : FieldType → ClassId} {ad : Nat → Nat} (hinj : ∀ i j, ad i = ad j → i = j) {cnt : Nat} {T : Nat → Nat → Option Nat} (w : gd_W) (hT : gs_tab w cnt T) (c0 n : Nat) (hc : c0 < 64) (hn : n < 64) : gd_Ct l D tC ad 45 1 23 y_M_isMet c_M_isMet 6 (some .boolean) [.ref 27, .int (nI c0), .int (nI n)] w (some (.int (gs_b (gs_mt T cnt c0 n)))) w := by
  refine gd_Ct_of rfl hinj (Nat.le_of_ble_eq_true rfl) ?_
  intro p e s m args below meth c E hr hlk
  have K := k_M_isMet
  have hA : ∀ q, gd_A ad 45 s.heap.size q → gd_A ad 45 s.heap.size q := fun _ h => h
  obtain ⟨⟨h19, hc6⟩, hT⟩ := hT
  have loop : ∀ j k, k + j = cnt → gd_G p l e (gd_rm 1 23) s m args below meth c D tC ad (gd_A ad 45 s.heap.size) 45 6 0 0 (MQ below (gd_Q D tC ad 45 s.heap.size (some (.int (gs_b (gs_mt T cnt c0 n)))) w) args s 0 0 (gd_A ad 45 s.heap.size)) 5 [(0, .ref 27), (1, .int (nI c0)), (2, .int (nI n)), (3, .int (gs_b (gs_any (fun k => gs_nearO c0 (T k n)) k))), (4, .int (nI k))] [] w := by
    intro j
    induction j with
    | zero =>
      intro k hk
      refine gd_r E K 3 (pc' := 11) (lv' := [(0, .ref 27), (1, .int (nI c0)), (2, .int (nI n)), (3, .int (gs_b (gs_any (fun k => gs_nearO c0 (T k n)) k))), (4, .int (nI k))]) (st' := [.int (w.1 27 19), .int (nI k)]) (w' := w) rfl ?_
      refine gd_cg (lv' := [(0, .ref 27), (1, .int (nI c0)), (2, .int (nI n)), (3, .int (gs_b (gs_any (fun k => gs_nearO c0 (T k n)) k))), (4, .int (nI k))]) (st' := [.int (nI cnt), .int (nI k)]) (w' := w) ?_ (rfl) (by simp only [h19]) rfl
      refine gd_r E K 1 (pc' := if (nI cnt) ≤ (nI k) then 62 else 14) (lv' := [(0, .ref 27), (1, .int (nI c0)), (2, .int (nI n)), (3, .int (gs_b (gs_any (fun k => gs_nearO c0 (T k n)) k))), (4, .int (nI k))]) (st' := []) (w' := w) rfl ?_
      refine gd_it (nI_le (by omega) (by omega)) ?_
      refine gd_r E K 1 (pc' := 63) (lv' := [(0, .ref 27), (1, .int (nI c0)), (2, .int (nI n)), (3, .int (gs_b (gs_any (fun k => gs_nearO c0 (T k n)) k))), (4, .int (nI k))]) (st' := [.int (gs_b (gs_any (fun k => gs_nearO c0 (T k n)) k))]) (w' := w) rfl ?_
      exact gd_zretq E hr hlk (K.1 63 (.ireturn, 0) rfl).1 (gs_b_01 _) (by rw [show k = cnt by omega]; rfl) (rfl)
    | succ j ih =>
      intro k hk
      refine gd_r E K 3 (pc' := 11) (lv' := [(0, .ref 27), (1, .int (nI c0)), (2, .int (nI n)), (3, .int (gs_b (gs_any (fun k => gs_nearO c0 (T k n)) k))), (4, .int (nI k))]) (st' := [.int (w.1 27 19), .int (nI k)]) (w' := w) rfl ?_
      refine gd_cg (lv' := [(0, .ref 27), (1, .int (nI c0)), (2, .int (nI n)), (3, .int (gs_b (gs_any (fun k => gs_nearO c0 (T k n)) k))), (4, .int (nI k))]) (st' := [.int (nI cnt), .int (nI k)]) (w' := w) ?_ (rfl) (by simp only [h19]) rfl
      refine gd_r E K 1 (pc' := if (nI cnt) ≤ (nI k) then 62 else 14) (lv' := [(0, .ref 27), (1, .int (nI c0)), (2, .int (nI n)), (3, .int (gs_b (gs_any (fun k => gs_nearO c0 (T k n)) k))), (4, .int (nI k))]) (st' := []) (w' := w) rfl ?_
      refine gd_if (nI_ge (by omega) (by omega)) ?_
      refine gd_r E K 1 (pc' := 15) (lv' := [(0, .ref 27), (1, .int (nI c0)), (2, .int (nI n)), (3, .int (gs_b (gs_any (fun k => gs_nearO c0 (T k n)) k))), (4, .int (nI k))]) (st' := [.int (nI n)]) (w' := w) rfl ?_
      refine gd_r E K 1 (pc' := if (nI n) < 0 then 62 else 18) (lv' := [(0, .ref 27), (1, .int (nI c0)), (2, .int (nI n)), (3, .int (gs_b (gs_any (fun k => gs_nearO c0 (T k n)) k))), (4, .int (nI k))]) (st' := []) (w' := w) rfl ?_
      refine gd_if (nI_pos (by omega)) ?_
      refine gd_r E K 7 (pc' := 29) (lv' := [(0, .ref 27), (1, .int (nI c0)), (2, .int (nI n)), (3, .int (gs_b (gs_any (fun k => gs_nearO c0 (T k n)) k))), (4, .int (nI k))]) (st' := [.int ((64 * (nI k)) + (nI n)), .ref 41]) (w' := w) rfl ?_
      obtain ⟨t1, t2⟩ := hT n hn k (by omega)
      refine gd_ialdv E (K.1 29 (.iaload, 0) rfl).1 (j := 64 * k + n) (by decide) (rfl) (by rw [show (64 : Int32) = nI 64 from rfl, pk_mul, nI_add]) (by omega) (by decide) (v := gm_nO (T k n)) (t1) ?_
      refine gd_r E K 2 (pc' := 33) (lv' := [(0, .ref 27), (1, .int (nI c0)), (2, .int (nI n)), (3, .int (gs_b (gs_any (fun k => gs_nearO c0 (T k n)) k))), (4, .int (nI k)), (5, .int (gm_nO (T k n)))]) (st' := [.int (gs_b (gs_any (fun k => gs_nearO c0 (T k n)) k))]) (w' := w) rfl ?_
      cases hb : gs_any (fun k => gs_nearO c0 (T k n)) k with
      | true =>
        refine gd_r E K 1 (pc' := if (gs_b (true)) = 0 then 36 else 50) (lv' := [(0, .ref 27), (1, .int (nI c0)), (2, .int (nI n)), (3, .int (gs_b (true))), (4, .int (nI k)), (5, .int (gm_nO (T k n)))]) (st' := []) (w' := w) rfl ?_
        refine gd_if (by decide) ?_
        refine gd_r E K 5 (pc' := 5) (lv' := [(0, .ref 27), (1, .int (nI c0)), (2, .int (nI n)), (3, .int 1), (4, .int ((nI k) + 1)), (5, .int (gm_nO (T k n)))]) (st' := []) (w' := w) rfl ?_
        refine gd_lvp [0, 1, 2, 3, 4] (lv' := [(0, .ref 27), (1, .int (nI c0)), (2, .int (nI n)), (3, .int 1), (4, .int ((nI k) + 1))]) rfl ?_
        exact gd_cg (ih (k + 1) (by omega)) (by rw [gs_any_s, hb, Bool.true_or, nI_1]; rfl) rfl rfl
      | false =>
        refine gd_r E K 1 (pc' := if (gs_b (false)) = 0 then 36 else 50) (lv' := [(0, .ref 27), (1, .int (nI c0)), (2, .int (nI n)), (3, .int (gs_b (false))), (4, .int (nI k)), (5, .int (gm_nO (T k n)))]) (st' := []) (w' := w) rfl ?_
        refine gd_it (by decide) ?_
        refine gd_r E K 1 (pc' := 38) (lv' := [(0, .ref 27), (1, .int (nI c0)), (2, .int (nI n)), (3, .int (gs_b (false))), (4, .int (nI k)), (5, .int (gm_nO (T k n)))]) (st' := [.int (gm_nO (T k n))]) (w' := w) rfl ?_
        cases ht : T k n with
        | none =>
          refine gd_r E K 1 (pc' := if (gm_nO (none)) < 0 then 54 else 41) (lv' := [(0, .ref 27), (1, .int (nI c0)), (2, .int (nI n)), (3, .int (gs_b (false))), (4, .int (nI k)), (5, .int (gm_nO (none)))]) (st' := []) (w' := w) rfl ?_
          refine gd_it (by decide) ?_
          refine gd_r E K 4 (pc' := 5) (lv' := [(0, .ref 27), (1, .int (nI c0)), (2, .int (nI n)), (3, .int 0), (4, .int ((nI k) + 1)), (5, .int (gm_nO (none)))]) (st' := []) (w' := w) rfl ?_
          refine gd_lvp [0, 1, 2, 3, 4] (lv' := [(0, .ref 27), (1, .int (nI c0)), (2, .int (nI n)), (3, .int 0), (4, .int ((nI k) + 1))]) rfl ?_
          exact gd_cg (ih (k + 1) (by omega)) (by rw [gs_any_s, hb, ht, Bool.false_or, gs_nearO, nI_1]; rfl) rfl rfl
        | some b =>
          have hbb := t2 b ht
          refine gd_r E K 1 (pc' := if (gm_nO (some b)) < 0 then 54 else 41) (lv' := [(0, .ref 27), (1, .int (nI c0)), (2, .int (nI n)), (3, .int (gs_b (false))), (4, .int (nI k)), (5, .int (gm_nO (some b)))]) (st' := []) (w' := w) rfl ?_
          refine gd_if (gm_nO_some (by omega)) ?_
          refine gd_r E K 2 (pc' := 44) (lv' := [(0, .ref 27), (1, .int (nI c0)), (2, .int (nI n)), (3, .int (gs_b (false))), (4, .int (nI k)), (5, .int (gm_nO (some b)))]) (st' := [.int (gm_nO (some b)), .int (nI c0)]) (w' := w) rfl ?_
          refine gd_cS E hA (av := [.int (nI c0), .int (gm_nO (some b))]) (rest := []) (c2_areNear hinj c0 b hc hbb w) (K.1 44 (.invokestatic 92, 0) rfl).1 ml_M_92 cv_M_areNear ⟨Nat.le_of_ble_eq_true rfl, Nat.le_of_ble_eq_true rfl⟩ ⟨Nat.zero_le _, Nat.zero_le _⟩ rfl (Nat.le_of_ble_eq_true rfl) ?_
          by_cases hnb : gm_near c0 b = true
          · rw [if_pos hnb]
            refine gd_r E K 1 (pc' := if 1 = 0 then 54 else 50) (lv' := [(0, .ref 27), (1, .int (nI c0)), (2, .int (nI n)), (3, .int (gs_b (false))), (4, .int (nI k)), (5, .int (gm_nO (some b)))]) (st' := []) (w' := w) rfl ?_
            refine gd_if (by decide) ?_
            refine gd_r E K 5 (pc' := 5) (lv' := [(0, .ref 27), (1, .int (nI c0)), (2, .int (nI n)), (3, .int 1), (4, .int ((nI k) + 1)), (5, .int (gm_nO (some b)))]) (st' := []) (w' := w) rfl ?_
            refine gd_lvp [0, 1, 2, 3, 4] (lv' := [(0, .ref 27), (1, .int (nI c0)), (2, .int (nI n)), (3, .int 1), (4, .int ((nI k) + 1))]) rfl ?_
            exact gd_cg (ih (k + 1) (by omega)) (by rw [gs_any_s, hb, ht, Bool.false_or, gs_nearO, hnb, nI_1]; rfl) rfl rfl
          · rw [if_neg hnb]
            refine gd_r E K 1 (pc' := if 0 = 0 then 54 else 50) (lv' := [(0, .ref 27), (1, .int (nI c0)), (2, .int (nI n)), (3, .int (gs_b (false))), (4, .int (nI k)), (5, .int (gm_nO (some b)))]) (st' := []) (w' := w) rfl ?_
            refine gd_it (by decide) ?_
            refine gd_r E K 4 (pc' := 5) (lv' := [(0, .ref 27), (1, .int (nI c0)), (2, .int (nI n)), (3, .int 0), (4, .int ((nI k) + 1)), (5, .int (gm_nO (some b)))]) (st' := []) (w' := w) rfl ?_
            refine gd_lvp [0, 1, 2, 3, 4] (lv' := [(0, .ref 27), (1, .int (nI c0)), (2, .int (nI n)), (3, .int 0), (4, .int ((nI k) + 1))]) rfl ?_
            exact gd_cg (ih (k + 1) (by omega)) (by rw [gs_any_s, hb, ht, Bool.false_or, gs_nearO, Bool.eq_false_iff.mpr hnb, nI_1]; rfl) rfl rfl
  refine gd_r E K 4 (pc' := 5) (lv' := [(0, .ref 27), (1, .int (nI c0)), (2, .int (nI n)), (3, .int 0), (4, .int 0)]) (st' := []) (w' := w) rfl ?_
  exact gd_cg (loop cnt 0 (by omega)) rfl rfl rfl
set_option maxRecDepth 100000 in
theorem c2_canRest {l : Launch} {D : va_G} {tC : FieldType → ClassId} {ad : Nat → Nat} (hinj : ∀ i j, ad i = ad j → i = j) {cnt : Nat} {T : Nat → Nat → Option Nat} (w : gd_W) (hT : gs_tab w cnt T) (c0 fr : Nat) (hc : c0 < 64) (hf : fr ≤ 60) : gd_Ct l D tC ad 45 2 48 y_M_canRest c_M_canRest 5 (some .boolean) [.ref 27, .int (nI c0), .int (nI fr)] w (some (.int (gs_b (!gs_mtR T cnt c0 (fr - 1))))) w := by
  refine gd_Ct_of rfl hinj (Nat.le_of_ble_eq_true rfl) ?_
  intro p e s m args below meth c E hr hlk
  have K := k_M_canRest
  have hA : ∀ q, gd_A ad 45 s.heap.size q → gd_A ad 45 s.heap.size q := fun _ h => h
  have loop : ∀ j i, i + j = 64 - (fr - 1) → gd_G p l e (gd_rm 2 48) s m args below meth c D tC ad (gd_A ad 45 s.heap.size) 45 5 0 0 (MQ below (gd_Q D tC ad 45 s.heap.size (some (.int (gs_b (!gs_mtR T cnt c0 (fr - 1))))) w) args s 0 0 (gd_A ad 45 s.heap.size)) 7 [(0, .ref 27), (1, .int (nI c0)), (2, .int (nI fr)), (3, .int (gs_b (gs_any (fun i => gs_mt T cnt c0 (fr - 1 + i)) i))), (4, .int (nI (fr - 1 + i)))] [] w := by
    intro j
    induction j with
    | zero =>
      intro i hi
      refine gd_r E K 2 (pc' := 11) (lv' := [(0, .ref 27), (1, .int (nI c0)), (2, .int (nI fr)), (3, .int (gs_b (gs_any (fun i => gs_mt T cnt c0 (fr - 1 + i)) i))), (4, .int (nI (fr - 1 + i)))]) (st' := [.int 64, .int (nI (fr - 1 + i))]) (w' := w) rfl ?_
      refine gd_r E K 1 (pc' := if 64 ≤ (nI (fr - 1 + i)) then 40 else 14) (lv' := [(0, .ref 27), (1, .int (nI c0)), (2, .int (nI fr)), (3, .int (gs_b (gs_any (fun i => gs_mt T cnt c0 (fr - 1 + i)) i))), (4, .int (nI (fr - 1 + i)))]) (st' := []) (w' := w) rfl ?_
      refine gd_it (nI_le (show 64 ≤ fr - 1 + i by omega) (by omega)) ?_
      refine gd_r E K 1 (pc' := 41) (lv' := [(0, .ref 27), (1, .int (nI c0)), (2, .int (nI fr)), (3, .int (gs_b (gs_any (fun i => gs_mt T cnt c0 (fr - 1 + i)) i))), (4, .int (nI (fr - 1 + i)))]) (st' := [.int (gs_b (gs_any (fun i => gs_mt T cnt c0 (fr - 1 + i)) i))]) (w' := w) rfl ?_
      have hres : gs_any (fun i => gs_mt T cnt c0 (fr - 1 + i)) i = gs_mtR T cnt c0 (fr - 1) := by rw [show i = 64 - (fr - 1) by omega]; rfl
      cases hb : gs_any (fun i => gs_mt T cnt c0 (fr - 1 + i)) i with
      | true =>
        refine gd_r E K 1 (pc' := if (gs_b (true)) = 0 then 44 else 48) (lv' := [(0, .ref 27), (1, .int (nI c0)), (2, .int (nI fr)), (3, .int (gs_b (true))), (4, .int (nI (fr - 1 + i)))]) (st' := []) (w' := w) rfl ?_
        refine gd_if (by decide) ?_
        refine gd_r E K 1 (pc' := 49) (lv' := [(0, .ref 27), (1, .int (nI c0)), (2, .int (nI fr)), (3, .int (gs_b (true))), (4, .int (nI (fr - 1 + i)))]) (st' := [.int 0]) (w' := w) rfl ?_
        exact gd_zretq E hr hlk (K.1 49 (.ireturn, 0) rfl).1 (by decide) (by rw [← hres, hb]; rfl) (rfl)
      | false =>
        refine gd_r E K 1 (pc' := if (gs_b (false)) = 0 then 44 else 48) (lv' := [(0, .ref 27), (1, .int (nI c0)), (2, .int (nI fr)), (3, .int (gs_b (false))), (4, .int (nI (fr - 1 + i)))]) (st' := []) (w' := w) rfl ?_
        refine gd_it (by decide) ?_
        refine gd_r E K 2 (pc' := 49) (lv' := [(0, .ref 27), (1, .int (nI c0)), (2, .int (nI fr)), (3, .int (gs_b (false))), (4, .int (nI (fr - 1 + i)))]) (st' := [.int 1]) (w' := w) rfl ?_
        exact gd_zretq E hr hlk (K.1 49 (.ireturn, 0) rfl).1 (by decide) (by rw [← hres, hb]; rfl) (rfl)
    | succ j ih =>
      intro i hi
      refine gd_r E K 2 (pc' := 11) (lv' := [(0, .ref 27), (1, .int (nI c0)), (2, .int (nI fr)), (3, .int (gs_b (gs_any (fun i => gs_mt T cnt c0 (fr - 1 + i)) i))), (4, .int (nI (fr - 1 + i)))]) (st' := [.int 64, .int (nI (fr - 1 + i))]) (w' := w) rfl ?_
      refine gd_r E K 1 (pc' := if 64 ≤ (nI (fr - 1 + i)) then 40 else 14) (lv' := [(0, .ref 27), (1, .int (nI c0)), (2, .int (nI fr)), (3, .int (gs_b (gs_any (fun i => gs_mt T cnt c0 (fr - 1 + i)) i))), (4, .int (nI (fr - 1 + i)))]) (st' := []) (w' := w) rfl ?_
      refine gd_if (nI_ge (show fr - 1 + i < 64 by omega) (by decide)) ?_
      refine gd_r E K 1 (pc' := 15) (lv' := [(0, .ref 27), (1, .int (nI c0)), (2, .int (nI fr)), (3, .int (gs_b (gs_any (fun i => gs_mt T cnt c0 (fr - 1 + i)) i))), (4, .int (nI (fr - 1 + i)))]) (st' := [.int (gs_b (gs_any (fun i => gs_mt T cnt c0 (fr - 1 + i)) i))]) (w' := w) rfl ?_
      cases hb : gs_any (fun i => gs_mt T cnt c0 (fr - 1 + i)) i with
      | true =>
        refine gd_r E K 1 (pc' := if (gs_b (true)) = 0 then 18 else 28) (lv' := [(0, .ref 27), (1, .int (nI c0)), (2, .int (nI fr)), (3, .int (gs_b (true))), (4, .int (nI (fr - 1 + i)))]) (st' := []) (w' := w) rfl ?_
        refine gd_if (by decide) ?_
        refine gd_r E K 5 (pc' := 7) (lv' := [(0, .ref 27), (1, .int (nI c0)), (2, .int (nI fr)), (3, .int 1), (4, .int ((nI (fr - 1 + i)) + 1))]) (st' := []) (w' := w) rfl ?_
        exact gd_cg (ih (i + 1) (by omega)) (by rw [gs_any_s, hb, Bool.true_or, nI_1]; rfl) rfl rfl
      | false =>
        refine gd_r E K 1 (pc' := if (gs_b (false)) = 0 then 18 else 28) (lv' := [(0, .ref 27), (1, .int (nI c0)), (2, .int (nI fr)), (3, .int (gs_b (false))), (4, .int (nI (fr - 1 + i)))]) (st' := []) (w' := w) rfl ?_
        refine gd_it (by decide) ?_
        refine gd_r E K 3 (pc' := 22) (lv' := [(0, .ref 27), (1, .int (nI c0)), (2, .int (nI fr)), (3, .int (gs_b (false))), (4, .int (nI (fr - 1 + i)))]) (st' := [.int (nI (fr - 1 + i)), .int (nI c0), .ref 27]) (w' := w) rfl ?_
        refine gd_cV E hA (av := [.int (nI c0), .int (nI (fr - 1 + i))]) (rest := []) (c2_isMet hinj w hT c0 (fr - 1 + i) hc (by omega)) (K.1 22 (.invokevirtual 95, 0) rfl).1 ml_M_95 cv_M_isMet (by decide) (rfl) ⟨Nat.le_of_ble_eq_true rfl, Nat.le_of_ble_eq_true rfl⟩ ⟨Nat.zero_le _, Nat.zero_le _⟩ rfl (Nat.le_of_ble_eq_true rfl) ?_
        cases hx : gs_mt T cnt c0 (fr - 1 + i) with
        | true =>
          refine gd_r E K 1 (pc' := if (gs_b (true)) = 0 then 32 else 28) (lv' := [(0, .ref 27), (1, .int (nI c0)), (2, .int (nI fr)), (3, .int (gs_b (false))), (4, .int (nI (fr - 1 + i)))]) (st' := []) (w' := w) rfl ?_
          refine gd_if (by decide) ?_
          refine gd_r E K 5 (pc' := 7) (lv' := [(0, .ref 27), (1, .int (nI c0)), (2, .int (nI fr)), (3, .int 1), (4, .int ((nI (fr - 1 + i)) + 1))]) (st' := []) (w' := w) rfl ?_
          exact gd_cg (ih (i + 1) (by omega)) (by rw [gs_any_s, hb, hx, Bool.false_or, nI_1]; rfl) rfl rfl
        | false =>
          refine gd_r E K 1 (pc' := if (gs_b (false)) = 0 then 32 else 28) (lv' := [(0, .ref 27), (1, .int (nI c0)), (2, .int (nI fr)), (3, .int (gs_b (false))), (4, .int (nI (fr - 1 + i)))]) (st' := []) (w' := w) rfl ?_
          refine gd_it (by decide) ?_
          refine gd_r E K 4 (pc' := 7) (lv' := [(0, .ref 27), (1, .int (nI c0)), (2, .int (nI fr)), (3, .int 0), (4, .int ((nI (fr - 1 + i)) + 1))]) (st' := []) (w' := w) rfl ?_
          exact gd_cg (ih (i + 1) (by omega)) (by rw [gs_any_s, hb, hx, Bool.false_or, nI_1]; rfl) rfl rfl
  refine gd_r E K 6 (pc' := 7) (lv' := [(0, .ref 27), (1, .int (nI c0)), (2, .int (nI fr)), (3, .int 0), (4, .int ((nI fr) - 1))]) (st' := []) (w' := w) rfl ?_
  rcases Nat.eq_zero_or_pos fr with h0 | h0
  · subst h0
    refine gd_cg (lv' := [(0, .ref 27), (1, .int (nI c0)), (2, .int (nI 0)), (3, .int 0), (4, .int (-1))]) (st' := []) (w' := w) ?_ (by rfl) (rfl) (rfl)
    refine gd_r E K 8 (pc' := 22) (lv' := [(0, .ref 27), (1, .int (nI c0)), (2, .int (nI 0)), (3, .int 0), (4, .int (-1))]) (st' := [.int (-1), .int (nI c0), .ref 27]) (w' := w) rfl ?_
    refine gd_cV E hA (av := [.int (nI c0), .int (-1)]) (rest := []) (c2_isMetN hinj w hT c0) (K.1 22 (.invokevirtual 95, 0) rfl).1 ml_M_95 cv_M_isMet (by decide) (rfl) ⟨Nat.le_of_ble_eq_true rfl, Nat.le_of_ble_eq_true rfl⟩ ⟨Nat.zero_le _, Nat.zero_le _⟩ rfl (Nat.le_of_ble_eq_true rfl) ?_
    refine gd_r E K 5 (pc' := 7) (lv' := [(0, .ref 27), (1, .int (nI c0)), (2, .int (nI 0)), (3, .int 0), (4, .int ((-1) + 1))]) (st' := []) (w' := w) rfl ?_
    exact gd_cg (loop 64 0 (by omega)) (by rfl) rfl rfl
  · exact gd_cg (loop (64 - (fr - 1)) 0 (by omega)) (by rw [show (1 : Int32) = nI 1 from rfl, pk_sub h0]; rfl) rfl rfl
def gs_be (S : gs_T) (T : Nat → Nat → Option Nat) (cnt c n : Nat) : Bool := !decide (gs_k S c = 1) && !gs_mt T cnt c (n - 1) && !gs_mt T cnt c n && !gs_mt T cnt c (n + 1)
def gs_end (S : gs_T) (T : Nat → Nat → Option Nat) (cnt c n : Nat) (joins : Bool) : Bool := !decide (gs_k S c = 1) && (if joins then !gs_mt T cnt c (n - 1) && !gs_mt T cnt c n else !gs_mtR T cnt c (n - 1))
def gs_KK (w : gd_W) (S : gs_T) : Prop := ∀ c, c < 64 → w.1 28 c = nI (gs_k S c) ∧ gs_k S c < 8
set_option maxRecDepth 100000 in
theorem c2_canBe {l : Launch} {D : va_G} {tC : FieldType → ClassId} {ad : Nat → Nat} (hinj : ∀ i j, ad i = ad j → i = j) {S : gs_T} {cnt : Nat} {T : Nat → Nat → Option Nat} (w : gd_W) (hK : gs_KK w S) (hT : gs_tab w cnt T) (c0 n : Nat) (hc : c0 < 64) (h1n : 1 ≤ n) (hn : n ≤ 60) : gd_Ct l D tC ad 45 2 48 y_M_canBe c_M_canBe 3 (some .boolean) [.ref 27, .int (nI c0), .int (nI n)] w (some (.int (gs_b (gs_be S T cnt c0 n)))) w := by
  refine gd_Ct_of rfl hinj (Nat.le_of_ble_eq_true rfl) ?_
  intro p e s m args below meth c E hr hlk
  have K := k_M_canBe
  have hA : ∀ q, gd_A ad 45 s.heap.size q → gd_A ad 45 s.heap.size q := fun _ h => h
  obtain ⟨k1, k2⟩ := hK c0 hc
  refine gd_r E K 3 (pc' := 5) (lv' := [(0, .ref 27), (1, .int (nI c0)), (2, .int (nI n))]) (st' := [.int (nI c0), .ref 28]) (w' := w) rfl ?_
  refine gd_ialdv E (K.1 5 (.iaload, 0) rfl).1 (j := c0) (by decide) (rfl) (rfl) (hc) (by decide) (v := nI (gs_k S c0)) (k1) ?_
  refine gd_r E K 1 (pc' := 7) (lv' := [(0, .ref 27), (1, .int (nI c0)), (2, .int (nI n))]) (st' := [.int 1, .int (nI (gs_k S c0))]) (w' := w) rfl ?_
  by_cases hk : gs_k S c0 = 1
  · refine gd_r E K 1 (pc' := if (nI (gs_k S c0)) = 1 then 45 else 10) (lv' := [(0, .ref 27), (1, .int (nI c0)), (2, .int (nI n))]) (st' := []) (w' := w) rfl ?_
    refine gd_it (by rw [hk]; rfl) ?_
    refine gd_r E K 1 (pc' := 46) (lv' := [(0, .ref 27), (1, .int (nI c0)), (2, .int (nI n))]) (st' := [.int 0]) (w' := w) rfl ?_
    exact gd_zretq E hr hlk (K.1 46 (.ireturn, 0) rfl).1 (by decide) (by simp [gs_be, hk, gs_b]) (rfl)
  · refine gd_r E K 1 (pc' := if (nI (gs_k S c0)) = 1 then 45 else 10) (lv' := [(0, .ref 27), (1, .int (nI c0)), (2, .int (nI n))]) (st' := []) (w' := w) rfl ?_
    refine gd_if (by rw [show (1 : Int32) = nI 1 from rfl, nI_eq (by omega) (by decide)]; exact hk) ?_
    refine gd_r E K 5 (pc' := 15) (lv' := [(0, .ref 27), (1, .int (nI c0)), (2, .int (nI n))]) (st' := [.int ((nI n) - 1), .int (nI c0), .ref 27]) (w' := w) rfl ?_
    refine gd_cg (lv' := [(0, .ref 27), (1, .int (nI c0)), (2, .int (nI n))]) (st' := [.int (nI (n - 1)), .int (nI c0), .ref 27]) (w' := w) ?_ (rfl) (by rw [show (1 : Int32) = nI 1 from rfl, pk_sub h1n]) (rfl)
    refine gd_cV E hA (av := [.int (nI c0), .int (nI (n - 1))]) (rest := []) (c2_isMet hinj w hT c0 (n - 1) hc (by omega)) (K.1 15 (.invokevirtual 95, 0) rfl).1 ml_M_95 cv_M_isMet (by decide) (rfl) ⟨Nat.le_of_ble_eq_true rfl, Nat.le_of_ble_eq_true rfl⟩ ⟨Nat.zero_le _, Nat.zero_le _⟩ rfl (Nat.le_of_ble_eq_true rfl) ?_
    cases hx1 : gs_mt T cnt c0 (n - 1) with
    | true =>
      refine gd_r E K 1 (pc' := if (gs_b (true)) = 0 then 21 else 45) (lv' := [(0, .ref 27), (1, .int (nI c0)), (2, .int (nI n))]) (st' := []) (w' := w) rfl ?_
      refine gd_if (by decide) ?_
      refine gd_r E K 1 (pc' := 46) (lv' := [(0, .ref 27), (1, .int (nI c0)), (2, .int (nI n))]) (st' := [.int 0]) (w' := w) rfl ?_
      exact gd_zretq E hr hlk (K.1 46 (.ireturn, 0) rfl).1 (by decide) (by simp [gs_be, hk, hx1, gs_b]) (rfl)
    | false =>
      refine gd_r E K 1 (pc' := if (gs_b (false)) = 0 then 21 else 45) (lv' := [(0, .ref 27), (1, .int (nI c0)), (2, .int (nI n))]) (st' := []) (w' := w) rfl ?_
      refine gd_it (by decide) ?_
      refine gd_r E K 3 (pc' := 24) (lv' := [(0, .ref 27), (1, .int (nI c0)), (2, .int (nI n))]) (st' := [.int (nI n), .int (nI c0), .ref 27]) (w' := w) rfl ?_
      refine gd_cg (lv' := [(0, .ref 27), (1, .int (nI c0)), (2, .int (nI n))]) (st' := [.int (nI (n)), .int (nI c0), .ref 27]) (w' := w) ?_ (rfl) (by rfl) (rfl)
      refine gd_cV E hA (av := [.int (nI c0), .int (nI (n))]) (rest := []) (c2_isMet hinj w hT c0 (n) hc (by omega)) (K.1 24 (.invokevirtual 95, 0) rfl).1 ml_M_95 cv_M_isMet (by decide) (rfl) ⟨Nat.le_of_ble_eq_true rfl, Nat.le_of_ble_eq_true rfl⟩ ⟨Nat.zero_le _, Nat.zero_le _⟩ rfl (Nat.le_of_ble_eq_true rfl) ?_
      cases hx2 : gs_mt T cnt c0 (n) with
      | true =>
        refine gd_r E K 1 (pc' := if (gs_b (true)) = 0 then 30 else 45) (lv' := [(0, .ref 27), (1, .int (nI c0)), (2, .int (nI n))]) (st' := []) (w' := w) rfl ?_
        refine gd_if (by decide) ?_
        refine gd_r E K 1 (pc' := 46) (lv' := [(0, .ref 27), (1, .int (nI c0)), (2, .int (nI n))]) (st' := [.int 0]) (w' := w) rfl ?_
        exact gd_zretq E hr hlk (K.1 46 (.ireturn, 0) rfl).1 (by decide) (by simp [gs_be, hk, hx1, hx2, gs_b]) (rfl)
      | false =>
        refine gd_r E K 1 (pc' := if (gs_b (false)) = 0 then 30 else 45) (lv' := [(0, .ref 27), (1, .int (nI c0)), (2, .int (nI n))]) (st' := []) (w' := w) rfl ?_
        refine gd_it (by decide) ?_
        refine gd_r E K 5 (pc' := 35) (lv' := [(0, .ref 27), (1, .int (nI c0)), (2, .int (nI n))]) (st' := [.int ((nI n) + 1), .int (nI c0), .ref 27]) (w' := w) rfl ?_
        refine gd_cg (lv' := [(0, .ref 27), (1, .int (nI c0)), (2, .int (nI n))]) (st' := [.int (nI (n + 1)), .int (nI c0), .ref 27]) (w' := w) ?_ (rfl) (by rw [nI_1]) (rfl)
        refine gd_cV E hA (av := [.int (nI c0), .int (nI (n + 1))]) (rest := []) (c2_isMet hinj w hT c0 (n + 1) hc (by omega)) (K.1 35 (.invokevirtual 95, 0) rfl).1 ml_M_95 cv_M_isMet (by decide) (rfl) ⟨Nat.le_of_ble_eq_true rfl, Nat.le_of_ble_eq_true rfl⟩ ⟨Nat.zero_le _, Nat.zero_le _⟩ rfl (Nat.le_of_ble_eq_true rfl) ?_
        cases hx3 : gs_mt T cnt c0 (n + 1) with
        | true =>
          refine gd_r E K 1 (pc' := if (gs_b (true)) = 0 then 41 else 45) (lv' := [(0, .ref 27), (1, .int (nI c0)), (2, .int (nI n))]) (st' := []) (w' := w) rfl ?_
          refine gd_if (by decide) ?_
          refine gd_r E K 1 (pc' := 46) (lv' := [(0, .ref 27), (1, .int (nI c0)), (2, .int (nI n))]) (st' := [.int 0]) (w' := w) rfl ?_
          exact gd_zretq E hr hlk (K.1 46 (.ireturn, 0) rfl).1 (by decide) (by simp [gs_be, hk, hx1, hx2, hx3, gs_b]) (rfl)
        | false =>
          refine gd_r E K 1 (pc' := if (gs_b (false)) = 0 then 41 else 45) (lv' := [(0, .ref 27), (1, .int (nI c0)), (2, .int (nI n))]) (st' := []) (w' := w) rfl ?_
          refine gd_it (by decide) ?_
          refine gd_r E K 2 (pc' := 46) (lv' := [(0, .ref 27), (1, .int (nI c0)), (2, .int (nI n))]) (st' := [.int 1]) (w' := w) rfl ?_
          exact gd_zretq E hr hlk (K.1 46 (.ireturn, 0) rfl).1 (by decide) (by simp [gs_be, hk, hx1, hx2, hx3, gs_b]) (rfl)
set_option maxRecDepth 100000 in
theorem c2_canEndJ {l : Launch} {D : va_G} {tC : FieldType → ClassId} {ad : Nat → Nat} (hinj : ∀ i j, ad i = ad j → i = j) {S : gs_T} {cnt : Nat} {T : Nat → Nat → Option Nat} (w : gd_W) (hK : gs_KK w S) (hT : gs_tab w cnt T) (c0 n : Nat) (hc : c0 < 64) (h1n : 1 ≤ n) (hn : n ≤ 60) : gd_Ct l D tC ad 45 3 72 y_M_canEnd c_M_canEnd 4 (some .boolean) [.ref 27, .int (nI c0), .int (nI n), .int 1] w (some (.int (gs_b (gs_end S T cnt c0 n true)))) w := by
  refine gd_Ct_of rfl hinj (Nat.le_of_ble_eq_true rfl) ?_
  intro p e s m args below meth c E hr hlk
  have K := k_M_canEnd
  have hA : ∀ q, gd_A ad 45 s.heap.size q → gd_A ad 45 s.heap.size q := fun _ h => h
  obtain ⟨k1, k2⟩ := hK c0 hc
  refine gd_r E K 3 (pc' := 5) (lv' := [(0, .ref 27), (1, .int (nI c0)), (2, .int (nI n)), (3, .int 1)]) (st' := [.int (nI c0), .ref 28]) (w' := w) rfl ?_
  refine gd_ialdv E (K.1 5 (.iaload, 0) rfl).1 (j := c0) (by decide) (rfl) (rfl) (hc) (by decide) (v := nI (gs_k S c0)) (k1) ?_
  refine gd_r E K 1 (pc' := 7) (lv' := [(0, .ref 27), (1, .int (nI c0)), (2, .int (nI n)), (3, .int 1)]) (st' := [.int 1, .int (nI (gs_k S c0))]) (w' := w) rfl ?_
  by_cases hk : gs_k S c0 = 1
  · refine gd_r E K 1 (pc' := if (nI (gs_k S c0)) = 1 then 50 else 10) (lv' := [(0, .ref 27), (1, .int (nI c0)), (2, .int (nI n)), (3, .int 1)]) (st' := []) (w' := w) rfl ?_
    refine gd_it (by rw [hk]; rfl) ?_
    refine gd_r E K 1 (pc' := 51) (lv' := [(0, .ref 27), (1, .int (nI c0)), (2, .int (nI n)), (3, .int 1)]) (st' := [.int 0]) (w' := w) rfl ?_
    exact gd_zretq E hr hlk (K.1 51 (.ireturn, 0) rfl).1 (by decide) (by simp [gs_end, hk, gs_b]) (rfl)
  · refine gd_r E K 1 (pc' := if (nI (gs_k S c0)) = 1 then 50 else 10) (lv' := [(0, .ref 27), (1, .int (nI c0)), (2, .int (nI n)), (3, .int 1)]) (st' := []) (w' := w) rfl ?_
    refine gd_if (by rw [show (1 : Int32) = nI 1 from rfl, nI_eq (by omega) (by decide)]; exact hk) ?_
    refine gd_r E K 7 (pc' := 19) (lv' := [(0, .ref 27), (1, .int (nI c0)), (2, .int (nI n)), (3, .int 1)]) (st' := [.int ((nI n) - 1), .int (nI c0), .ref 27]) (w' := w) rfl ?_
    refine gd_cg (lv' := [(0, .ref 27), (1, .int (nI c0)), (2, .int (nI n)), (3, .int 1)]) (st' := [.int (nI (n - 1)), .int (nI c0), .ref 27]) (w' := w) ?_ (rfl) (by rw [show (1 : Int32) = nI 1 from rfl, pk_sub h1n]) (rfl)
    refine gd_cV E hA (av := [.int (nI c0), .int (nI (n - 1))]) (rest := []) (c2_isMet hinj w hT c0 (n - 1) hc (by omega)) (K.1 19 (.invokevirtual 95, 0) rfl).1 ml_M_95 cv_M_isMet (by decide) (rfl) ⟨Nat.le_of_ble_eq_true rfl, Nat.le_of_ble_eq_true rfl⟩ ⟨Nat.zero_le _, Nat.zero_le _⟩ rfl (Nat.le_of_ble_eq_true rfl) ?_
    cases hx1 : gs_mt T cnt c0 (n - 1) with
    | true =>
      refine gd_r E K 1 (pc' := if (gs_b (true)) = 0 then 25 else 50) (lv' := [(0, .ref 27), (1, .int (nI c0)), (2, .int (nI n)), (3, .int 1)]) (st' := []) (w' := w) rfl ?_
      refine gd_if (by decide) ?_
      refine gd_r E K 1 (pc' := 51) (lv' := [(0, .ref 27), (1, .int (nI c0)), (2, .int (nI n)), (3, .int 1)]) (st' := [.int 0]) (w' := w) rfl ?_
      exact gd_zretq E hr hlk (K.1 51 (.ireturn, 0) rfl).1 (by decide) (by simp [gs_end, hk, hx1, gs_b]) (rfl)
    | false =>
      refine gd_r E K 1 (pc' := if (gs_b (false)) = 0 then 25 else 50) (lv' := [(0, .ref 27), (1, .int (nI c0)), (2, .int (nI n)), (3, .int 1)]) (st' := []) (w' := w) rfl ?_
      refine gd_it (by decide) ?_
      refine gd_r E K 3 (pc' := 28) (lv' := [(0, .ref 27), (1, .int (nI c0)), (2, .int (nI n)), (3, .int 1)]) (st' := [.int (nI n), .int (nI c0), .ref 27]) (w' := w) rfl ?_
      refine gd_cg (lv' := [(0, .ref 27), (1, .int (nI c0)), (2, .int (nI n)), (3, .int 1)]) (st' := [.int (nI (n)), .int (nI c0), .ref 27]) (w' := w) ?_ (rfl) (by rfl) (rfl)
      refine gd_cV E hA (av := [.int (nI c0), .int (nI (n))]) (rest := []) (c2_isMet hinj w hT c0 (n) hc (by omega)) (K.1 28 (.invokevirtual 95, 0) rfl).1 ml_M_95 cv_M_isMet (by decide) (rfl) ⟨Nat.le_of_ble_eq_true rfl, Nat.le_of_ble_eq_true rfl⟩ ⟨Nat.zero_le _, Nat.zero_le _⟩ rfl (Nat.le_of_ble_eq_true rfl) ?_
      cases hx2 : gs_mt T cnt c0 (n) with
      | true =>
        refine gd_r E K 1 (pc' := if (gs_b (true)) = 0 then 34 else 50) (lv' := [(0, .ref 27), (1, .int (nI c0)), (2, .int (nI n)), (3, .int 1)]) (st' := []) (w' := w) rfl ?_
        refine gd_if (by decide) ?_
        refine gd_r E K 1 (pc' := 51) (lv' := [(0, .ref 27), (1, .int (nI c0)), (2, .int (nI n)), (3, .int 1)]) (st' := [.int 0]) (w' := w) rfl ?_
        exact gd_zretq E hr hlk (K.1 51 (.ireturn, 0) rfl).1 (by decide) (by simp [gs_end, hk, hx1, hx2, gs_b]) (rfl)
      | false =>
        refine gd_r E K 1 (pc' := if (gs_b (false)) = 0 then 34 else 50) (lv' := [(0, .ref 27), (1, .int (nI c0)), (2, .int (nI n)), (3, .int 1)]) (st' := []) (w' := w) rfl ?_
        refine gd_it (by decide) ?_
        refine gd_r E K 3 (pc' := 51) (lv' := [(0, .ref 27), (1, .int (nI c0)), (2, .int (nI n)), (3, .int 1)]) (st' := [.int 1]) (w' := w) rfl ?_
        exact gd_zretq E hr hlk (K.1 51 (.ireturn, 0) rfl).1 (by decide) (by simp [gs_end, hk, hx1, hx2, gs_b]) (rfl)
set_option maxRecDepth 100000 in
theorem c2_canEndS {l : Launch} {D : va_G} {tC : FieldType → ClassId} {ad : Nat → Nat} (hinj : ∀ i j, ad i = ad j → i = j) {S : gs_T} {cnt : Nat} {T : Nat → Nat → Option Nat} (w : gd_W) (hK : gs_KK w S) (hT : gs_tab w cnt T) (c0 n : Nat) (hc : c0 < 64) (hn : n ≤ 60) : gd_Ct l D tC ad 45 3 72 y_M_canEnd c_M_canEnd 4 (some .boolean) [.ref 27, .int (nI c0), .int (nI n), .int 0] w (some (.int (gs_b (gs_end S T cnt c0 n false)))) w := by
  refine gd_Ct_of rfl hinj (Nat.le_of_ble_eq_true rfl) ?_
  intro p e s m args below meth c E hr hlk
  have K := k_M_canEnd
  have hA : ∀ q, gd_A ad 45 s.heap.size q → gd_A ad 45 s.heap.size q := fun _ h => h
  obtain ⟨k1, k2⟩ := hK c0 hc
  refine gd_r E K 3 (pc' := 5) (lv' := [(0, .ref 27), (1, .int (nI c0)), (2, .int (nI n)), (3, .int 0)]) (st' := [.int (nI c0), .ref 28]) (w' := w) rfl ?_
  refine gd_ialdv E (K.1 5 (.iaload, 0) rfl).1 (j := c0) (by decide) (rfl) (rfl) (hc) (by decide) (v := nI (gs_k S c0)) (k1) ?_
  refine gd_r E K 1 (pc' := 7) (lv' := [(0, .ref 27), (1, .int (nI c0)), (2, .int (nI n)), (3, .int 0)]) (st' := [.int 1, .int (nI (gs_k S c0))]) (w' := w) rfl ?_
  by_cases hk : gs_k S c0 = 1
  · refine gd_r E K 1 (pc' := if (nI (gs_k S c0)) = 1 then 50 else 10) (lv' := [(0, .ref 27), (1, .int (nI c0)), (2, .int (nI n)), (3, .int 0)]) (st' := []) (w' := w) rfl ?_
    refine gd_it (by rw [hk]; rfl) ?_
    refine gd_r E K 1 (pc' := 51) (lv' := [(0, .ref 27), (1, .int (nI c0)), (2, .int (nI n)), (3, .int 0)]) (st' := [.int 0]) (w' := w) rfl ?_
    exact gd_zretq E hr hlk (K.1 51 (.ireturn, 0) rfl).1 (by decide) (by simp [gs_end, hk, gs_b]) (rfl)
  · refine gd_r E K 1 (pc' := if (nI (gs_k S c0)) = 1 then 50 else 10) (lv' := [(0, .ref 27), (1, .int (nI c0)), (2, .int (nI n)), (3, .int 0)]) (st' := []) (w' := w) rfl ?_
    refine gd_if (by rw [show (1 : Int32) = nI 1 from rfl, nI_eq (by omega) (by decide)]; exact hk) ?_
    refine gd_r E K 5 (pc' := 40) (lv' := [(0, .ref 27), (1, .int (nI c0)), (2, .int (nI n)), (3, .int 0)]) (st' := [.int (nI n), .int (nI c0), .ref 27]) (w' := w) rfl ?_
    refine gd_cV E hA (av := [.int (nI c0), .int (nI n)]) (rest := []) (c2_canRest hinj w hT c0 n hc hn) (K.1 40 (.invokevirtual 98, 0) rfl).1 ml_M_98 cv_M_canRest (by decide) (rfl) ⟨Nat.le_of_ble_eq_true rfl, Nat.le_of_ble_eq_true rfl⟩ ⟨Nat.zero_le _, Nat.zero_le _⟩ rfl (Nat.le_of_ble_eq_true rfl) ?_
    cases hx : gs_mtR T cnt c0 (n - 1) with
    | true =>
      refine gd_r E K 1 (pc' := if (gs_b (!true)) = 0 then 50 else 46) (lv' := [(0, .ref 27), (1, .int (nI c0)), (2, .int (nI n)), (3, .int 0)]) (st' := []) (w' := w) rfl ?_
      refine gd_it (by decide) ?_
      refine gd_r E K 1 (pc' := 51) (lv' := [(0, .ref 27), (1, .int (nI c0)), (2, .int (nI n)), (3, .int 0)]) (st' := [.int 0]) (w' := w) rfl ?_
      exact gd_zretq E hr hlk (K.1 51 (.ireturn, 0) rfl).1 (by decide) (by simp [gs_end, hk, hx, gs_b]) (rfl)
    | false =>
      refine gd_r E K 1 (pc' := if (gs_b (!false)) = 0 then 50 else 46) (lv' := [(0, .ref 27), (1, .int (nI c0)), (2, .int (nI n)), (3, .int 0)]) (st' := []) (w' := w) rfl ?_
      refine gd_if (by decide) ?_
      refine gd_r E K 2 (pc' := 51) (lv' := [(0, .ref 27), (1, .int (nI c0)), (2, .int (nI n)), (3, .int 0)]) (st' := [.int 1]) (w' := w) rfl ?_
      exact gd_zretq E hr hlk (K.1 51 (.ireturn, 0) rfl).1 (by decide) (by simp [gs_end, hk, hx, gs_b]) (rfl)
set_option maxRecDepth 100000 in
theorem c2_isNext {l : Launch} {D : va_G} {tC : FieldType → ClassId} {ad : Nat → Nat} (hinj : ∀ i j, ad i = ad j → i = j) (w : gd_W) (r : Nat → Bool) (c0 n : Nat) (hc : c0 < 64) (h1n : 1 ≤ n) (hn : n ≤ 61) (hr0 : ∀ b, b < 64 → w.1 42 (64 * (n - 1) + b) = gs_b (r b)) : gd_Ct l D tC ad 45 2 44 y_M_isNext c_M_isNext 6 (some .boolean) [.ref 27, .int (nI c0), .int (nI n)] w (some (.int (gs_b (gs_any (fun k => gs_atO r (gm_mv c0 k)) 5)))) w := by
  refine gd_Ct_of rfl hinj (Nat.le_of_ble_eq_true rfl) ?_
  intro p e s m args below meth c E hr hlk
  have K := k_M_isNext
  have hA : ∀ q, gd_A ad 45 s.heap.size q → gd_A ad 45 s.heap.size q := fun _ h => h
  have loop : ∀ j k, k + j = 5 → gd_G p l e (gd_rm 2 44) s m args below meth c D tC ad (gd_A ad 45 s.heap.size) 45 6 0 0 (MQ below (gd_Q D tC ad 45 s.heap.size (some (.int (gs_b (gs_any (fun k => gs_atO r (gm_mv c0 k)) 5)))) w) args s 0 0 (gd_A ad 45 s.heap.size)) 5 [(0, .ref 27), (1, .int (nI c0)), (2, .int (nI n)), (3, .int (gs_b (gs_any (fun k => gs_atO r (gm_mv c0 k)) k))), (4, .int (nI k))] [] w := by
    intro j
    induction j with
    | zero =>
      intro k hk
      refine gd_r E K 2 (pc' := 8) (lv' := [(0, .ref 27), (1, .int (nI c0)), (2, .int (nI n)), (3, .int (gs_b (gs_any (fun k => gs_atO r (gm_mv c0 k)) k))), (4, .int (nI k))]) (st' := [.int 5, .int (nI k)]) (w' := w) rfl ?_
      refine gd_r E K 1 (pc' := if 5 ≤ (nI k) then 57 else 11) (lv' := [(0, .ref 27), (1, .int (nI c0)), (2, .int (nI n)), (3, .int (gs_b (gs_any (fun k => gs_atO r (gm_mv c0 k)) k))), (4, .int (nI k))]) (st' := []) (w' := w) rfl ?_
      refine gd_it (nI_le (show 5 ≤ k by omega) (by omega)) ?_
      refine gd_r E K 1 (pc' := 58) (lv' := [(0, .ref 27), (1, .int (nI c0)), (2, .int (nI n)), (3, .int (gs_b (gs_any (fun k => gs_atO r (gm_mv c0 k)) k))), (4, .int (nI k))]) (st' := [.int (gs_b (gs_any (fun k => gs_atO r (gm_mv c0 k)) k))]) (w' := w) rfl ?_
      exact gd_zretq E hr hlk (K.1 58 (.ireturn, 0) rfl).1 (gs_b_01 _) (by rw [show k = 5 by omega]) (rfl)
    | succ j ih =>
      intro k hk
      refine gd_r E K 2 (pc' := 8) (lv' := [(0, .ref 27), (1, .int (nI c0)), (2, .int (nI n)), (3, .int (gs_b (gs_any (fun k => gs_atO r (gm_mv c0 k)) k))), (4, .int (nI k))]) (st' := [.int 5, .int (nI k)]) (w' := w) rfl ?_
      refine gd_r E K 1 (pc' := if 5 ≤ (nI k) then 57 else 11) (lv' := [(0, .ref 27), (1, .int (nI c0)), (2, .int (nI n)), (3, .int (gs_b (gs_any (fun k => gs_atO r (gm_mv c0 k)) k))), (4, .int (nI k))]) (st' := []) (w' := w) rfl ?_
      refine gd_if (nI_ge (show k < 5 by omega) (by decide)) ?_
      refine gd_r E K 2 (pc' := 14) (lv' := [(0, .ref 27), (1, .int (nI c0)), (2, .int (nI n)), (3, .int (gs_b (gs_any (fun k => gs_atO r (gm_mv c0 k)) k))), (4, .int (nI k))]) (st' := [.int (nI k), .int (nI c0)]) (w' := w) rfl ?_
      refine gd_cS E hA (av := [.int (nI c0), .int (nI k)]) (rest := []) (c2_moved hinj c0 k hc (by omega) w) (K.1 14 (.invokestatic 82, 0) rfl).1 ml_M_82 cv_M_moved ⟨Nat.le_of_ble_eq_true rfl, Nat.le_of_ble_eq_true rfl⟩ ⟨Nat.zero_le _, Nat.zero_le _⟩ rfl (Nat.le_of_ble_eq_true rfl) ?_
      refine gd_r E K 2 (pc' := 20) (lv' := [(0, .ref 27), (1, .int (nI c0)), (2, .int (nI n)), (3, .int (gs_b (gs_any (fun k => gs_atO r (gm_mv c0 k)) k))), (4, .int (nI k)), (5, .int (gm_nO (gm_mv c0 k)))]) (st' := [.int (gs_b (gs_any (fun k => gs_atO r (gm_mv c0 k)) k))]) (w' := w) rfl ?_
      cases hb : gs_any (fun k => gs_atO r (gm_mv c0 k)) k with
      | true =>
        refine gd_r E K 1 (pc' := if (gs_b (true)) = 0 then 23 else 45) (lv' := [(0, .ref 27), (1, .int (nI c0)), (2, .int (nI n)), (3, .int (gs_b (true))), (4, .int (nI k)), (5, .int (gm_nO (gm_mv c0 k)))]) (st' := []) (w' := w) rfl ?_
        refine gd_if (by decide) ?_
        refine gd_r E K 5 (pc' := 5) (lv' := [(0, .ref 27), (1, .int (nI c0)), (2, .int (nI n)), (3, .int 1), (4, .int ((nI k) + 1)), (5, .int (gm_nO (gm_mv c0 k)))]) (st' := []) (w' := w) rfl ?_
        refine gd_lvp [0, 1, 2, 3, 4] (lv' := [(0, .ref 27), (1, .int (nI c0)), (2, .int (nI n)), (3, .int 1), (4, .int ((nI k) + 1))]) rfl ?_
        exact gd_cg (ih (k + 1) (by omega)) (by rw [gs_any_s, hb, Bool.true_or, nI_1]; rfl) rfl rfl
      | false =>
        refine gd_r E K 1 (pc' := if (gs_b (false)) = 0 then 23 else 45) (lv' := [(0, .ref 27), (1, .int (nI c0)), (2, .int (nI n)), (3, .int (gs_b (false))), (4, .int (nI k)), (5, .int (gm_nO (gm_mv c0 k)))]) (st' := []) (w' := w) rfl ?_
        refine gd_it (by decide) ?_
        refine gd_r E K 1 (pc' := 25) (lv' := [(0, .ref 27), (1, .int (nI c0)), (2, .int (nI n)), (3, .int (gs_b (false))), (4, .int (nI k)), (5, .int (gm_nO (gm_mv c0 k)))]) (st' := [.int (gm_nO (gm_mv c0 k))]) (w' := w) rfl ?_
        cases ht : gm_mv c0 k with
        | none =>
          refine gd_r E K 1 (pc' := if (gm_nO (none)) < 0 then 49 else 28) (lv' := [(0, .ref 27), (1, .int (nI c0)), (2, .int (nI n)), (3, .int (gs_b (false))), (4, .int (nI k)), (5, .int (gm_nO (none)))]) (st' := []) (w' := w) rfl ?_
          refine gd_it (by decide) ?_
          refine gd_r E K 4 (pc' := 5) (lv' := [(0, .ref 27), (1, .int (nI c0)), (2, .int (nI n)), (3, .int 0), (4, .int ((nI k) + 1)), (5, .int (gm_nO (none)))]) (st' := []) (w' := w) rfl ?_
          refine gd_lvp [0, 1, 2, 3, 4] (lv' := [(0, .ref 27), (1, .int (nI c0)), (2, .int (nI n)), (3, .int 0), (4, .int ((nI k) + 1))]) rfl ?_
          exact gd_cg (ih (k + 1) (by omega)) (by rw [gs_any_s, hb, ht, Bool.false_or, gs_atO, nI_1]; rfl) rfl rfl
        | some b =>
          have hbb := gm_mv_lt hc ht
          refine gd_r E K 1 (pc' := if (gm_nO (some b)) < 0 then 49 else 28) (lv' := [(0, .ref 27), (1, .int (nI c0)), (2, .int (nI n)), (3, .int (gs_b (false))), (4, .int (nI k)), (5, .int (gm_nO (some b)))]) (st' := []) (w' := w) rfl ?_
          refine gd_if (gm_nO_some (by omega)) ?_
          refine gd_r E K 9 (pc' := 41) (lv' := [(0, .ref 27), (1, .int (nI c0)), (2, .int (nI n)), (3, .int (gs_b (false))), (4, .int (nI k)), (5, .int (gm_nO (some b)))]) (st' := [.int ((64 * ((nI n) - 1)) + (gm_nO (some b))), .ref 42]) (w' := w) rfl ?_
          refine gd_zaldv E (K.1 41 (.baload, 0) rfl).1 (j := 64 * (n - 1) + b) (by decide) (rfl) (by rw [show (64 : Int32) = nI 64 from rfl, show (1 : Int32) = nI 1 from rfl, pk_sub h1n, pk_mul, gm_nO, nI_add]) (by omega) (by decide) (v := gs_b (r b)) (hr0 b hbb) ?_
          cases hx : r b with
          | true =>
            refine gd_r E K 1 (pc' := if (gs_b (true)) = 0 then 49 else 45) (lv' := [(0, .ref 27), (1, .int (nI c0)), (2, .int (nI n)), (3, .int (gs_b (false))), (4, .int (nI k)), (5, .int (gm_nO (some b)))]) (st' := []) (w' := w) rfl ?_
            refine gd_if (by decide) ?_
            refine gd_r E K 5 (pc' := 5) (lv' := [(0, .ref 27), (1, .int (nI c0)), (2, .int (nI n)), (3, .int 1), (4, .int ((nI k) + 1)), (5, .int (gm_nO (some b)))]) (st' := []) (w' := w) rfl ?_
            refine gd_lvp [0, 1, 2, 3, 4] (lv' := [(0, .ref 27), (1, .int (nI c0)), (2, .int (nI n)), (3, .int 1), (4, .int ((nI k) + 1))]) rfl ?_
            exact gd_cg (ih (k + 1) (by omega)) (by rw [gs_any_s, hb, ht, Bool.false_or, gs_atO, hx, nI_1]; rfl) rfl rfl
          | false =>
            refine gd_r E K 1 (pc' := if (gs_b (false)) = 0 then 49 else 45) (lv' := [(0, .ref 27), (1, .int (nI c0)), (2, .int (nI n)), (3, .int (gs_b (false))), (4, .int (nI k)), (5, .int (gm_nO (some b)))]) (st' := []) (w' := w) rfl ?_
            refine gd_it (by decide) ?_
            refine gd_r E K 4 (pc' := 5) (lv' := [(0, .ref 27), (1, .int (nI c0)), (2, .int (nI n)), (3, .int 0), (4, .int ((nI k) + 1)), (5, .int (gm_nO (some b)))]) (st' := []) (w' := w) rfl ?_
            refine gd_lvp [0, 1, 2, 3, 4] (lv' := [(0, .ref 27), (1, .int (nI c0)), (2, .int (nI n)), (3, .int 0), (4, .int ((nI k) + 1))]) rfl ?_
            exact gd_cg (ih (k + 1) (by omega)) (by rw [gs_any_s, hb, ht, Bool.false_or, gs_atO, hx, nI_1]; rfl) rfl rfl
  refine gd_r E K 4 (pc' := 5) (lv' := [(0, .ref 27), (1, .int (nI c0)), (2, .int (nI n)), (3, .int 0), (4, .int 0)]) (st' := []) (w' := w) rfl ?_
  exact gd_cg (loop 5 0 (by omega)) rfl rfl rfl
