/-- only row k of the ints has changed -/
def gf_r (k : Nat) (w w' : gd_W) : Prop := (∀ a, a ≠ k → w'.1 a = w.1 a) ∧ w'.2 = w.2
theorem gf_r.refl (k : Nat) (w : gd_W) : gf_r k w w := ⟨fun _ _ => rfl, rfl⟩
theorem gf_r.upd (k : Nat) (w : gd_W) (f : Nat → Int32) : gf_r k w (gd_rI w k f) := ⟨fun _ h => gd_rI_n h, rfl⟩
theorem gf_r.trans {k : Nat} {a b c : gd_W} (h : gf_r k a b) (g : gf_r k b c) : gf_r k a c := ⟨fun x hx => (g.1 x hx).trans (h.1 x hx), g.2.trans h.2⟩
theorem gf_r.tab {k : Nat} {w w' : gd_W} (h : gf_r k w w') (h1 : k ≠ 27) (h2 : k ≠ 41) {cnt : Nat} {T : Nat → Nat → Option Nat} (t : gs_tab w cnt T) : gs_tab w' cnt T := by
  unfold gs_tab at t ⊢
  rw [h.1 27 (Ne.symm h1), h.1 41 (Ne.symm h2)]
  exact t
theorem gf_r.KK {k : Nat} {w w' : gd_W} (h : gf_r k w w') (h1 : k ≠ 28) {S : gs_T} (t : gs_KK w S) : gs_KK w' S := by
  unfold gs_KK at t ⊢
  rw [h.1 28 (Ne.symm h1)]
  exact t
/-- the cells that can be reached in n steps -/
def gs_rch (S : gs_T) (T : Nat → Nat → Option Nat) (cnt fr : Nat) : Nat → Nat → Bool
  | 0, c => decide (c = fr)
  | n + 1, c => gs_any (fun k => gs_atO (gs_rch S T cnt fr n) (gm_mv c k)) 5 && gs_be S T cnt c (n + 1)
def gs_nxt (R : Nat → Nat → Bool) (n c : Nat) : Bool := gs_any (fun k => gs_atO (R (n - 1)) (gm_mv c k)) 5
def gs_fst (f : Nat → Bool) : Nat → Nat → Option Nat
  | _, 0 => none
  | n, k + 1 => if f n then some n else gs_fst f (n + 1) k
/-- the length of the shortest way -/
def gs_way (S : gs_T) (T : Nat → Nat → Option Nat) (cnt fr goal : Nat) (joins : Bool) : Option Nat :=
  if joins = false ∧ fr = goal ∧ gs_end S T cnt goal 0 false = true then some 0 else gs_fst (fun n => gs_nxt (gs_rch S T cnt fr) n goal && gs_end S T cnt goal n joins) 1 60
/-- block n of a row of booleans -/
def gs_blk (w : gd_W) (k n m : Nat) (R : Nat → Bool) : Prop := ∀ c, c < m → w.1 k (64 * n + c) = gs_b (R c)
theorem gs_blk_step {w : gd_W} {k n m : Nat} {R : Nat → Bool} {v : Int32} (h : gs_blk w k n m R) (hv : v = gs_b (R m)) : gs_blk (gd_rI w k (upd (w.1 k) (64 * n + m) v)) k n (m + 1) R := by
  intro c hc
  rw [gd_rI_s]
  by_cases e : c = m
  · subst e; rw [gd_u_s, hv]
  · rw [gd_u_n (by omega)]; exact h c (by omega)
theorem gs_blk_keep {w : gd_W} {k n m n' m' : Nat} {R : Nat → Bool} {v : Int32} (h : gs_blk w k n m R) (hn : n ≠ n') (hm : m ≤ 64) (hm' : m' < 64) : gs_blk (gd_rI w k (upd (w.1 k) (64 * n' + m') v)) k n m R := by
  intro c hc
  rw [gd_rI_s, gd_u_n (by omega)]
  exact h c hc
def gs_ri (R : Nat → Nat → Bool) (w w1 : gd_W) (n : Nat) : Prop := gf_r 42 w w1 ∧ ∀ i, i < n → gs_blk w1 42 i 64 (R i)
def gs_rj (R : Nat → Nat → Bool) (w w1 : gd_W) (n c : Nat) : Prop := gs_ri R w w1 n ∧ gs_blk w1 42 n c (R n)
theorem gs_rj_step {R : Nat → Nat → Bool} {w w1 : gd_W} {n c : Nat} {v : Int32} (h : gs_rj R w w1 n c) (hc : c < 64) (hv : v = gs_b (R n c)) : gs_rj R w (gd_rI w1 42 (upd (w1.1 42) (64 * n + c) v)) n (c + 1) :=
  ⟨⟨h.1.1.trans (gf_r.upd _ _ _), fun i hi => gs_blk_keep (h.1.2 i hi) (by omega) (Nat.le_refl _) hc⟩, gs_blk_step h.2 hv⟩
theorem gs_rj_end {R : Nat → Nat → Bool} {w w1 : gd_W} {n : Nat} (h : gs_rj R w w1 n 64) : gs_ri R w w1 (n + 1) :=
  ⟨h.1.1, fun i hi => by
    by_cases e : i = n
    · subst e; exact h.2
    · exact h.1.2 i (by omega)⟩
theorem gs_ri_0 {R : Nat → Nat → Bool} {w w1 : gd_W} (h : gf_r 42 w w1) : gs_rj R w w1 0 0 := ⟨⟨h, fun i hi => by omega⟩, fun c hc => by omega⟩
set_option maxRecDepth 100000 in
theorem c2_spreadJ {l : Launch} {D : va_G} {tC : FieldType → ClassId} {ad : Nat → Nat} (hinj : ∀ i j, ad i = ad j → i = j) {S : gs_T} {cnt : Nat} {T : Nat → Nat → Option Nat} (w : gd_W) (hK : gs_KK w S) (hT : gs_tab w cnt T) (fr goal : Nat) (hf : fr < 64) (hg : goal < 64) : gd_Cp l D tC ad 45 4 95 y_M_spread c_M_spread 6 (some .int) [.ref 27, .int (nI fr), .int (nI goal), .int 1] w (fun r w' => r = some (.int (gm_nO (gs_way S T cnt fr goal true))) ∧ gf_r 42 w w' ∧ ∀ en, gs_way S T cnt fr goal true = some en → ∀ i, i < max en 1 → gs_blk w' 42 i 64 (gs_rch S T cnt fr i)) := by
  refine gd_Cp_of rfl hinj (Nat.le_of_ble_eq_true rfl) ?_
  intro p e s m args below meth c E hr hlk
  have K := k_M_spread
  have hA : ∀ q, gd_A ad 45 s.heap.size q → gd_A ad 45 s.heap.size q := fun _ h => h
  have loop : ∀ j n w1, n + j = 61 → 1 ≤ n → gs_ri (gs_rch S T cnt fr) w w1 n → gs_way S T cnt fr goal true = gs_fst (fun n => gs_nxt (gs_rch S T cnt fr) n goal && gs_end S T cnt goal n true) n j → gd_G p l e (gd_rm 4 95) s m args below meth c D tC ad (gd_A ad 45 s.heap.size) 45 6 0 0 (MQ below (gd_Qp D tC ad 45 s.heap.size (fun r w' => r = some (.int (gm_nO (gs_way S T cnt fr goal true))) ∧ gf_r 42 w w' ∧ ∀ en, gs_way S T cnt fr goal true = some en → ∀ i, i < max en 1 → gs_blk w' 42 i 64 (gs_rch S T cnt fr i))) args s 0 0 (gd_A ad 45 s.heap.size)) 58 [(0, .ref 27), (1, .int (nI fr)), (2, .int (nI goal)), (3, .int 1), (4, .int (nI n))] [] w1 := by
    intro j
    induction j with
    | zero =>
      intro n w1 hn h1 hi hres
      refine gd_r E K 2 (pc' := 62) (lv' := [(0, .ref 27), (1, .int (nI fr)), (2, .int (nI goal)), (3, .int 1), (4, .int (nI n))]) (st' := [.int 60, .int (nI n)]) (w' := w1) rfl ?_
      refine gd_r E K 1 (pc' := if 60 < (nI n) then 151 else 65) (lv' := [(0, .ref 27), (1, .int (nI fr)), (2, .int (nI goal)), (3, .int 1), (4, .int (nI n))]) (st' := []) (w' := w1) rfl ?_
      refine gd_it (nI_lt (show 60 < n by omega) (by omega)) ?_
      refine gd_r E K 1 (pc' := 152) (lv' := [(0, .ref 27), (1, .int (nI fr)), (2, .int (nI goal)), (3, .int 1), (4, .int (nI n))]) (st' := [.int (-1)]) (w' := w1) rfl ?_
      exact gd_iretp E hr hlk (K.1 152 (.ireturn, 0) rfl).1 (⟨by rw [hres]; rfl, hi.1, fun en he => by rw [hres] at he; cases he⟩)
    | succ j ih =>
      intro n w1 hn h1 hi hres
      have hK1 := hi.1.KK (by decide) hK
      have hT1 := hi.1.tab (by decide) (by decide) hT
      refine gd_r E K 2 (pc' := 62) (lv' := [(0, .ref 27), (1, .int (nI fr)), (2, .int (nI goal)), (3, .int 1), (4, .int (nI n))]) (st' := [.int 60, .int (nI n)]) (w' := w1) rfl ?_
      refine gd_r E K 1 (pc' := if 60 < (nI n) then 151 else 65) (lv' := [(0, .ref 27), (1, .int (nI fr)), (2, .int (nI goal)), (3, .int 1), (4, .int (nI n))]) (st' := []) (w' := w1) rfl ?_
      refine gd_if (nI_nlt (show n ≤ 60 by omega) (by decide)) ?_
      refine gd_r E K 3 (pc' := 69) (lv' := [(0, .ref 27), (1, .int (nI fr)), (2, .int (nI goal)), (3, .int 1), (4, .int (nI n))]) (st' := [.int (nI n), .int (nI goal), .ref 27]) (w' := w1) rfl ?_
      refine gd_cV E hA (av := [.int (nI goal), .int (nI n)]) (rest := []) (c2_isNext hinj w1 (gs_rch S T cnt fr (n - 1)) goal n hg h1 (by omega) (hi.2 (n - 1) (by omega))) (K.1 69 (.invokevirtual 105, 0) rfl).1 ml_M_105 cv_M_isNext (by decide) (rfl) ⟨Nat.le_of_ble_eq_true rfl, Nat.le_of_ble_eq_true rfl⟩ ⟨Nat.zero_le _, Nat.zero_le _⟩ rfl (Nat.le_of_ble_eq_true rfl) ?_
      refine gd_cg (lv' := [(0, .ref 27), (1, .int (nI fr)), (2, .int (nI goal)), (3, .int 1), (4, .int (nI n))]) (st' := [.int (gs_b (gs_nxt (gs_rch S T cnt fr) n goal))]) (w' := w1) ?_ (rfl) (rfl) (rfl)
      cases hnx : gs_nxt (gs_rch S T cnt fr) n goal with
      | true =>
        refine gd_r E K 1 (pc' := if (gs_b (true)) = 0 then 89 else 75) (lv' := [(0, .ref 27), (1, .int (nI fr)), (2, .int (nI goal)), (3, .int 1), (4, .int (nI n))]) (st' := []) (w' := w1) rfl ?_
        refine gd_if (by decide) ?_
        refine gd_r E K 4 (pc' := 80) (lv' := [(0, .ref 27), (1, .int (nI fr)), (2, .int (nI goal)), (3, .int 1), (4, .int (nI n))]) (st' := [.int 1, .int (nI n), .int (nI goal), .ref 27]) (w' := w1) rfl ?_
        refine gd_cV E hA (av := [.int (nI goal), .int (nI n), .int 1]) (rest := []) (c2_canEndJ hinj w1 hK1 hT1 goal n hg h1 (by omega)) (K.1 80 (.invokevirtual 101, 0) rfl).1 ml_M_101 cv_M_canEnd (by decide) (rfl) ⟨Nat.le_of_ble_eq_true rfl, Nat.le_of_ble_eq_true rfl⟩ ⟨Nat.zero_le _, Nat.zero_le _⟩ rfl (Nat.le_of_ble_eq_true rfl) ?_
        cases hen : gs_end S T cnt goal n true with
        | true =>
          refine gd_r E K 1 (pc' := if (gs_b (true)) = 0 then 89 else 86) (lv' := [(0, .ref 27), (1, .int (nI fr)), (2, .int (nI goal)), (3, .int 1), (4, .int (nI n))]) (st' := []) (w' := w1) rfl ?_
          refine gd_if (by decide) ?_
          refine gd_r E K 1 (pc' := 88) (lv' := [(0, .ref 27), (1, .int (nI fr)), (2, .int (nI goal)), (3, .int 1), (4, .int (nI n))]) (st' := [.int (nI n)]) (w' := w1) rfl ?_
          have hfin : gs_way S T cnt fr goal true = some n := by rw [hres, gs_fst, if_pos (by rw [hnx, hen]; rfl)]
          exact gd_iretp E hr hlk (K.1 88 (.ireturn, 0) rfl).1 (⟨by rw [hfin]; rfl, hi.1, fun en he i hi2 => by rw [hfin] at he; cases he; exact hi.2 i (by omega)⟩)
        | false =>
          refine gd_r E K 1 (pc' := if (gs_b (false)) = 0 then 89 else 86) (lv' := [(0, .ref 27), (1, .int (nI fr)), (2, .int (nI goal)), (3, .int 1), (4, .int (nI n))]) (st' := []) (w' := w1) rfl ?_
          refine gd_it (by decide) ?_
          refine gd_r E K 2 (pc' := 92) (lv' := [(0, .ref 27), (1, .int (nI fr)), (2, .int (nI goal)), (3, .int 1), (4, .int (nI n)), (5, .int 0)]) (st' := []) (w' := w1) rfl ?_
          have inner : ∀ i c0 w2, c0 + i = 64 → gs_rj (gs_rch S T cnt fr) w w2 n c0 → gd_G p l e (gd_rm 4 95) s m args below meth c D tC ad (gd_A ad 45 s.heap.size) 45 6 0 0 (MQ below (gd_Qp D tC ad 45 s.heap.size (fun r w' => r = some (.int (gm_nO (gs_way S T cnt fr goal true))) ∧ gf_r 42 w w' ∧ ∀ en, gs_way S T cnt fr goal true = some en → ∀ i, i < max en 1 → gs_blk w' 42 i 64 (gs_rch S T cnt fr i))) args s 0 0 (gd_A ad 45 s.heap.size)) 92 [(0, .ref 27), (1, .int (nI fr)), (2, .int (nI goal)), (3, .int 1), (4, .int (nI n)), (5, .int (nI c0))] [] w2 := by
            intro i
            induction i with
            | zero =>
              intro c0 w2 hc hj
              refine gd_r E K 2 (pc' := 96) (lv' := [(0, .ref 27), (1, .int (nI fr)), (2, .int (nI goal)), (3, .int 1), (4, .int (nI n)), (5, .int (nI c0))]) (st' := [.int 64, .int (nI c0)]) (w' := w2) rfl ?_
              refine gd_r E K 1 (pc' := if 64 ≤ (nI c0) then 145 else 99) (lv' := [(0, .ref 27), (1, .int (nI fr)), (2, .int (nI goal)), (3, .int 1), (4, .int (nI n)), (5, .int (nI c0))]) (st' := []) (w' := w2) rfl ?_
              refine gd_it (nI_le (show 64 ≤ c0 by omega) (by omega)) ?_
              refine gd_r E K 2 (pc' := 58) (lv' := [(0, .ref 27), (1, .int (nI fr)), (2, .int (nI goal)), (3, .int 1), (4, .int ((nI n) + 1)), (5, .int (nI c0))]) (st' := []) (w' := w2) rfl ?_
              refine gd_lvp [0, 1, 2, 3, 4] (lv' := [(0, .ref 27), (1, .int (nI fr)), (2, .int (nI goal)), (3, .int 1), (4, .int ((nI n) + 1))]) rfl ?_
              exact gd_cg (ih (n + 1) w2 (by omega) (by omega) (gs_rj_end (by rw [show (64 : Nat) = c0 by omega]; exact hj)) (by rw [hres, gs_fst, if_neg (by rw [hnx, hen]; simp)])) (by rw [nI_1]) rfl rfl
            | succ i ih2 =>
              intro c0 w2 hc hj
              have hK2 := hj.1.1.KK (by decide) hK
              have hT2 := hj.1.1.tab (by decide) (by decide) hT
              have hR2 : gs_rch S T cnt fr n c0 = (gs_any (fun k => gs_atO (gs_rch S T cnt fr (n - 1)) (gm_mv c0 k)) 5 && gs_be S T cnt c0 n) := by
                obtain ⟨n0, rfl⟩ : ∃ n0, n = n0 + 1 := ⟨n - 1, by omega⟩
                rfl
              refine gd_r E K 2 (pc' := 96) (lv' := [(0, .ref 27), (1, .int (nI fr)), (2, .int (nI goal)), (3, .int 1), (4, .int (nI n)), (5, .int (nI c0))]) (st' := [.int 64, .int (nI c0)]) (w' := w2) rfl ?_
              refine gd_r E K 1 (pc' := if 64 ≤ (nI c0) then 145 else 99) (lv' := [(0, .ref 27), (1, .int (nI fr)), (2, .int (nI goal)), (3, .int 1), (4, .int (nI n)), (5, .int (nI c0))]) (st' := []) (w' := w2) rfl ?_
              refine gd_if (nI_ge (show c0 < 64 by omega) (by decide)) ?_
              refine gd_r E K 10 (pc' := 116) (lv' := [(0, .ref 27), (1, .int (nI fr)), (2, .int (nI goal)), (3, .int 1), (4, .int (nI n)), (5, .int (nI c0))]) (st' := [.int (nI n), .int (nI c0), .ref 27, .int ((64 * (nI n)) + (nI c0)), .ref 42]) (w' := w2) rfl ?_
              refine gd_cV E hA (av := [.int (nI c0), .int (nI n)]) (rest := [.int ((64 * (nI n)) + (nI c0)), .ref 42]) (c2_isNext hinj w2 (gs_rch S T cnt fr (n - 1)) c0 n (by omega) h1 (by omega) (hj.1.2 (n - 1) (by omega))) (K.1 116 (.invokevirtual 105, 0) rfl).1 ml_M_105 cv_M_isNext (by decide) (rfl) ⟨Nat.le_of_ble_eq_true rfl, Nat.le_of_ble_eq_true rfl⟩ ⟨Nat.zero_le _, Nat.zero_le _⟩ rfl (Nat.le_of_ble_eq_true rfl) ?_
              cases hx : gs_any (fun k => gs_atO (gs_rch S T cnt fr (n - 1)) (gm_mv c0 k)) 5 with
              | true =>
                refine gd_r E K 1 (pc' := if (gs_b (true)) = 0 then 137 else 122) (lv' := [(0, .ref 27), (1, .int (nI fr)), (2, .int (nI goal)), (3, .int 1), (4, .int (nI n)), (5, .int (nI c0))]) (st' := [.int ((64 * (nI n)) + (nI c0)), .ref 42]) (w' := w2) rfl ?_
                refine gd_if (by decide) ?_
                refine gd_r E K 3 (pc' := 127) (lv' := [(0, .ref 27), (1, .int (nI fr)), (2, .int (nI goal)), (3, .int 1), (4, .int (nI n)), (5, .int (nI c0))]) (st' := [.int (nI n), .int (nI c0), .ref 27, .int ((64 * (nI n)) + (nI c0)), .ref 42]) (w' := w2) rfl ?_
                refine gd_cV E hA (av := [.int (nI c0), .int (nI n)]) (rest := [.int ((64 * (nI n)) + (nI c0)), .ref 42]) (c2_canBe hinj w2 hK2 hT2 c0 n (by omega) h1 (by omega)) (K.1 127 (.invokevirtual 108, 0) rfl).1 ml_M_108 cv_M_canBe (by decide) (rfl) ⟨Nat.le_of_ble_eq_true rfl, Nat.le_of_ble_eq_true rfl⟩ ⟨Nat.zero_le _, Nat.zero_le _⟩ rfl (Nat.le_of_ble_eq_true rfl) ?_
                cases hb2 : gs_be S T cnt c0 n with
                | true =>
                  refine gd_r E K 1 (pc' := if (gs_b (true)) = 0 then 137 else 133) (lv' := [(0, .ref 27), (1, .int (nI fr)), (2, .int (nI goal)), (3, .int 1), (4, .int (nI n)), (5, .int (nI c0))]) (st' := [.int ((64 * (nI n)) + (nI c0)), .ref 42]) (w' := w2) rfl ?_
                  refine gd_if (by decide) ?_
                  refine gd_r E K 2 (pc' := 138) (lv' := [(0, .ref 27), (1, .int (nI fr)), (2, .int (nI goal)), (3, .int 1), (4, .int (nI n)), (5, .int (nI c0))]) (st' := [.int 1, .int ((64 * (nI n)) + (nI c0)), .ref 42]) (w' := w2) rfl ?_
                  refine gd_zast E (K.1 138 (.bastore, 0) rfl).1 (j := 64 * n + c0) (by decide) (rfl) (by rw [show (64 : Int32) = nI 64 from rfl, pk_mul, nI_add]) (by omega) (by decide) (by decide) ?_
                  refine gd_r E K 2 (pc' := 92) (lv' := [(0, .ref 27), (1, .int (nI fr)), (2, .int (nI goal)), (3, .int 1), (4, .int (nI n)), (5, .int ((nI c0) + 1))]) (st' := []) (w' := gd_rI w2 42 (upd (w2.1 42) (64 * n + c0) 1)) rfl ?_
                  exact gd_cg (ih2 (c0 + 1) _ (by omega) (gs_rj_step hj (by omega) (by rw [hR2, hx, hb2]; rfl))) (by rw [nI_1]) rfl rfl
                | false =>
                  refine gd_r E K 1 (pc' := if (gs_b (false)) = 0 then 137 else 133) (lv' := [(0, .ref 27), (1, .int (nI fr)), (2, .int (nI goal)), (3, .int 1), (4, .int (nI n)), (5, .int (nI c0))]) (st' := [.int ((64 * (nI n)) + (nI c0)), .ref 42]) (w' := w2) rfl ?_
                  refine gd_it (by decide) ?_
                  refine gd_r E K 1 (pc' := 138) (lv' := [(0, .ref 27), (1, .int (nI fr)), (2, .int (nI goal)), (3, .int 1), (4, .int (nI n)), (5, .int (nI c0))]) (st' := [.int 0, .int ((64 * (nI n)) + (nI c0)), .ref 42]) (w' := w2) rfl ?_
                  refine gd_zast E (K.1 138 (.bastore, 0) rfl).1 (j := 64 * n + c0) (by decide) (rfl) (by rw [show (64 : Int32) = nI 64 from rfl, pk_mul, nI_add]) (by omega) (by decide) (by decide) ?_
                  refine gd_r E K 2 (pc' := 92) (lv' := [(0, .ref 27), (1, .int (nI fr)), (2, .int (nI goal)), (3, .int 1), (4, .int (nI n)), (5, .int ((nI c0) + 1))]) (st' := []) (w' := gd_rI w2 42 (upd (w2.1 42) (64 * n + c0) 0)) rfl ?_
                  exact gd_cg (ih2 (c0 + 1) _ (by omega) (gs_rj_step hj (by omega) (by rw [hR2, hx, hb2]; rfl))) (by rw [nI_1]) rfl rfl
              | false =>
                refine gd_r E K 1 (pc' := if (gs_b (false)) = 0 then 137 else 122) (lv' := [(0, .ref 27), (1, .int (nI fr)), (2, .int (nI goal)), (3, .int 1), (4, .int (nI n)), (5, .int (nI c0))]) (st' := [.int ((64 * (nI n)) + (nI c0)), .ref 42]) (w' := w2) rfl ?_
                refine gd_it (by decide) ?_
                refine gd_r E K 1 (pc' := 138) (lv' := [(0, .ref 27), (1, .int (nI fr)), (2, .int (nI goal)), (3, .int 1), (4, .int (nI n)), (5, .int (nI c0))]) (st' := [.int 0, .int ((64 * (nI n)) + (nI c0)), .ref 42]) (w' := w2) rfl ?_
                refine gd_zast E (K.1 138 (.bastore, 0) rfl).1 (j := 64 * n + c0) (by decide) (rfl) (by rw [show (64 : Int32) = nI 64 from rfl, pk_mul, nI_add]) (by omega) (by decide) (by decide) ?_
                refine gd_r E K 2 (pc' := 92) (lv' := [(0, .ref 27), (1, .int (nI fr)), (2, .int (nI goal)), (3, .int 1), (4, .int (nI n)), (5, .int ((nI c0) + 1))]) (st' := []) (w' := gd_rI w2 42 (upd (w2.1 42) (64 * n + c0) 0)) rfl ?_
                exact gd_cg (ih2 (c0 + 1) _ (by omega) (gs_rj_step hj (by omega) (by rw [hR2, hx, Bool.false_and]; rfl))) (by rw [nI_1]) rfl rfl
          exact gd_cg (inner 64 0 w1 (by omega) ⟨hi, fun c hc => by omega⟩) rfl rfl rfl
      | false =>
        refine gd_r E K 1 (pc' := if (gs_b (false)) = 0 then 89 else 75) (lv' := [(0, .ref 27), (1, .int (nI fr)), (2, .int (nI goal)), (3, .int 1), (4, .int (nI n))]) (st' := []) (w' := w1) rfl ?_
        refine gd_it (by decide) ?_
        refine gd_r E K 2 (pc' := 92) (lv' := [(0, .ref 27), (1, .int (nI fr)), (2, .int (nI goal)), (3, .int 1), (4, .int (nI n)), (5, .int 0)]) (st' := []) (w' := w1) rfl ?_
        have inner : ∀ i c0 w2, c0 + i = 64 → gs_rj (gs_rch S T cnt fr) w w2 n c0 → gd_G p l e (gd_rm 4 95) s m args below meth c D tC ad (gd_A ad 45 s.heap.size) 45 6 0 0 (MQ below (gd_Qp D tC ad 45 s.heap.size (fun r w' => r = some (.int (gm_nO (gs_way S T cnt fr goal true))) ∧ gf_r 42 w w' ∧ ∀ en, gs_way S T cnt fr goal true = some en → ∀ i, i < max en 1 → gs_blk w' 42 i 64 (gs_rch S T cnt fr i))) args s 0 0 (gd_A ad 45 s.heap.size)) 92 [(0, .ref 27), (1, .int (nI fr)), (2, .int (nI goal)), (3, .int 1), (4, .int (nI n)), (5, .int (nI c0))] [] w2 := by
          intro i
          induction i with
          | zero =>
            intro c0 w2 hc hj
            refine gd_r E K 2 (pc' := 96) (lv' := [(0, .ref 27), (1, .int (nI fr)), (2, .int (nI goal)), (3, .int 1), (4, .int (nI n)), (5, .int (nI c0))]) (st' := [.int 64, .int (nI c0)]) (w' := w2) rfl ?_
            refine gd_r E K 1 (pc' := if 64 ≤ (nI c0) then 145 else 99) (lv' := [(0, .ref 27), (1, .int (nI fr)), (2, .int (nI goal)), (3, .int 1), (4, .int (nI n)), (5, .int (nI c0))]) (st' := []) (w' := w2) rfl ?_
            refine gd_it (nI_le (show 64 ≤ c0 by omega) (by omega)) ?_
            refine gd_r E K 2 (pc' := 58) (lv' := [(0, .ref 27), (1, .int (nI fr)), (2, .int (nI goal)), (3, .int 1), (4, .int ((nI n) + 1)), (5, .int (nI c0))]) (st' := []) (w' := w2) rfl ?_
            refine gd_lvp [0, 1, 2, 3, 4] (lv' := [(0, .ref 27), (1, .int (nI fr)), (2, .int (nI goal)), (3, .int 1), (4, .int ((nI n) + 1))]) rfl ?_
            exact gd_cg (ih (n + 1) w2 (by omega) (by omega) (gs_rj_end (by rw [show (64 : Nat) = c0 by omega]; exact hj)) (by rw [hres, gs_fst, if_neg (by rw [hnx]; simp)])) (by rw [nI_1]) rfl rfl
          | succ i ih2 =>
            intro c0 w2 hc hj
            have hK2 := hj.1.1.KK (by decide) hK
            have hT2 := hj.1.1.tab (by decide) (by decide) hT
            have hR2 : gs_rch S T cnt fr n c0 = (gs_any (fun k => gs_atO (gs_rch S T cnt fr (n - 1)) (gm_mv c0 k)) 5 && gs_be S T cnt c0 n) := by
              obtain ⟨n0, rfl⟩ : ∃ n0, n = n0 + 1 := ⟨n - 1, by omega⟩
              rfl
            refine gd_r E K 2 (pc' := 96) (lv' := [(0, .ref 27), (1, .int (nI fr)), (2, .int (nI goal)), (3, .int 1), (4, .int (nI n)), (5, .int (nI c0))]) (st' := [.int 64, .int (nI c0)]) (w' := w2) rfl ?_
            refine gd_r E K 1 (pc' := if 64 ≤ (nI c0) then 145 else 99) (lv' := [(0, .ref 27), (1, .int (nI fr)), (2, .int (nI goal)), (3, .int 1), (4, .int (nI n)), (5, .int (nI c0))]) (st' := []) (w' := w2) rfl ?_
            refine gd_if (nI_ge (show c0 < 64 by omega) (by decide)) ?_
            refine gd_r E K 10 (pc' := 116) (lv' := [(0, .ref 27), (1, .int (nI fr)), (2, .int (nI goal)), (3, .int 1), (4, .int (nI n)), (5, .int (nI c0))]) (st' := [.int (nI n), .int (nI c0), .ref 27, .int ((64 * (nI n)) + (nI c0)), .ref 42]) (w' := w2) rfl ?_
            refine gd_cV E hA (av := [.int (nI c0), .int (nI n)]) (rest := [.int ((64 * (nI n)) + (nI c0)), .ref 42]) (c2_isNext hinj w2 (gs_rch S T cnt fr (n - 1)) c0 n (by omega) h1 (by omega) (hj.1.2 (n - 1) (by omega))) (K.1 116 (.invokevirtual 105, 0) rfl).1 ml_M_105 cv_M_isNext (by decide) (rfl) ⟨Nat.le_of_ble_eq_true rfl, Nat.le_of_ble_eq_true rfl⟩ ⟨Nat.zero_le _, Nat.zero_le _⟩ rfl (Nat.le_of_ble_eq_true rfl) ?_
            cases hx : gs_any (fun k => gs_atO (gs_rch S T cnt fr (n - 1)) (gm_mv c0 k)) 5 with
            | true =>
              refine gd_r E K 1 (pc' := if (gs_b (true)) = 0 then 137 else 122) (lv' := [(0, .ref 27), (1, .int (nI fr)), (2, .int (nI goal)), (3, .int 1), (4, .int (nI n)), (5, .int (nI c0))]) (st' := [.int ((64 * (nI n)) + (nI c0)), .ref 42]) (w' := w2) rfl ?_
              refine gd_if (by decide) ?_
              refine gd_r E K 3 (pc' := 127) (lv' := [(0, .ref 27), (1, .int (nI fr)), (2, .int (nI goal)), (3, .int 1), (4, .int (nI n)), (5, .int (nI c0))]) (st' := [.int (nI n), .int (nI c0), .ref 27, .int ((64 * (nI n)) + (nI c0)), .ref 42]) (w' := w2) rfl ?_
              refine gd_cV E hA (av := [.int (nI c0), .int (nI n)]) (rest := [.int ((64 * (nI n)) + (nI c0)), .ref 42]) (c2_canBe hinj w2 hK2 hT2 c0 n (by omega) h1 (by omega)) (K.1 127 (.invokevirtual 108, 0) rfl).1 ml_M_108 cv_M_canBe (by decide) (rfl) ⟨Nat.le_of_ble_eq_true rfl, Nat.le_of_ble_eq_true rfl⟩ ⟨Nat.zero_le _, Nat.zero_le _⟩ rfl (Nat.le_of_ble_eq_true rfl) ?_
              cases hb2 : gs_be S T cnt c0 n with
              | true =>
                refine gd_r E K 1 (pc' := if (gs_b (true)) = 0 then 137 else 133) (lv' := [(0, .ref 27), (1, .int (nI fr)), (2, .int (nI goal)), (3, .int 1), (4, .int (nI n)), (5, .int (nI c0))]) (st' := [.int ((64 * (nI n)) + (nI c0)), .ref 42]) (w' := w2) rfl ?_
                refine gd_if (by decide) ?_
                refine gd_r E K 2 (pc' := 138) (lv' := [(0, .ref 27), (1, .int (nI fr)), (2, .int (nI goal)), (3, .int 1), (4, .int (nI n)), (5, .int (nI c0))]) (st' := [.int 1, .int ((64 * (nI n)) + (nI c0)), .ref 42]) (w' := w2) rfl ?_
                refine gd_zast E (K.1 138 (.bastore, 0) rfl).1 (j := 64 * n + c0) (by decide) (rfl) (by rw [show (64 : Int32) = nI 64 from rfl, pk_mul, nI_add]) (by omega) (by decide) (by decide) ?_
                refine gd_r E K 2 (pc' := 92) (lv' := [(0, .ref 27), (1, .int (nI fr)), (2, .int (nI goal)), (3, .int 1), (4, .int (nI n)), (5, .int ((nI c0) + 1))]) (st' := []) (w' := gd_rI w2 42 (upd (w2.1 42) (64 * n + c0) 1)) rfl ?_
                exact gd_cg (ih2 (c0 + 1) _ (by omega) (gs_rj_step hj (by omega) (by rw [hR2, hx, hb2]; rfl))) (by rw [nI_1]) rfl rfl
              | false =>
                refine gd_r E K 1 (pc' := if (gs_b (false)) = 0 then 137 else 133) (lv' := [(0, .ref 27), (1, .int (nI fr)), (2, .int (nI goal)), (3, .int 1), (4, .int (nI n)), (5, .int (nI c0))]) (st' := [.int ((64 * (nI n)) + (nI c0)), .ref 42]) (w' := w2) rfl ?_
                refine gd_it (by decide) ?_
                refine gd_r E K 1 (pc' := 138) (lv' := [(0, .ref 27), (1, .int (nI fr)), (2, .int (nI goal)), (3, .int 1), (4, .int (nI n)), (5, .int (nI c0))]) (st' := [.int 0, .int ((64 * (nI n)) + (nI c0)), .ref 42]) (w' := w2) rfl ?_
                refine gd_zast E (K.1 138 (.bastore, 0) rfl).1 (j := 64 * n + c0) (by decide) (rfl) (by rw [show (64 : Int32) = nI 64 from rfl, pk_mul, nI_add]) (by omega) (by decide) (by decide) ?_
                refine gd_r E K 2 (pc' := 92) (lv' := [(0, .ref 27), (1, .int (nI fr)), (2, .int (nI goal)), (3, .int 1), (4, .int (nI n)), (5, .int ((nI c0) + 1))]) (st' := []) (w' := gd_rI w2 42 (upd (w2.1 42) (64 * n + c0) 0)) rfl ?_
                exact gd_cg (ih2 (c0 + 1) _ (by omega) (gs_rj_step hj (by omega) (by rw [hR2, hx, hb2]; rfl))) (by rw [nI_1]) rfl rfl
            | false =>
              refine gd_r E K 1 (pc' := if (gs_b (false)) = 0 then 137 else 122) (lv' := [(0, .ref 27), (1, .int (nI fr)), (2, .int (nI goal)), (3, .int 1), (4, .int (nI n)), (5, .int (nI c0))]) (st' := [.int ((64 * (nI n)) + (nI c0)), .ref 42]) (w' := w2) rfl ?_
              refine gd_it (by decide) ?_
              refine gd_r E K 1 (pc' := 138) (lv' := [(0, .ref 27), (1, .int (nI fr)), (2, .int (nI goal)), (3, .int 1), (4, .int (nI n)), (5, .int (nI c0))]) (st' := [.int 0, .int ((64 * (nI n)) + (nI c0)), .ref 42]) (w' := w2) rfl ?_
              refine gd_zast E (K.1 138 (.bastore, 0) rfl).1 (j := 64 * n + c0) (by decide) (rfl) (by rw [show (64 : Int32) = nI 64 from rfl, pk_mul, nI_add]) (by omega) (by decide) (by decide) ?_
              refine gd_r E K 2 (pc' := 92) (lv' := [(0, .ref 27), (1, .int (nI fr)), (2, .int (nI goal)), (3, .int 1), (4, .int (nI n)), (5, .int ((nI c0) + 1))]) (st' := []) (w' := gd_rI w2 42 (upd (w2.1 42) (64 * n + c0) 0)) rfl ?_
              exact gd_cg (ih2 (c0 + 1) _ (by omega) (gs_rj_step hj (by omega) (by rw [hR2, hx, Bool.false_and]; rfl))) (by rw [nI_1]) rfl rfl
        exact gd_cg (inner 64 0 w1 (by omega) ⟨hi, fun c hc => by omega⟩) rfl rfl rfl
  have zero : ∀ i c0 w1, c0 + i = 64 → gs_rj (gs_rch S T cnt fr) w w1 0 c0 → gd_G p l e (gd_rm 4 95) s m args below meth c D tC ad (gd_A ad 45 s.heap.size) 45 6 0 0 (MQ below (gd_Qp D tC ad 45 s.heap.size (fun r w' => r = some (.int (gm_nO (gs_way S T cnt fr goal true))) ∧ gf_r 42 w w' ∧ ∀ en, gs_way S T cnt fr goal true = some en → ∀ i, i < max en 1 → gs_blk w' 42 i 64 (gs_rch S T cnt fr i))) args s 0 0 (gd_A ad 45 s.heap.size)) 3 [(0, .ref 27), (1, .int (nI fr)), (2, .int (nI goal)), (3, .int 1), (4, .int (nI c0))] [] w1 := by
    intro i
    induction i with
    | zero =>
      intro c0 w1 hc hj
      refine gd_r E K 2 (pc' := 7) (lv' := [(0, .ref 27), (1, .int (nI fr)), (2, .int (nI goal)), (3, .int 1), (4, .int (nI c0))]) (st' := [.int 64, .int (nI c0)]) (w' := w1) rfl ?_
      refine gd_r E K 1 (pc' := if 64 ≤ (nI c0) then 34 else 10) (lv' := [(0, .ref 27), (1, .int (nI fr)), (2, .int (nI goal)), (3, .int 1), (4, .int (nI c0))]) (st' := []) (w' := w1) rfl ?_
      refine gd_it (nI_le (show 64 ≤ c0 by omega) (by omega)) ?_
      have hi : gs_ri (gs_rch S T cnt fr) w w1 1 := gs_rj_end (by rw [show (64 : Nat) = c0 by omega]; exact hj)
      refine gd_r E K 4 (pc' := 58) (lv' := [(0, .ref 27), (1, .int (nI fr)), (2, .int (nI goal)), (3, .int 1), (4, .int 1)]) (st' := []) (w' := w1) rfl ?_
      exact gd_cg (loop 60 1 w1 (by omega) (by omega) hi (by rw [gs_way, if_neg (fun h => by cases h.1)])) rfl rfl rfl
    | succ i ih =>
      intro c0 w1 hc hj
      refine gd_r E K 2 (pc' := 7) (lv' := [(0, .ref 27), (1, .int (nI fr)), (2, .int (nI goal)), (3, .int 1), (4, .int (nI c0))]) (st' := [.int 64, .int (nI c0)]) (w' := w1) rfl ?_
      refine gd_r E K 1 (pc' := if 64 ≤ (nI c0) then 34 else 10) (lv' := [(0, .ref 27), (1, .int (nI fr)), (2, .int (nI goal)), (3, .int 1), (4, .int (nI c0))]) (st' := []) (w' := w1) rfl ?_
      refine gd_if (nI_ge (show c0 < 64 by omega) (by decide)) ?_
      refine gd_r E K 5 (pc' := 19) (lv' := [(0, .ref 27), (1, .int (nI fr)), (2, .int (nI goal)), (3, .int 1), (4, .int (nI c0))]) (st' := [.int (nI fr), .int (nI c0), .int (nI c0), .ref 42]) (w' := w1) rfl ?_
      by_cases hcf : c0 = fr
      · refine gd_r E K 1 (pc' := if (nI c0) = (nI fr) then 22 else 26) (lv' := [(0, .ref 27), (1, .int (nI fr)), (2, .int (nI goal)), (3, .int 1), (4, .int (nI c0))]) (st' := [.int (nI c0), .ref 42]) (w' := w1) rfl ?_
        refine gd_it (by rw [hcf]) ?_
        refine gd_r E K 2 (pc' := 27) (lv' := [(0, .ref 27), (1, .int (nI fr)), (2, .int (nI goal)), (3, .int 1), (4, .int (nI c0))]) (st' := [.int 1, .int (nI c0), .ref 42]) (w' := w1) rfl ?_
        refine gd_zast E (K.1 27 (.bastore, 0) rfl).1 (j := 64 * 0 + c0) (by decide) (rfl) (by rw [show 64 * 0 + c0 = c0 by omega]) (by omega) (by decide) (by decide) ?_
        refine gd_r E K 2 (pc' := 3) (lv' := [(0, .ref 27), (1, .int (nI fr)), (2, .int (nI goal)), (3, .int 1), (4, .int ((nI c0) + 1))]) (st' := []) (w' := gd_rI w1 42 (upd (w1.1 42) (64 * 0 + c0) 1)) rfl ?_
        exact gd_cg (ih (c0 + 1) _ (by omega) (gs_rj_step hj (by omega) (by rw [gs_rch, decide_eq_true hcf]; rfl))) (by rw [nI_1]) rfl rfl
      · refine gd_r E K 1 (pc' := if (nI c0) = (nI fr) then 22 else 26) (lv' := [(0, .ref 27), (1, .int (nI fr)), (2, .int (nI goal)), (3, .int 1), (4, .int (nI c0))]) (st' := [.int (nI c0), .ref 42]) (w' := w1) rfl ?_
        refine gd_if (by rw [nI_eq (by omega) (by omega)]; exact hcf) ?_
        refine gd_r E K 1 (pc' := 27) (lv' := [(0, .ref 27), (1, .int (nI fr)), (2, .int (nI goal)), (3, .int 1), (4, .int (nI c0))]) (st' := [.int 0, .int (nI c0), .ref 42]) (w' := w1) rfl ?_
        refine gd_zast E (K.1 27 (.bastore, 0) rfl).1 (j := 64 * 0 + c0) (by decide) (rfl) (by rw [show 64 * 0 + c0 = c0 by omega]) (by omega) (by decide) (by decide) ?_
        refine gd_r E K 2 (pc' := 3) (lv' := [(0, .ref 27), (1, .int (nI fr)), (2, .int (nI goal)), (3, .int 1), (4, .int ((nI c0) + 1))]) (st' := []) (w' := gd_rI w1 42 (upd (w1.1 42) (64 * 0 + c0) 0)) rfl ?_
        exact gd_cg (ih (c0 + 1) _ (by omega) (gs_rj_step hj (by omega) (by rw [gs_rch, decide_eq_false hcf]; rfl))) (by rw [nI_1]) rfl rfl
  refine gd_r E K 2 (pc' := 3) (lv' := [(0, .ref 27), (1, .int (nI fr)), (2, .int (nI goal)), (3, .int 1), (4, .int 0)]) (st' := []) (w' := w) rfl ?_
  exact gd_cg (zero 64 0 w (by omega) (gs_ri_0 (gf_r.refl 42 w))) rfl rfl rfl
set_option maxRecDepth 100000 in
theorem c2_spreadS {l : Launch} {D : va_G} {tC : FieldType → ClassId} {ad : Nat → Nat} (hinj : ∀ i j, ad i = ad j → i = j) {S : gs_T} {cnt : Nat} {T : Nat → Nat → Option Nat} (w : gd_W) (hK : gs_KK w S) (hT : gs_tab w cnt T) (fr goal : Nat) (hf : fr < 64) (hg : goal < 64) : gd_Cp l D tC ad 45 4 95 y_M_spread c_M_spread 6 (some .int) [.ref 27, .int (nI fr), .int (nI goal), .int 0] w (fun r w' => r = some (.int (gm_nO (gs_way S T cnt fr goal false))) ∧ gf_r 42 w w' ∧ ∀ en, gs_way S T cnt fr goal false = some en → ∀ i, i < max en 1 → gs_blk w' 42 i 64 (gs_rch S T cnt fr i)) := by
  refine gd_Cp_of rfl hinj (Nat.le_of_ble_eq_true rfl) ?_
  intro p e s m args below meth c E hr hlk
  have K := k_M_spread
  have hA : ∀ q, gd_A ad 45 s.heap.size q → gd_A ad 45 s.heap.size q := fun _ h => h
  have loop : ∀ j n w1, n + j = 61 → 1 ≤ n → gs_ri (gs_rch S T cnt fr) w w1 n → gs_way S T cnt fr goal false = gs_fst (fun n => gs_nxt (gs_rch S T cnt fr) n goal && gs_end S T cnt goal n false) n j → gd_G p l e (gd_rm 4 95) s m args below meth c D tC ad (gd_A ad 45 s.heap.size) 45 6 0 0 (MQ below (gd_Qp D tC ad 45 s.heap.size (fun r w' => r = some (.int (gm_nO (gs_way S T cnt fr goal false))) ∧ gf_r 42 w w' ∧ ∀ en, gs_way S T cnt fr goal false = some en → ∀ i, i < max en 1 → gs_blk w' 42 i 64 (gs_rch S T cnt fr i))) args s 0 0 (gd_A ad 45 s.heap.size)) 58 [(0, .ref 27), (1, .int (nI fr)), (2, .int (nI goal)), (3, .int 0), (4, .int (nI n))] [] w1 := by
    intro j
    induction j with
    | zero =>
      intro n w1 hn h1 hi hres
      refine gd_r E K 2 (pc' := 62) (lv' := [(0, .ref 27), (1, .int (nI fr)), (2, .int (nI goal)), (3, .int 0), (4, .int (nI n))]) (st' := [.int 60, .int (nI n)]) (w' := w1) rfl ?_
      refine gd_r E K 1 (pc' := if 60 < (nI n) then 151 else 65) (lv' := [(0, .ref 27), (1, .int (nI fr)), (2, .int (nI goal)), (3, .int 0), (4, .int (nI n))]) (st' := []) (w' := w1) rfl ?_
      refine gd_it (nI_lt (show 60 < n by omega) (by omega)) ?_
      refine gd_r E K 1 (pc' := 152) (lv' := [(0, .ref 27), (1, .int (nI fr)), (2, .int (nI goal)), (3, .int 0), (4, .int (nI n))]) (st' := [.int (-1)]) (w' := w1) rfl ?_
      exact gd_iretp E hr hlk (K.1 152 (.ireturn, 0) rfl).1 (⟨by rw [hres]; rfl, hi.1, fun en he => by rw [hres] at he; cases he⟩)
    | succ j ih =>
      intro n w1 hn h1 hi hres
      have hK1 := hi.1.KK (by decide) hK
      have hT1 := hi.1.tab (by decide) (by decide) hT
      refine gd_r E K 2 (pc' := 62) (lv' := [(0, .ref 27), (1, .int (nI fr)), (2, .int (nI goal)), (3, .int 0), (4, .int (nI n))]) (st' := [.int 60, .int (nI n)]) (w' := w1) rfl ?_
      refine gd_r E K 1 (pc' := if 60 < (nI n) then 151 else 65) (lv' := [(0, .ref 27), (1, .int (nI fr)), (2, .int (nI goal)), (3, .int 0), (4, .int (nI n))]) (st' := []) (w' := w1) rfl ?_
      refine gd_if (nI_nlt (show n ≤ 60 by omega) (by decide)) ?_
      refine gd_r E K 3 (pc' := 69) (lv' := [(0, .ref 27), (1, .int (nI fr)), (2, .int (nI goal)), (3, .int 0), (4, .int (nI n))]) (st' := [.int (nI n), .int (nI goal), .ref 27]) (w' := w1) rfl ?_
      refine gd_cV E hA (av := [.int (nI goal), .int (nI n)]) (rest := []) (c2_isNext hinj w1 (gs_rch S T cnt fr (n - 1)) goal n hg h1 (by omega) (hi.2 (n - 1) (by omega))) (K.1 69 (.invokevirtual 105, 0) rfl).1 ml_M_105 cv_M_isNext (by decide) (rfl) ⟨Nat.le_of_ble_eq_true rfl, Nat.le_of_ble_eq_true rfl⟩ ⟨Nat.zero_le _, Nat.zero_le _⟩ rfl (Nat.le_of_ble_eq_true rfl) ?_
      refine gd_cg (lv' := [(0, .ref 27), (1, .int (nI fr)), (2, .int (nI goal)), (3, .int 0), (4, .int (nI n))]) (st' := [.int (gs_b (gs_nxt (gs_rch S T cnt fr) n goal))]) (w' := w1) ?_ (rfl) (rfl) (rfl)
      cases hnx : gs_nxt (gs_rch S T cnt fr) n goal with
      | true =>
        refine gd_r E K 1 (pc' := if (gs_b (true)) = 0 then 89 else 75) (lv' := [(0, .ref 27), (1, .int (nI fr)), (2, .int (nI goal)), (3, .int 0), (4, .int (nI n))]) (st' := []) (w' := w1) rfl ?_
        refine gd_if (by decide) ?_
        refine gd_r E K 4 (pc' := 80) (lv' := [(0, .ref 27), (1, .int (nI fr)), (2, .int (nI goal)), (3, .int 0), (4, .int (nI n))]) (st' := [.int 0, .int (nI n), .int (nI goal), .ref 27]) (w' := w1) rfl ?_
        refine gd_cV E hA (av := [.int (nI goal), .int (nI n), .int 0]) (rest := []) (c2_canEndS hinj w1 hK1 hT1 goal n hg (by omega)) (K.1 80 (.invokevirtual 101, 0) rfl).1 ml_M_101 cv_M_canEnd (by decide) (rfl) ⟨Nat.le_of_ble_eq_true rfl, Nat.le_of_ble_eq_true rfl⟩ ⟨Nat.zero_le _, Nat.zero_le _⟩ rfl (Nat.le_of_ble_eq_true rfl) ?_
        cases hen : gs_end S T cnt goal n false with
        | true =>
          refine gd_r E K 1 (pc' := if (gs_b (true)) = 0 then 89 else 86) (lv' := [(0, .ref 27), (1, .int (nI fr)), (2, .int (nI goal)), (3, .int 0), (4, .int (nI n))]) (st' := []) (w' := w1) rfl ?_
          refine gd_if (by decide) ?_
          refine gd_r E K 1 (pc' := 88) (lv' := [(0, .ref 27), (1, .int (nI fr)), (2, .int (nI goal)), (3, .int 0), (4, .int (nI n))]) (st' := [.int (nI n)]) (w' := w1) rfl ?_
          have hfin : gs_way S T cnt fr goal false = some n := by rw [hres, gs_fst, if_pos (by rw [hnx, hen]; rfl)]
          exact gd_iretp E hr hlk (K.1 88 (.ireturn, 0) rfl).1 (⟨by rw [hfin]; rfl, hi.1, fun en he i hi2 => by rw [hfin] at he; cases he; exact hi.2 i (by omega)⟩)
        | false =>
          refine gd_r E K 1 (pc' := if (gs_b (false)) = 0 then 89 else 86) (lv' := [(0, .ref 27), (1, .int (nI fr)), (2, .int (nI goal)), (3, .int 0), (4, .int (nI n))]) (st' := []) (w' := w1) rfl ?_
          refine gd_it (by decide) ?_
          refine gd_r E K 2 (pc' := 92) (lv' := [(0, .ref 27), (1, .int (nI fr)), (2, .int (nI goal)), (3, .int 0), (4, .int (nI n)), (5, .int 0)]) (st' := []) (w' := w1) rfl ?_
          have inner : ∀ i c0 w2, c0 + i = 64 → gs_rj (gs_rch S T cnt fr) w w2 n c0 → gd_G p l e (gd_rm 4 95) s m args below meth c D tC ad (gd_A ad 45 s.heap.size) 45 6 0 0 (MQ below (gd_Qp D tC ad 45 s.heap.size (fun r w' => r = some (.int (gm_nO (gs_way S T cnt fr goal false))) ∧ gf_r 42 w w' ∧ ∀ en, gs_way S T cnt fr goal false = some en → ∀ i, i < max en 1 → gs_blk w' 42 i 64 (gs_rch S T cnt fr i))) args s 0 0 (gd_A ad 45 s.heap.size)) 92 [(0, .ref 27), (1, .int (nI fr)), (2, .int (nI goal)), (3, .int 0), (4, .int (nI n)), (5, .int (nI c0))] [] w2 := by
            intro i
            induction i with
            | zero =>
              intro c0 w2 hc hj
              refine gd_r E K 2 (pc' := 96) (lv' := [(0, .ref 27), (1, .int (nI fr)), (2, .int (nI goal)), (3, .int 0), (4, .int (nI n)), (5, .int (nI c0))]) (st' := [.int 64, .int (nI c0)]) (w' := w2) rfl ?_
              refine gd_r E K 1 (pc' := if 64 ≤ (nI c0) then 145 else 99) (lv' := [(0, .ref 27), (1, .int (nI fr)), (2, .int (nI goal)), (3, .int 0), (4, .int (nI n)), (5, .int (nI c0))]) (st' := []) (w' := w2) rfl ?_
              refine gd_it (nI_le (show 64 ≤ c0 by omega) (by omega)) ?_
              refine gd_r E K 2 (pc' := 58) (lv' := [(0, .ref 27), (1, .int (nI fr)), (2, .int (nI goal)), (3, .int 0), (4, .int ((nI n) + 1)), (5, .int (nI c0))]) (st' := []) (w' := w2) rfl ?_
              refine gd_lvp [0, 1, 2, 3, 4] (lv' := [(0, .ref 27), (1, .int (nI fr)), (2, .int (nI goal)), (3, .int 0), (4, .int ((nI n) + 1))]) rfl ?_
              exact gd_cg (ih (n + 1) w2 (by omega) (by omega) (gs_rj_end (by rw [show (64 : Nat) = c0 by omega]; exact hj)) (by rw [hres, gs_fst, if_neg (by rw [hnx, hen]; simp)])) (by rw [nI_1]) rfl rfl
            | succ i ih2 =>
              intro c0 w2 hc hj
              have hK2 := hj.1.1.KK (by decide) hK
              have hT2 := hj.1.1.tab (by decide) (by decide) hT
              have hR2 : gs_rch S T cnt fr n c0 = (gs_any (fun k => gs_atO (gs_rch S T cnt fr (n - 1)) (gm_mv c0 k)) 5 && gs_be S T cnt c0 n) := by
                obtain ⟨n0, rfl⟩ : ∃ n0, n = n0 + 1 := ⟨n - 1, by omega⟩
                rfl
              refine gd_r E K 2 (pc' := 96) (lv' := [(0, .ref 27), (1, .int (nI fr)), (2, .int (nI goal)), (3, .int 0), (4, .int (nI n)), (5, .int (nI c0))]) (st' := [.int 64, .int (nI c0)]) (w' := w2) rfl ?_
              refine gd_r E K 1 (pc' := if 64 ≤ (nI c0) then 145 else 99) (lv' := [(0, .ref 27), (1, .int (nI fr)), (2, .int (nI goal)), (3, .int 0), (4, .int (nI n)), (5, .int (nI c0))]) (st' := []) (w' := w2) rfl ?_
              refine gd_if (nI_ge (show c0 < 64 by omega) (by decide)) ?_
              refine gd_r E K 10 (pc' := 116) (lv' := [(0, .ref 27), (1, .int (nI fr)), (2, .int (nI goal)), (3, .int 0), (4, .int (nI n)), (5, .int (nI c0))]) (st' := [.int (nI n), .int (nI c0), .ref 27, .int ((64 * (nI n)) + (nI c0)), .ref 42]) (w' := w2) rfl ?_
              refine gd_cV E hA (av := [.int (nI c0), .int (nI n)]) (rest := [.int ((64 * (nI n)) + (nI c0)), .ref 42]) (c2_isNext hinj w2 (gs_rch S T cnt fr (n - 1)) c0 n (by omega) h1 (by omega) (hj.1.2 (n - 1) (by omega))) (K.1 116 (.invokevirtual 105, 0) rfl).1 ml_M_105 cv_M_isNext (by decide) (rfl) ⟨Nat.le_of_ble_eq_true rfl, Nat.le_of_ble_eq_true rfl⟩ ⟨Nat.zero_le _, Nat.zero_le _⟩ rfl (Nat.le_of_ble_eq_true rfl) ?_
              cases hx : gs_any (fun k => gs_atO (gs_rch S T cnt fr (n - 1)) (gm_mv c0 k)) 5 with
              | true =>
                refine gd_r E K 1 (pc' := if (gs_b (true)) = 0 then 137 else 122) (lv' := [(0, .ref 27), (1, .int (nI fr)), (2, .int (nI goal)), (3, .int 0), (4, .int (nI n)), (5, .int (nI c0))]) (st' := [.int ((64 * (nI n)) + (nI c0)), .ref 42]) (w' := w2) rfl ?_
                refine gd_if (by decide) ?_
                refine gd_r E K 3 (pc' := 127) (lv' := [(0, .ref 27), (1, .int (nI fr)), (2, .int (nI goal)), (3, .int 0), (4, .int (nI n)), (5, .int (nI c0))]) (st' := [.int (nI n), .int (nI c0), .ref 27, .int ((64 * (nI n)) + (nI c0)), .ref 42]) (w' := w2) rfl ?_
                refine gd_cV E hA (av := [.int (nI c0), .int (nI n)]) (rest := [.int ((64 * (nI n)) + (nI c0)), .ref 42]) (c2_canBe hinj w2 hK2 hT2 c0 n (by omega) h1 (by omega)) (K.1 127 (.invokevirtual 108, 0) rfl).1 ml_M_108 cv_M_canBe (by decide) (rfl) ⟨Nat.le_of_ble_eq_true rfl, Nat.le_of_ble_eq_true rfl⟩ ⟨Nat.zero_le _, Nat.zero_le _⟩ rfl (Nat.le_of_ble_eq_true rfl) ?_
                cases hb2 : gs_be S T cnt c0 n with
                | true =>
                  refine gd_r E K 1 (pc' := if (gs_b (true)) = 0 then 137 else 133) (lv' := [(0, .ref 27), (1, .int (nI fr)), (2, .int (nI goal)), (3, .int 0), (4, .int (nI n)), (5, .int (nI c0))]) (st' := [.int ((64 * (nI n)) + (nI c0)), .ref 42]) (w' := w2) rfl ?_
                  refine gd_if (by decide) ?_
                  refine gd_r E K 2 (pc' := 138) (lv' := [(0, .ref 27), (1, .int (nI fr)), (2, .int (nI goal)), (3, .int 0), (4, .int (nI n)), (5, .int (nI c0))]) (st' := [.int 1, .int ((64 * (nI n)) + (nI c0)), .ref 42]) (w' := w2) rfl ?_
                  refine gd_zast E (K.1 138 (.bastore, 0) rfl).1 (j := 64 * n + c0) (by decide) (rfl) (by rw [show (64 : Int32) = nI 64 from rfl, pk_mul, nI_add]) (by omega) (by decide) (by decide) ?_
                  refine gd_r E K 2 (pc' := 92) (lv' := [(0, .ref 27), (1, .int (nI fr)), (2, .int (nI goal)), (3, .int 0), (4, .int (nI n)), (5, .int ((nI c0) + 1))]) (st' := []) (w' := gd_rI w2 42 (upd (w2.1 42) (64 * n + c0) 1)) rfl ?_
                  exact gd_cg (ih2 (c0 + 1) _ (by omega) (gs_rj_step hj (by omega) (by rw [hR2, hx, hb2]; rfl))) (by rw [nI_1]) rfl rfl
                | false =>
                  refine gd_r E K 1 (pc' := if (gs_b (false)) = 0 then 137 else 133) (lv' := [(0, .ref 27), (1, .int (nI fr)), (2, .int (nI goal)), (3, .int 0), (4, .int (nI n)), (5, .int (nI c0))]) (st' := [.int ((64 * (nI n)) + (nI c0)), .ref 42]) (w' := w2) rfl ?_
                  refine gd_it (by decide) ?_
                  refine gd_r E K 1 (pc' := 138) (lv' := [(0, .ref 27), (1, .int (nI fr)), (2, .int (nI goal)), (3, .int 0), (4, .int (nI n)), (5, .int (nI c0))]) (st' := [.int 0, .int ((64 * (nI n)) + (nI c0)), .ref 42]) (w' := w2) rfl ?_
                  refine gd_zast E (K.1 138 (.bastore, 0) rfl).1 (j := 64 * n + c0) (by decide) (rfl) (by rw [show (64 : Int32) = nI 64 from rfl, pk_mul, nI_add]) (by omega) (by decide) (by decide) ?_
                  refine gd_r E K 2 (pc' := 92) (lv' := [(0, .ref 27), (1, .int (nI fr)), (2, .int (nI goal)), (3, .int 0), (4, .int (nI n)), (5, .int ((nI c0) + 1))]) (st' := []) (w' := gd_rI w2 42 (upd (w2.1 42) (64 * n + c0) 0)) rfl ?_
                  exact gd_cg (ih2 (c0 + 1) _ (by omega) (gs_rj_step hj (by omega) (by rw [hR2, hx, hb2]; rfl))) (by rw [nI_1]) rfl rfl
              | false =>
                refine gd_r E K 1 (pc' := if (gs_b (false)) = 0 then 137 else 122) (lv' := [(0, .ref 27), (1, .int (nI fr)), (2, .int (nI goal)), (3, .int 0), (4, .int (nI n)), (5, .int (nI c0))]) (st' := [.int ((64 * (nI n)) + (nI c0)), .ref 42]) (w' := w2) rfl ?_
                refine gd_it (by decide) ?_
                refine gd_r E K 1 (pc' := 138) (lv' := [(0, .ref 27), (1, .int (nI fr)), (2, .int (nI goal)), (3, .int 0), (4, .int (nI n)), (5, .int (nI c0))]) (st' := [.int 0, .int ((64 * (nI n)) + (nI c0)), .ref 42]) (w' := w2) rfl ?_
                refine gd_zast E (K.1 138 (.bastore, 0) rfl).1 (j := 64 * n + c0) (by decide) (rfl) (by rw [show (64 : Int32) = nI 64 from rfl, pk_mul, nI_add]) (by omega) (by decide) (by decide) ?_
                refine gd_r E K 2 (pc' := 92) (lv' := [(0, .ref 27), (1, .int (nI fr)), (2, .int (nI goal)), (3, .int 0), (4, .int (nI n)), (5, .int ((nI c0) + 1))]) (st' := []) (w' := gd_rI w2 42 (upd (w2.1 42) (64 * n + c0) 0)) rfl ?_
                exact gd_cg (ih2 (c0 + 1) _ (by omega) (gs_rj_step hj (by omega) (by rw [hR2, hx, Bool.false_and]; rfl))) (by rw [nI_1]) rfl rfl
          exact gd_cg (inner 64 0 w1 (by omega) ⟨hi, fun c hc => by omega⟩) rfl rfl rfl
      | false =>
        refine gd_r E K 1 (pc' := if (gs_b (false)) = 0 then 89 else 75) (lv' := [(0, .ref 27), (1, .int (nI fr)), (2, .int (nI goal)), (3, .int 0), (4, .int (nI n))]) (st' := []) (w' := w1) rfl ?_
        refine gd_it (by decide) ?_
        refine gd_r E K 2 (pc' := 92) (lv' := [(0, .ref 27), (1, .int (nI fr)), (2, .int (nI goal)), (3, .int 0), (4, .int (nI n)), (5, .int 0)]) (st' := []) (w' := w1) rfl ?_
        have inner : ∀ i c0 w2, c0 + i = 64 → gs_rj (gs_rch S T cnt fr) w w2 n c0 → gd_G p l e (gd_rm 4 95) s m args below meth c D tC ad (gd_A ad 45 s.heap.size) 45 6 0 0 (MQ below (gd_Qp D tC ad 45 s.heap.size (fun r w' => r = some (.int (gm_nO (gs_way S T cnt fr goal false))) ∧ gf_r 42 w w' ∧ ∀ en, gs_way S T cnt fr goal false = some en → ∀ i, i < max en 1 → gs_blk w' 42 i 64 (gs_rch S T cnt fr i))) args s 0 0 (gd_A ad 45 s.heap.size)) 92 [(0, .ref 27), (1, .int (nI fr)), (2, .int (nI goal)), (3, .int 0), (4, .int (nI n)), (5, .int (nI c0))] [] w2 := by
          intro i
          induction i with
          | zero =>
            intro c0 w2 hc hj
            refine gd_r E K 2 (pc' := 96) (lv' := [(0, .ref 27), (1, .int (nI fr)), (2, .int (nI goal)), (3, .int 0), (4, .int (nI n)), (5, .int (nI c0))]) (st' := [.int 64, .int (nI c0)]) (w' := w2) rfl ?_
            refine gd_r E K 1 (pc' := if 64 ≤ (nI c0) then 145 else 99) (lv' := [(0, .ref 27), (1, .int (nI fr)), (2, .int (nI goal)), (3, .int 0), (4, .int (nI n)), (5, .int (nI c0))]) (st' := []) (w' := w2) rfl ?_
            refine gd_it (nI_le (show 64 ≤ c0 by omega) (by omega)) ?_
            refine gd_r E K 2 (pc' := 58) (lv' := [(0, .ref 27), (1, .int (nI fr)), (2, .int (nI goal)), (3, .int 0), (4, .int ((nI n) + 1)), (5, .int (nI c0))]) (st' := []) (w' := w2) rfl ?_
            refine gd_lvp [0, 1, 2, 3, 4] (lv' := [(0, .ref 27), (1, .int (nI fr)), (2, .int (nI goal)), (3, .int 0), (4, .int ((nI n) + 1))]) rfl ?_
            exact gd_cg (ih (n + 1) w2 (by omega) (by omega) (gs_rj_end (by rw [show (64 : Nat) = c0 by omega]; exact hj)) (by rw [hres, gs_fst, if_neg (by rw [hnx]; simp)])) (by rw [nI_1]) rfl rfl
          | succ i ih2 =>
            intro c0 w2 hc hj
            have hK2 := hj.1.1.KK (by decide) hK
            have hT2 := hj.1.1.tab (by decide) (by decide) hT
            have hR2 : gs_rch S T cnt fr n c0 = (gs_any (fun k => gs_atO (gs_rch S T cnt fr (n - 1)) (gm_mv c0 k)) 5 && gs_be S T cnt c0 n) := by
              obtain ⟨n0, rfl⟩ : ∃ n0, n = n0 + 1 := ⟨n - 1, by omega⟩
              rfl
            refine gd_r E K 2 (pc' := 96) (lv' := [(0, .ref 27), (1, .int (nI fr)), (2, .int (nI goal)), (3, .int 0), (4, .int (nI n)), (5, .int (nI c0))]) (st' := [.int 64, .int (nI c0)]) (w' := w2) rfl ?_
            refine gd_r E K 1 (pc' := if 64 ≤ (nI c0) then 145 else 99) (lv' := [(0, .ref 27), (1, .int (nI fr)), (2, .int (nI goal)), (3, .int 0), (4, .int (nI n)), (5, .int (nI c0))]) (st' := []) (w' := w2) rfl ?_
            refine gd_if (nI_ge (show c0 < 64 by omega) (by decide)) ?_
            refine gd_r E K 10 (pc' := 116) (lv' := [(0, .ref 27), (1, .int (nI fr)), (2, .int (nI goal)), (3, .int 0), (4, .int (nI n)), (5, .int (nI c0))]) (st' := [.int (nI n), .int (nI c0), .ref 27, .int ((64 * (nI n)) + (nI c0)), .ref 42]) (w' := w2) rfl ?_
            refine gd_cV E hA (av := [.int (nI c0), .int (nI n)]) (rest := [.int ((64 * (nI n)) + (nI c0)), .ref 42]) (c2_isNext hinj w2 (gs_rch S T cnt fr (n - 1)) c0 n (by omega) h1 (by omega) (hj.1.2 (n - 1) (by omega))) (K.1 116 (.invokevirtual 105, 0) rfl).1 ml_M_105 cv_M_isNext (by decide) (rfl) ⟨Nat.le_of_ble_eq_true rfl, Nat.le_of_ble_eq_true rfl⟩ ⟨Nat.zero_le _, Nat.zero_le _⟩ rfl (Nat.le_of_ble_eq_true rfl) ?_
            cases hx : gs_any (fun k => gs_atO (gs_rch S T cnt fr (n - 1)) (gm_mv c0 k)) 5 with
            | true =>
              refine gd_r E K 1 (pc' := if (gs_b (true)) = 0 then 137 else 122) (lv' := [(0, .ref 27), (1, .int (nI fr)), (2, .int (nI goal)), (3, .int 0), (4, .int (nI n)), (5, .int (nI c0))]) (st' := [.int ((64 * (nI n)) + (nI c0)), .ref 42]) (w' := w2) rfl ?_
              refine gd_if (by decide) ?_
              refine gd_r E K 3 (pc' := 127) (lv' := [(0, .ref 27), (1, .int (nI fr)), (2, .int (nI goal)), (3, .int 0), (4, .int (nI n)), (5, .int (nI c0))]) (st' := [.int (nI n), .int (nI c0), .ref 27, .int ((64 * (nI n)) + (nI c0)), .ref 42]) (w' := w2) rfl ?_
              refine gd_cV E hA (av := [.int (nI c0), .int (nI n)]) (rest := [.int ((64 * (nI n)) + (nI c0)), .ref 42]) (c2_canBe hinj w2 hK2 hT2 c0 n (by omega) h1 (by omega)) (K.1 127 (.invokevirtual 108, 0) rfl).1 ml_M_108 cv_M_canBe (by decide) (rfl) ⟨Nat.le_of_ble_eq_true rfl, Nat.le_of_ble_eq_true rfl⟩ ⟨Nat.zero_le _, Nat.zero_le _⟩ rfl (Nat.le_of_ble_eq_true rfl) ?_
              cases hb2 : gs_be S T cnt c0 n with
              | true =>
                refine gd_r E K 1 (pc' := if (gs_b (true)) = 0 then 137 else 133) (lv' := [(0, .ref 27), (1, .int (nI fr)), (2, .int (nI goal)), (3, .int 0), (4, .int (nI n)), (5, .int (nI c0))]) (st' := [.int ((64 * (nI n)) + (nI c0)), .ref 42]) (w' := w2) rfl ?_
                refine gd_if (by decide) ?_
                refine gd_r E K 2 (pc' := 138) (lv' := [(0, .ref 27), (1, .int (nI fr)), (2, .int (nI goal)), (3, .int 0), (4, .int (nI n)), (5, .int (nI c0))]) (st' := [.int 1, .int ((64 * (nI n)) + (nI c0)), .ref 42]) (w' := w2) rfl ?_
                refine gd_zast E (K.1 138 (.bastore, 0) rfl).1 (j := 64 * n + c0) (by decide) (rfl) (by rw [show (64 : Int32) = nI 64 from rfl, pk_mul, nI_add]) (by omega) (by decide) (by decide) ?_
                refine gd_r E K 2 (pc' := 92) (lv' := [(0, .ref 27), (1, .int (nI fr)), (2, .int (nI goal)), (3, .int 0), (4, .int (nI n)), (5, .int ((nI c0) + 1))]) (st' := []) (w' := gd_rI w2 42 (upd (w2.1 42) (64 * n + c0) 1)) rfl ?_
                exact gd_cg (ih2 (c0 + 1) _ (by omega) (gs_rj_step hj (by omega) (by rw [hR2, hx, hb2]; rfl))) (by rw [nI_1]) rfl rfl
              | false =>
                refine gd_r E K 1 (pc' := if (gs_b (false)) = 0 then 137 else 133) (lv' := [(0, .ref 27), (1, .int (nI fr)), (2, .int (nI goal)), (3, .int 0), (4, .int (nI n)), (5, .int (nI c0))]) (st' := [.int ((64 * (nI n)) + (nI c0)), .ref 42]) (w' := w2) rfl ?_
                refine gd_it (by decide) ?_
                refine gd_r E K 1 (pc' := 138) (lv' := [(0, .ref 27), (1, .int (nI fr)), (2, .int (nI goal)), (3, .int 0), (4, .int (nI n)), (5, .int (nI c0))]) (st' := [.int 0, .int ((64 * (nI n)) + (nI c0)), .ref 42]) (w' := w2) rfl ?_
                refine gd_zast E (K.1 138 (.bastore, 0) rfl).1 (j := 64 * n + c0) (by decide) (rfl) (by rw [show (64 : Int32) = nI 64 from rfl, pk_mul, nI_add]) (by omega) (by decide) (by decide) ?_
                refine gd_r E K 2 (pc' := 92) (lv' := [(0, .ref 27), (1, .int (nI fr)), (2, .int (nI goal)), (3, .int 0), (4, .int (nI n)), (5, .int ((nI c0) + 1))]) (st' := []) (w' := gd_rI w2 42 (upd (w2.1 42) (64 * n + c0) 0)) rfl ?_
                exact gd_cg (ih2 (c0 + 1) _ (by omega) (gs_rj_step hj (by omega) (by rw [hR2, hx, hb2]; rfl))) (by rw [nI_1]) rfl rfl
            | false =>
              refine gd_r E K 1 (pc' := if (gs_b (false)) = 0 then 137 else 122) (lv' := [(0, .ref 27), (1, .int (nI fr)), (2, .int (nI goal)), (3, .int 0), (4, .int (nI n)), (5, .int (nI c0))]) (st' := [.int ((64 * (nI n)) + (nI c0)), .ref 42]) (w' := w2) rfl ?_
              refine gd_it (by decide) ?_
              refine gd_r E K 1 (pc' := 138) (lv' := [(0, .ref 27), (1, .int (nI fr)), (2, .int (nI goal)), (3, .int 0), (4, .int (nI n)), (5, .int (nI c0))]) (st' := [.int 0, .int ((64 * (nI n)) + (nI c0)), .ref 42]) (w' := w2) rfl ?_
              refine gd_zast E (K.1 138 (.bastore, 0) rfl).1 (j := 64 * n + c0) (by decide) (rfl) (by rw [show (64 : Int32) = nI 64 from rfl, pk_mul, nI_add]) (by omega) (by decide) (by decide) ?_
              refine gd_r E K 2 (pc' := 92) (lv' := [(0, .ref 27), (1, .int (nI fr)), (2, .int (nI goal)), (3, .int 0), (4, .int (nI n)), (5, .int ((nI c0) + 1))]) (st' := []) (w' := gd_rI w2 42 (upd (w2.1 42) (64 * n + c0) 0)) rfl ?_
              exact gd_cg (ih2 (c0 + 1) _ (by omega) (gs_rj_step hj (by omega) (by rw [hR2, hx, Bool.false_and]; rfl))) (by rw [nI_1]) rfl rfl
        exact gd_cg (inner 64 0 w1 (by omega) ⟨hi, fun c hc => by omega⟩) rfl rfl rfl
  have zero : ∀ i c0 w1, c0 + i = 64 → gs_rj (gs_rch S T cnt fr) w w1 0 c0 → gd_G p l e (gd_rm 4 95) s m args below meth c D tC ad (gd_A ad 45 s.heap.size) 45 6 0 0 (MQ below (gd_Qp D tC ad 45 s.heap.size (fun r w' => r = some (.int (gm_nO (gs_way S T cnt fr goal false))) ∧ gf_r 42 w w' ∧ ∀ en, gs_way S T cnt fr goal false = some en → ∀ i, i < max en 1 → gs_blk w' 42 i 64 (gs_rch S T cnt fr i))) args s 0 0 (gd_A ad 45 s.heap.size)) 3 [(0, .ref 27), (1, .int (nI fr)), (2, .int (nI goal)), (3, .int 0), (4, .int (nI c0))] [] w1 := by
    intro i
    induction i with
    | zero =>
      intro c0 w1 hc hj
      refine gd_r E K 2 (pc' := 7) (lv' := [(0, .ref 27), (1, .int (nI fr)), (2, .int (nI goal)), (3, .int 0), (4, .int (nI c0))]) (st' := [.int 64, .int (nI c0)]) (w' := w1) rfl ?_
      refine gd_r E K 1 (pc' := if 64 ≤ (nI c0) then 34 else 10) (lv' := [(0, .ref 27), (1, .int (nI fr)), (2, .int (nI goal)), (3, .int 0), (4, .int (nI c0))]) (st' := []) (w' := w1) rfl ?_
      refine gd_it (nI_le (show 64 ≤ c0 by omega) (by omega)) ?_
      have hi : gs_ri (gs_rch S T cnt fr) w w1 1 := gs_rj_end (by rw [show (64 : Nat) = c0 by omega]; exact hj)
      refine gd_r E K 4 (pc' := 40) (lv' := [(0, .ref 27), (1, .int (nI fr)), (2, .int (nI goal)), (3, .int 0), (4, .int (nI c0))]) (st' := [.int (nI goal), .int (nI fr)]) (w' := w1) rfl ?_
      by_cases hfg : fr = goal
      · refine gd_r E K 1 (pc' := if (nI fr) = (nI goal) then 43 else 55) (lv' := [(0, .ref 27), (1, .int (nI fr)), (2, .int (nI goal)), (3, .int 0), (4, .int (nI c0))]) (st' := []) (w' := w1) rfl ?_
        refine gd_it (by rw [hfg]) ?_
        refine gd_r E K 4 (pc' := 47) (lv' := [(0, .ref 27), (1, .int (nI fr)), (2, .int (nI goal)), (3, .int 0), (4, .int (nI c0))]) (st' := [.int 0, .int 0, .int (nI goal), .ref 27]) (w' := w1) rfl ?_
        refine gd_cg (lv' := [(0, .ref 27), (1, .int (nI fr)), (2, .int (nI goal)), (3, .int 0), (4, .int (nI c0))]) (st' := [.int 0, .int (nI 0), .int (nI goal), .ref 27]) (w' := w1) ?_ (rfl) (rfl) (rfl)
        refine gd_cV E hA (av := [.int (nI goal), .int (nI 0), .int 0]) (rest := []) (c2_canEndS hinj w1 (hi.1.KK (by decide) hK) (hi.1.tab (by decide) (by decide) hT) goal 0 hg (by omega)) (K.1 47 (.invokevirtual 101, 0) rfl).1 ml_M_101 cv_M_canEnd (by decide) (rfl) ⟨Nat.le_of_ble_eq_true rfl, Nat.le_of_ble_eq_true rfl⟩ ⟨Nat.zero_le _, Nat.zero_le _⟩ rfl (Nat.le_of_ble_eq_true rfl) ?_
        cases hen : gs_end S T cnt goal 0 false with
        | true =>
          refine gd_r E K 1 (pc' := if (gs_b (true)) = 0 then 55 else 53) (lv' := [(0, .ref 27), (1, .int (nI fr)), (2, .int (nI goal)), (3, .int 0), (4, .int (nI c0))]) (st' := []) (w' := w1) rfl ?_
          refine gd_if (by decide) ?_
          refine gd_r E K 1 (pc' := 54) (lv' := [(0, .ref 27), (1, .int (nI fr)), (2, .int (nI goal)), (3, .int 0), (4, .int (nI c0))]) (st' := [.int 0]) (w' := w1) rfl ?_
          have hfin : gs_way S T cnt fr goal false = some 0 := by rw [gs_way, if_pos ⟨rfl, hfg, hen⟩]
          exact gd_iretp E hr hlk (K.1 54 (.ireturn, 0) rfl).1 (⟨by rw [hfin]; rfl, hi.1, fun en he i hi2 => by rw [hfin] at he; cases he; exact hi.2 i (by omega)⟩)
        | false =>
          refine gd_r E K 1 (pc' := if (gs_b (false)) = 0 then 55 else 53) (lv' := [(0, .ref 27), (1, .int (nI fr)), (2, .int (nI goal)), (3, .int 0), (4, .int (nI c0))]) (st' := []) (w' := w1) rfl ?_
          refine gd_it (by decide) ?_
          refine gd_r E K 2 (pc' := 58) (lv' := [(0, .ref 27), (1, .int (nI fr)), (2, .int (nI goal)), (3, .int 0), (4, .int 1)]) (st' := []) (w' := w1) rfl ?_
          exact gd_cg (loop 60 1 w1 (by omega) (by omega) hi (by rw [gs_way, if_neg (fun h => by rw [hen] at h; cases h.2.2)])) rfl rfl rfl
      · refine gd_r E K 1 (pc' := if (nI fr) = (nI goal) then 43 else 55) (lv' := [(0, .ref 27), (1, .int (nI fr)), (2, .int (nI goal)), (3, .int 0), (4, .int (nI c0))]) (st' := []) (w' := w1) rfl ?_
        refine gd_if (by rw [nI_eq (by omega) (by omega)]; exact hfg) ?_
        refine gd_r E K 2 (pc' := 58) (lv' := [(0, .ref 27), (1, .int (nI fr)), (2, .int (nI goal)), (3, .int 0), (4, .int 1)]) (st' := []) (w' := w1) rfl ?_
        exact gd_cg (loop 60 1 w1 (by omega) (by omega) hi (by rw [gs_way, if_neg (fun h => hfg h.2.1)])) rfl rfl rfl
    | succ i ih =>
      intro c0 w1 hc hj
      refine gd_r E K 2 (pc' := 7) (lv' := [(0, .ref 27), (1, .int (nI fr)), (2, .int (nI goal)), (3, .int 0), (4, .int (nI c0))]) (st' := [.int 64, .int (nI c0)]) (w' := w1) rfl ?_
      refine gd_r E K 1 (pc' := if 64 ≤ (nI c0) then 34 else 10) (lv' := [(0, .ref 27), (1, .int (nI fr)), (2, .int (nI goal)), (3, .int 0), (4, .int (nI c0))]) (st' := []) (w' := w1) rfl ?_
      refine gd_if (nI_ge (show c0 < 64 by omega) (by decide)) ?_
      refine gd_r E K 5 (pc' := 19) (lv' := [(0, .ref 27), (1, .int (nI fr)), (2, .int (nI goal)), (3, .int 0), (4, .int (nI c0))]) (st' := [.int (nI fr), .int (nI c0), .int (nI c0), .ref 42]) (w' := w1) rfl ?_
      by_cases hcf : c0 = fr
      · refine gd_r E K 1 (pc' := if (nI c0) = (nI fr) then 22 else 26) (lv' := [(0, .ref 27), (1, .int (nI fr)), (2, .int (nI goal)), (3, .int 0), (4, .int (nI c0))]) (st' := [.int (nI c0), .ref 42]) (w' := w1) rfl ?_
        refine gd_it (by rw [hcf]) ?_
        refine gd_r E K 2 (pc' := 27) (lv' := [(0, .ref 27), (1, .int (nI fr)), (2, .int (nI goal)), (3, .int 0), (4, .int (nI c0))]) (st' := [.int 1, .int (nI c0), .ref 42]) (w' := w1) rfl ?_
        refine gd_zast E (K.1 27 (.bastore, 0) rfl).1 (j := 64 * 0 + c0) (by decide) (rfl) (by rw [show 64 * 0 + c0 = c0 by omega]) (by omega) (by decide) (by decide) ?_
        refine gd_r E K 2 (pc' := 3) (lv' := [(0, .ref 27), (1, .int (nI fr)), (2, .int (nI goal)), (3, .int 0), (4, .int ((nI c0) + 1))]) (st' := []) (w' := gd_rI w1 42 (upd (w1.1 42) (64 * 0 + c0) 1)) rfl ?_
        exact gd_cg (ih (c0 + 1) _ (by omega) (gs_rj_step hj (by omega) (by rw [gs_rch, decide_eq_true hcf]; rfl))) (by rw [nI_1]) rfl rfl
      · refine gd_r E K 1 (pc' := if (nI c0) = (nI fr) then 22 else 26) (lv' := [(0, .ref 27), (1, .int (nI fr)), (2, .int (nI goal)), (3, .int 0), (4, .int (nI c0))]) (st' := [.int (nI c0), .ref 42]) (w' := w1) rfl ?_
        refine gd_if (by rw [nI_eq (by omega) (by omega)]; exact hcf) ?_
        refine gd_r E K 1 (pc' := 27) (lv' := [(0, .ref 27), (1, .int (nI fr)), (2, .int (nI goal)), (3, .int 0), (4, .int (nI c0))]) (st' := [.int 0, .int (nI c0), .ref 42]) (w' := w1) rfl ?_
        refine gd_zast E (K.1 27 (.bastore, 0) rfl).1 (j := 64 * 0 + c0) (by decide) (rfl) (by rw [show 64 * 0 + c0 = c0 by omega]) (by omega) (by decide) (by decide) ?_
        refine gd_r E K 2 (pc' := 3) (lv' := [(0, .ref 27), (1, .int (nI fr)), (2, .int (nI goal)), (3, .int 0), (4, .int ((nI c0) + 1))]) (st' := []) (w' := gd_rI w1 42 (upd (w1.1 42) (64 * 0 + c0) 0)) rfl ?_
        exact gd_cg (ih (c0 + 1) _ (by omega) (gs_rj_step hj (by omega) (by rw [gs_rch, decide_eq_false hcf]; rfl))) (by rw [nI_1]) rfl rfl
  refine gd_r E K 2 (pc' := 3) (lv' := [(0, .ref 27), (1, .int (nI fr)), (2, .int (nI goal)), (3, .int 0), (4, .int 0)]) (st' := []) (w' := w) rfl ?_
  exact gd_cg (zero 64 0 w (by omega) (gs_ri_0 (gf_r.refl 42 w))) rfl rfl rfl
