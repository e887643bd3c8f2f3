/-! The list of droplets. -/
def gc_L (w : gd_W) (S : gs_T) (A : Nat → Option Nat) (l : List Nat) (o : Nat → Nat) : Prop :=
  (w.1 2 1 = nI l.length ∧ l.length ≤ 6) ∧ (∀ i, i < 6 → w.2.2 3 i = some (4 + 3 * o i) ∧ o i < 6) ∧ (∀ i j, i < 6 → j < 6 → o i = o j → i = j) ∧ ∀ i d, l[i]? = some d → ∃ E, gr_E w S A (o i) d E
theorem gc_L.at {w : gd_W} {S : gs_T} {A : Nat → Option Nat} {l : List Nat} {o : Nat → Nat} (h : gc_L w S A l o) {i : Nat} (hi : i < l.length) : ∃ E, gr_E w S A (o i) l[i] E := h.2.2.2 i _ (List.getElem?_eq_getElem hi)
theorem va_up_s {f : Nat → Option Nat} {k : Nat} {x : Option Nat} : va_up f k x k = x := by simp [va_up]
theorem va_up_n {f : Nat → Option Nat} {k j : Nat} {x : Option Nat} (h : j ≠ k) : va_up f k x j = f j := by simp [va_up, h]
set_option maxRecDepth 100000 in
theorem c3_find {l : Launch} {D : va_G} {tC : FieldType → ClassId} {ad : Nat → Nat} (hinj : ∀ i j, ad i = ad j → i = j) {S : gs_T} {A : Nat → Option Nat} {l0 : List Nat} {o : Nat → Nat} (w : gd_W) (hL : gc_L w S A l0 o) (d : Int32) : gd_Cp l D tC ad 45 0 0 y_L_find c_L_find 3 (some (.object "GuardedDrops$Droplet")) [.ref 2, .int d] w (fun r w' => w = w' ∧ ((∃ i x, l0[i]? = some x ∧ d = nI x ∧ r = some (.ref (4 + 3 * o i))) ∨ ((∀ x, x ∈ l0 → d ≠ nI x) ∧ r = some .null))) := by
  refine gd_Cp_of rfl hinj (Nat.le_of_ble_eq_true rfl) ?_
  intro p e s m args below meth c E hr hlk
  have K := k_L_find
  have hA : ∀ q, gd_A ad 45 s.heap.size q → gd_A ad 45 s.heap.size q := fun _ h => h
  have loop : ∀ j i, i + j = l0.length → (∀ k x, k < i → l0[k]? = some x → d ≠ nI x) → gd_G p l e (gd_rm 0 0) s m args below meth c D tC ad (gd_A ad 45 s.heap.size) 45 3 0 0 (MQ below (gd_Qp D tC ad 45 s.heap.size (fun r w' => w = w' ∧ ((∃ i x, l0[i]? = some x ∧ d = nI x ∧ r = some (.ref (4 + 3 * o i))) ∨ ((∀ x, x ∈ l0 → d ≠ nI x) ∧ r = some .null)))) args s 0 0 (gd_A ad 45 s.heap.size)) 2 [(0, .ref 2), (1, .int d), (2, .int (nI i))] [] w := by
    intro j
    induction j with
    | zero =>
      intro i hi hno
      have h6 := hL.1.2
      refine gd_r E K 3 (pc' := 7) (lv' := [(0, .ref 2), (1, .int d), (2, .int (nI i))]) (st' := [.int (w.1 2 1), .int (nI i)]) (w' := w) rfl ?_
      refine gd_cg (lv' := [(0, .ref 2), (1, .int d), (2, .int (nI i))]) (st' := [.int (nI l0.length), .int (nI i)]) (w' := w) ?_ (rfl) (by simp only [hL.1.1]) rfl
      refine gd_r E K 1 (pc' := if (nI l0.length) ≤ (nI i) then 36 else 10) (lv' := [(0, .ref 2), (1, .int d), (2, .int (nI i))]) (st' := []) (w' := w) rfl ?_
      refine gd_it (nI_le (by omega) (by omega)) ?_
      refine gd_r E K 1 (pc' := 37) (lv' := [(0, .ref 2), (1, .int d), (2, .int (nI i))]) (st' := [.null]) (w' := w) rfl ?_
      exact gd_aretp E hr hlk (K.1 37 (.areturn, 0) rfl).1 (Or.inl rfl) (⟨rfl, Or.inr ⟨fun x hx => by obtain ⟨k, hk, e⟩ := List.getElem_of_mem hx; exact hno k x (by omega) (by rw [List.getElem?_eq_getElem hk, e]), rfl⟩⟩)
    | succ j ih =>
      intro i hi hno
      have h6 := hL.1.2
      obtain ⟨L1, L2⟩ := hL.2.1 i (by omega)
      obtain ⟨E1, hE1⟩ := hL.at (show i < l0.length by omega)
      have hg := List.getElem?_eq_getElem (show i < l0.length by omega)
      refine gd_r E K 3 (pc' := 7) (lv' := [(0, .ref 2), (1, .int d), (2, .int (nI i))]) (st' := [.int (w.1 2 1), .int (nI i)]) (w' := w) rfl ?_
      refine gd_cg (lv' := [(0, .ref 2), (1, .int d), (2, .int (nI i))]) (st' := [.int (nI l0.length), .int (nI i)]) (w' := w) ?_ (rfl) (by simp only [hL.1.1]) rfl
      refine gd_r E K 1 (pc' := if (nI l0.length) ≤ (nI i) then 36 else 10) (lv' := [(0, .ref 2), (1, .int d), (2, .int (nI i))]) (st' := []) (w' := w) rfl ?_
      refine gd_if (nI_ge (by omega) (by omega)) ?_
      refine gd_r E K 3 (pc' := 15) (lv' := [(0, .ref 2), (1, .int d), (2, .int (nI i))]) (st' := [.int (nI i), .ref 3]) (w' := w) rfl ?_
      refine gd_aald E (K.1 15 (.aaload, 0) rfl).1 (j := i) (q := 4 + 3 * (o i)) (by decide) rfl (rfl) (by omega) (by decide) (L1) ?_
      refine gd_getd E K (K.1 16 (.getfield 25, 0) rfl).1 rfl (by omega) (gd_shd L2) rfl (v := .int (nI l0[i])) (by show Value.int _ = Value.int _; rw [hE1.1.1]) ?_
      refine gd_r E K 1 (pc' := 20) (lv' := [(0, .ref 2), (1, .int d), (2, .int (nI i))]) (st' := [.int d, .int (nI l0[i])]) (w' := w) rfl ?_
      refine gd_r E K 1 (pc' := if (nI l0[i]) = d then 23 else 30) (lv' := [(0, .ref 2), (1, .int d), (2, .int (nI i))]) (st' := []) (w' := w) rfl ?_
      refine gd_ite (fun h1 => ?_) (fun h1 => ?_)
      · refine gd_r E K 3 (pc' := 28) (lv' := [(0, .ref 2), (1, .int d), (2, .int (nI i))]) (st' := [.int (nI i), .ref 3]) (w' := w) rfl ?_
        refine gd_aald E (K.1 28 (.aaload, 0) rfl).1 (j := i) (q := 4 + 3 * (o i)) (by decide) rfl (rfl) (by omega) (by decide) (L1) ?_
        exact gd_aretp E hr hlk (K.1 29 (.areturn, 0) rfl).1 (Or.inr ⟨_, rfl⟩) (⟨rfl, Or.inl ⟨i, l0[i], hg, h1.symm, rfl⟩⟩)
      · refine gd_r E K 2 (pc' := 2) (lv' := [(0, .ref 2), (1, .int d), (2, .int ((nI i) + 1))]) (st' := []) (w' := w) rfl ?_
        refine gd_cg (ih (i + 1) (by omega) (fun k x hk hx => ?_)) (by rw [nI_1]) rfl rfl
        by_cases e0 : k = i
        · subst e0; rw [hg] at hx; cases hx; exact fun e => h1 e.symm
        · exact hno k x (by omega) hx
  refine gd_r E K 2 (pc' := 2) (lv' := [(0, .ref 2), (1, .int d), (2, .int 0)]) (st' := []) (w' := w) rfl ?_
  exact gd_cg (loop l0.length 0 (by omega) (fun k x hk => by omega)) rfl rfl rfl
set_option maxRecDepth 100000 in
theorem c3_Ladd {l : Launch} {D : va_G} {tC : FieldType → ClassId} {ad : Nat → Nat} (hinj : ∀ i j, ad i = ad j → i = j) (w : gd_W) (n q mk : Nat) (hn : n < 6) (hq : q < 6) (h1 : w.1 2 1 = nI n) (h2 : w.1 2 2 = nI mk) (h3 : w.2.2 3 n = some (4 + 3 * q)) (c0 : Int32) : gd_Cp l D tC ad 45 1 22 y_L_add c_L_add 3 (some (.object "GuardedDrops$Droplet")) [.ref 2, .int c0] w (fun r w' => r = some (.ref (4 + 3 * q)) ∧ (∀ a, a ≠ 2 → a ≠ 4 + 3 * q → w'.1 a = w.1 a) ∧ w'.1 (4 + 3 * q) = gc_new (w.1 (4 + 3 * q)) (nI mk) c0 ∧ (∀ j, j ≠ 1 → j ≠ 2 → w'.1 2 j = w.1 2 j) ∧ w'.1 2 1 = nI (n + 1) ∧ w'.1 2 2 = nI (mk + 1) ∧ w'.2 = w.2) := by
  refine gd_Cp_of rfl hinj (Nat.le_of_ble_eq_true rfl) ?_
  intro p e s m args below meth c E hr hlk
  have K := k_L_add
  have hA : ∀ q, gd_A ad 45 s.heap.size q → gd_A ad 45 s.heap.size q := fun _ h => h
  refine gd_r E K 4 (pc' := 8) (lv' := [(0, .ref 2), (1, .int c0)]) (st' := [.int (w.1 2 1), .ref 3]) (w' := w) rfl ?_
  refine gd_cg (lv' := [(0, .ref 2), (1, .int c0)]) (st' := [.int (nI n), .ref 3]) (w' := w) ?_ (rfl) (by simp only [h1]) rfl
  refine gd_aald E (K.1 8 (.aaload, 0) rfl).1 (j := n) (q := 4 + 3 * q) (by decide) rfl (rfl) (hn) (by decide) (h3) ?_
  refine gd_r E K 4 (pc' := 15) (lv' := [(0, .ref 2), (1, .int c0), (2, .ref (4 + 3 * q))]) (st' := [.int (w.1 2 2), .ref (4 + 3 * q)]) (w' := w) rfl ?_
  refine gd_cg (lv' := [(0, .ref 2), (1, .int c0), (2, .ref (4 + 3 * q))]) (st' := [.int (nI mk), .ref (4 + 3 * q)]) (w' := w) ?_ (rfl) (by simp only [h2]) rfl
  refine gd_r E K 1 (pc' := 16) (lv' := [(0, .ref 2), (1, .int c0), (2, .ref (4 + 3 * q))]) (st' := [.int c0, .int (nI mk), .ref (4 + 3 * q)]) (w' := w) rfl ?_
  refine gd_cVp E hA (av := [.int (nI mk), .int c0]) (rest := []) (c3_come hinj w q hq (nI mk) c0) (K.1 16 (.invokevirtual 28, 0) rfl).1 ml_L_28 cv_D_comeToBe (by omega) (gd_shd hq) ⟨Nat.le_of_ble_eq_true rfl, Nat.le_of_ble_eq_true rfl⟩ ⟨Nat.zero_le _, Nat.zero_le _⟩ rfl (Nat.le_of_ble_eq_true rfl) (fun r9 w1 h9 => ?_)
  obtain ⟨rfl, rfl⟩ := h9
  have e1 : (gd_rI w (4 + 3 * q) (gc_new (w.1 (4 + 3 * q)) (nI mk) c0)).1 2 = w.1 2 := gd_rI_n (by omega)
  generalize hw1 : gd_rI w (4 + 3 * q) (gc_new (w.1 (4 + 3 * q)) (nI mk) c0) = w1 at e1
  refine gd_r E K 5 (pc' := 26) (lv' := [(0, .ref 2), (1, .int c0), (2, .ref (4 + 3 * q))]) (st' := [.int ((w1.1 2 1) + 1), .ref 2]) (w' := w1) rfl ?_
  refine gd_cg (lv' := [(0, .ref 2), (1, .int c0), (2, .ref (4 + 3 * q))]) (st' := [.int ((nI n) + 1), .ref 2]) (w' := w1) ?_ (rfl) (by simp only [show w1.1 2 1 = nI n by rw [e1]; exact h1]) rfl
  refine gd_r E K 6 (pc' := 36) (lv' := [(0, .ref 2), (1, .int c0), (2, .ref (4 + 3 * q))]) (st' := [.int ((w1.1 2 2) + 1), .ref 2]) (w' := gd_rI w1 2 (upd (w1.1 2) 1 ((nI n) + 1))) rfl ?_
  refine gd_cg (lv' := [(0, .ref 2), (1, .int c0), (2, .ref (4 + 3 * q))]) (st' := [.int ((nI mk) + 1), .ref 2]) (w' := gd_rI w1 2 (upd (w1.1 2) 1 ((nI n) + 1))) ?_ (rfl) (by simp only [show w1.1 2 2 = nI mk by rw [e1]; exact h2]) rfl
  refine gd_r E K 2 (pc' := 40) (lv' := [(0, .ref 2), (1, .int c0), (2, .ref (4 + 3 * q))]) (st' := [.ref (4 + 3 * q)]) (w' := gd_rI (gd_rI w1 2 (upd (w1.1 2) 1 ((nI n) + 1))) 2 (upd ((gd_rI w1 2 (upd (w1.1 2) 1 ((nI n) + 1))).1 2) 2 ((nI mk) + 1))) rfl ?_
  exact gd_aretp E hr hlk (K.1 40 (.areturn, 0) rfl).1 (Or.inr ⟨_, rfl⟩) (⟨rfl, fun a a1 a2 => by rw [gd_rI_n a1, gd_rI_n a1, ← hw1, gd_rI_n a2], by rw [gd_rI_n (by omega), gd_rI_n (by omega), ← hw1, gd_rI_s], fun j j1 j2 => by rw [gd_rI_s, gd_u_n j2, gd_rI_s, gd_u_n j1, e1], by rw [gd_rI_s, gd_u_n (by decide), gd_rI_s, gd_u_s, nI_1], by rw [gd_rI_s, gd_u_s, nI_1], by rw [← hw1]; rfl⟩)
/-- the list without its j0-th, which goes behind the others -/
def gc_rot (o : Nat → Nat) (j0 n i : Nat) : Nat := if i < j0 then o i else if i + 1 < n then o (i + 1) else if i + 1 = n then o j0 else o i
theorem gd_rI_1e {w1 w2 w : gd_W} {r : Nat → Nat → Option Nat} {k : Nat} {x : Int32} (_ : w2 = w) (h : w1.1 = w.1) : (gd_rI (w1.1, w1.2.1, r) k (upd (w1.1 k) 1 x)).1 = (gd_rI w k (upd (w.1 k) 1 x)).1 := by
  unfold gd_rI
  simp only [h]
theorem gc_rot_end {o : Nat → Nat} {f : Nat → Option Nat} {n j0 i k : Nat} (hj0 : j0 < n) (hk : k < 6) (hii : i = n) (h : ∀ k, k < 6 → f k = some (4 + 3 * (if j0 ≤ k ∧ k + 1 < i then o (k + 1) else o k))) : va_up f (n - 1) (some (4 + 3 * o j0)) k = some (4 + 3 * gc_rot o j0 n k) := by
  subst hii
  unfold gc_rot
  by_cases e : k = i - 1
  · subst e
    rw [va_up_s, if_neg (by omega), if_neg (by omega), if_pos (by omega)]
  · rw [va_up_n e, h k hk]
    by_cases e1 : k < j0
    · rw [if_neg (by omega), if_pos e1]
    · rw [if_neg e1]
      by_cases e2 : k + 1 < i
      · rw [if_pos ⟨by omega, e2⟩, if_pos e2]
      · rw [if_neg (by omega), if_neg e2, if_neg (by omega)]
set_option maxRecDepth 100000 in
theorem c3_remove {l : Launch} {D : va_G} {tC : FieldType → ClassId} {ad : Nat → Nat} (hinj : ∀ i j, ad i = ad j → i = j) (w : gd_W) (n j0 : Nat) (o : Nat → Nat) (hn : n ≤ 6) (hj0 : j0 < n) (h1 : w.1 2 1 = nI n) (hL : ∀ i, i < 6 → w.2.2 3 i = some (4 + 3 * o i) ∧ o i < 6) (hinjo : ∀ i j, i < 6 → j < 6 → o i = o j → i = j) : gd_Cp l D tC ad 45 0 0 y_L_remove c_L_remove 4 none [.ref 2, .ref (4 + 3 * (o j0))] w (fun r w' => r = none ∧ w'.1 = (gd_rI w 2 (upd (w.1 2) 1 (nI (n - 1)))).1 ∧ w'.2.1 = w.2.1 ∧ (∀ a, a ≠ 3 → w'.2.2 a = w.2.2 a) ∧ ∀ i, i < 6 → w'.2.2 3 i = some (4 + 3 * gc_rot o j0 n i)) := by
  refine gd_Cp_of rfl hinj (Nat.le_of_ble_eq_true rfl) ?_
  intro p e s m args below meth c E hr hlk
  have K := k_L_remove
  have hA : ∀ q, gd_A ad 45 s.heap.size q → gd_A ad 45 s.heap.size q := fun _ h => h
  obtain ⟨G1, G2⟩ := hL j0 (by omega)
  have loop : ∀ j i w1, i + j = n → (w1.1 = w.1 ∧ w1.2.1 = w.2.1 ∧ (∀ a, a ≠ 3 → w1.2.2 a = w.2.2 a) ∧ ∀ k, k < 6 → w1.2.2 3 k = some (4 + 3 * (if j0 ≤ k ∧ k + 1 < i then o (k + 1) else o k))) → gd_G p l e (gd_rm 0 0) s m args below meth c D tC ad (gd_A ad 45 s.heap.size) 45 4 0 0 (MQ below (gd_Qp D tC ad 45 s.heap.size (fun r w' => r = none ∧ w'.1 = (gd_rI w 2 (upd (w.1 2) 1 (nI (n - 1)))).1 ∧ w'.2.1 = w.2.1 ∧ (∀ a, a ≠ 3 → w'.2.2 a = w.2.2 a) ∧ ∀ i, i < 6 → w'.2.2 3 i = some (4 + 3 * gc_rot o j0 n i))) args s 0 0 (gd_A ad 45 s.heap.size)) 4 [(0, .ref 2), (1, .ref (4 + 3 * (o j0))), (2, .int (nI (if i ≤ j0 then i else i - 1))), (3, .int (nI i))] [] w1 := by
    intro j
    induction j with
    | zero =>
      intro i w1 hi hw
      have c1 : w1.1 2 1 = nI n := by rw [hw.1]; exact h1
      refine gd_r E K 3 (pc' := 9) (lv' := [(0, .ref 2), (1, .ref (4 + 3 * (o j0))), (2, .int (nI (if i ≤ j0 then i else i - 1))), (3, .int (nI i))]) (st' := [.int (w1.1 2 1), .int (nI i)]) (w' := w1) rfl ?_
      refine gd_cg (lv' := [(0, .ref 2), (1, .ref (4 + 3 * (o j0))), (2, .int (nI (if i ≤ j0 then i else i - 1))), (3, .int (nI i))]) (st' := [.int (nI n), .int (nI i)]) (w' := w1) ?_ (rfl) (by simp only [c1]) rfl
      refine gd_r E K 1 (pc' := if (nI n) ≤ (nI i) then 43 else 12) (lv' := [(0, .ref 2), (1, .ref (4 + 3 * (o j0))), (2, .int (nI (if i ≤ j0 then i else i - 1))), (3, .int (nI i))]) (st' := []) (w' := w1) rfl ?_
      refine gd_it (nI_le (by omega) (by omega)) ?_
      refine gd_r E K 3 (pc' := 48) (lv' := [(0, .ref 2), (1, .ref (4 + 3 * (o j0))), (2, .int (nI (if i ≤ j0 then i else i - 1))), (3, .int (nI i))]) (st' := [.int (w1.1 2 1), .int (nI (if i ≤ j0 then i else i - 1))]) (w' := w1) rfl ?_
      refine gd_cg (lv' := [(0, .ref 2), (1, .ref (4 + 3 * (o j0))), (2, .int (nI (if i ≤ j0 then i else i - 1))), (3, .int (nI i))]) (st' := [.int (nI n), .int (nI (if i ≤ j0 then i else i - 1))]) (w' := w1) ?_ (rfl) (by simp only [c1]) rfl
      have hkp : (if i ≤ j0 then i else i - 1) = n - 1 := by rw [if_neg (by omega)]; omega
      rw [hkp]
      refine gd_r E K 1 (pc' := if (nI n) ≤ (nI (n - 1)) then 63 else 51) (lv' := [(0, .ref 2), (1, .ref (4 + 3 * (o j0))), (2, .int (nI (n - 1))), (3, .int (nI i))]) (st' := []) (w' := w1) rfl ?_
      refine gd_if (nI_ge (show n - 1 < n by omega) (by omega)) ?_
      refine gd_r E K 4 (pc' := 57) (lv' := [(0, .ref 2), (1, .ref (4 + 3 * (o j0))), (2, .int (nI (n - 1))), (3, .int (nI i))]) (st' := [.ref (4 + 3 * (o j0)), .int (nI (n - 1)), .ref 3]) (w' := w1) rfl ?_
      refine gd_aast E (K.1 57 (.aastore, 0) rfl).1 (j := n - 1) (by decide) rfl (rfl) (by omega) (by decide) (by omega) (gd_shd G2) rfl rfl ?_
      refine gd_r E K 3 (pc' := 63) (lv' := [(0, .ref 2), (1, .ref (4 + 3 * (o j0))), (2, .int (nI (n - 1))), (3, .int (nI i))]) (st' := []) (w' := gd_rI (gd_rR w1 3 (va_up (w1.2.2 3) (n - 1) (some (4 + 3 * (o j0))))) 2 (upd ((gd_rR w1 3 (va_up (w1.2.2 3) (n - 1) (some (4 + 3 * (o j0))))).1 2) 1 (nI (n - 1)))) rfl ?_
      have hii : i = n := by omega
      exact gd_vretp E hr hlk (K.1 63 (.return_, 0) rfl).1 (⟨rfl, gd_rI_1e (w2 := w) rfl hw.1, hw.2.1, fun a ha => by show (gd_rR w1 3 _).2.2 a = _; rw [gd_rR_n ha]; exact hw.2.2.1 a ha, fun k hk => by show (gd_rR w1 3 _).2.2 3 k = _; rw [gd_rR_s]; exact gc_rot_end hj0 hk hii hw.2.2.2⟩)
    | succ j ih =>
      intro i w1 hi hw
      have c1 : w1.1 2 1 = nI n := by rw [hw.1]; exact h1
      obtain ⟨L1, L2⟩ := hL i (by omega)
      have L3 : w1.2.2 3 i = some (4 + 3 * o i) := by rw [hw.2.2.2 i (by omega), if_neg (by omega)]
      refine gd_r E K 3 (pc' := 9) (lv' := [(0, .ref 2), (1, .ref (4 + 3 * (o j0))), (2, .int (nI (if i ≤ j0 then i else i - 1))), (3, .int (nI i))]) (st' := [.int (w1.1 2 1), .int (nI i)]) (w' := w1) rfl ?_
      refine gd_cg (lv' := [(0, .ref 2), (1, .ref (4 + 3 * (o j0))), (2, .int (nI (if i ≤ j0 then i else i - 1))), (3, .int (nI i))]) (st' := [.int (nI n), .int (nI i)]) (w' := w1) ?_ (rfl) (by simp only [c1]) rfl
      refine gd_r E K 1 (pc' := if (nI n) ≤ (nI i) then 43 else 12) (lv' := [(0, .ref 2), (1, .ref (4 + 3 * (o j0))), (2, .int (nI (if i ≤ j0 then i else i - 1))), (3, .int (nI i))]) (st' := []) (w' := w1) rfl ?_
      refine gd_if (nI_ge (by omega) (by omega)) ?_
      refine gd_r E K 3 (pc' := 17) (lv' := [(0, .ref 2), (1, .ref (4 + 3 * (o j0))), (2, .int (nI (if i ≤ j0 then i else i - 1))), (3, .int (nI i))]) (st' := [.int (nI i), .ref 3]) (w' := w1) rfl ?_
      refine gd_aald E (K.1 17 (.aaload, 0) rfl).1 (j := i) (q := 4 + 3 * (o i)) (by decide) rfl (rfl) (by omega) (by decide) (L3) ?_
      refine gd_r E K 1 (pc' := 19) (lv' := [(0, .ref 2), (1, .ref (4 + 3 * (o j0))), (2, .int (nI (if i ≤ j0 then i else i - 1))), (3, .int (nI i))]) (st' := [.ref (4 + 3 * (o j0)), .ref (4 + 3 * (o i))]) (w' := w1) rfl ?_
      by_cases e0 : i = j0
      · refine gd_r E K 1 (pc' := if (some (4 + 3 * (o i)) : Option Nat) = (some (4 + 3 * (o j0)) : Option Nat) then 37 else 22) (lv' := [(0, .ref 2), (1, .ref (4 + 3 * (o j0))), (2, .int (nI (if i ≤ j0 then i else i - 1))), (3, .int (nI i))]) (st' := []) (w' := w1) rfl ?_
        refine gd_it (by rw [e0]) ?_
        refine gd_r E K 2 (pc' := 4) (lv' := [(0, .ref 2), (1, .ref (4 + 3 * (o j0))), (2, .int (nI (if i ≤ j0 then i else i - 1))), (3, .int ((nI i) + 1))]) (st' := []) (w' := w1) rfl ?_
        refine gd_cg (ih (i + 1) w1 (by omega) ⟨hw.1, hw.2.1, hw.2.2.1, fun k hk => ?_⟩) (by rw [nI_1, if_pos (by omega), if_neg (by omega)]; rfl) rfl rfl
        rw [hw.2.2.2 k hk, if_neg (by omega), if_neg (by omega)]
      · refine gd_r E K 1 (pc' := if (some (4 + 3 * (o i)) : Option Nat) = (some (4 + 3 * (o j0)) : Option Nat) then 37 else 22) (lv' := [(0, .ref 2), (1, .ref (4 + 3 * (o j0))), (2, .int (nI (if i ≤ j0 then i else i - 1))), (3, .int (nI i))]) (st' := []) (w' := w1) rfl ?_
        refine gd_if (fun h => e0 (hinjo i j0 (by omega) (by omega) (by have := Option.some.inj h; omega))) ?_
        refine gd_r E K 6 (pc' := 32) (lv' := [(0, .ref 2), (1, .ref (4 + 3 * (o j0))), (2, .int (nI (if i ≤ j0 then i else i - 1))), (3, .int (nI i))]) (st' := [.int (nI i), .ref 3, .int (nI (if i ≤ j0 then i else i - 1)), .ref 3]) (w' := w1) rfl ?_
        refine gd_aald E (K.1 32 (.aaload, 0) rfl).1 (j := i) (q := 4 + 3 * (o i)) (by decide) rfl (rfl) (by omega) (by decide) (L3) ?_
        refine gd_aast E (K.1 33 (.aastore, 0) rfl).1 (j := (if i ≤ j0 then i else i - 1)) (by decide) rfl (rfl) (by split <;> omega) (by decide) (by omega) (gd_shd L2) rfl rfl ?_
        refine gd_r E K 3 (pc' := 4) (lv' := [(0, .ref 2), (1, .ref (4 + 3 * (o j0))), (2, .int ((nI (if i ≤ j0 then i else i - 1)) + 1)), (3, .int ((nI i) + 1))]) (st' := []) (w' := gd_rR w1 3 (va_up (w1.2.2 3) (if i ≤ j0 then i else i - 1) (some (4 + 3 * (o i))))) rfl ?_
        refine gd_cg (ih (i + 1) (gd_rR w1 3 (va_up (w1.2.2 3) (if i ≤ j0 then i else i - 1) (some (4 + 3 * (o i))))) (by omega) ⟨hw.1, hw.2.1, fun a ha => by rw [gd_rR_n ha]; exact hw.2.2.1 a ha, fun k hk => ?_⟩) (by rw [nI_1, nI_1]; congr 6; by_cases e1 : i < j0; (rw [if_pos (by omega), if_pos (by omega)]); (rw [if_neg (by omega), if_neg (by omega)]; omega)) rfl rfl
        rw [gd_rR_s]
        by_cases e1 : i < j0
        · rw [if_pos (show i ≤ j0 by omega)]
          by_cases e2 : k = i
          · subst e2; rw [va_up_s, if_neg (by omega)]
          · rw [va_up_n e2, hw.2.2.2 k hk, if_neg (by omega), if_neg (by omega)]
        · rw [if_neg (show ¬ i ≤ j0 by omega)]
          by_cases e2 : k = i - 1
          · subst e2; rw [va_up_s, if_pos (by omega), show i - 1 + 1 = i by omega]
          · rw [va_up_n e2, hw.2.2.2 k hk]
            by_cases e3 : j0 ≤ k ∧ k + 1 < i
            · rw [if_pos e3, if_pos (by omega)]
            · rw [if_neg e3, if_neg (by omega)]
  refine gd_r E K 4 (pc' := 4) (lv' := [(0, .ref 2), (1, .ref (4 + 3 * (o j0))), (2, .int 0), (3, .int 0)]) (st' := []) (w' := w) rfl ?_
  exact gd_cg (loop n 0 w (by omega) ⟨rfl, rfl, fun _ _ => rfl, fun k hk => by rw [if_neg (by omega)]; exact (hL k hk).1⟩) rfl rfl rfl
