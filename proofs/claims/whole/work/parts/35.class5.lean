/-! The way finder. -/
/-- who stands where: the set of the cells that are taken at each time -/
def gc_tk (w : gd_W) (P : Nat → Nat → Prop) : Prop := ∀ t, t ≤ 60 → ∀ c, c < 64 → (gm_bit (w.2.1 23 t) c = true ↔ P t c)
/-- only the longs of cell k have changed -/
def gc_f (k : Nat) (w w' : gd_W) : Prop := w'.1 = w.1 ∧ w'.2.2 = w.2.2 ∧ ∀ a, a ≠ k → w'.2.1 a = w.2.1 a
theorem gc_f.refl (k : Nat) (w : gd_W) : gc_f k w w := ⟨rfl, rfl, fun _ _ => rfl⟩
theorem gc_f.trans {k : Nat} {a b c : gd_W} (h : gc_f k a b) (g : gc_f k b c) : gc_f k a c := ⟨g.1.trans h.1, g.2.1.trans h.2.1, fun x hx => (g.2.2 x hx).trans (h.2.2 x hx)⟩
theorem gc_f.set (k : Nat) (w : gd_W) (f : Nat → Int64) : gc_f k w (gd_rL w k f) := ⟨rfl, rfl, fun _ h => gd_rL_n h⟩
/-- shut at a time: near one at it, or a step before or behind -/
def gc_sh (P : Nat → Nat → Prop) (c t : Nat) : Prop := ∃ b, b < 64 ∧ gm_near c b = true ∧ (P t b ∨ (0 < t ∧ P (t - 1) b) ∨ (t < 60 ∧ P (t + 1) b))
def gc_shE (P : Nat → Nat → Prop) (c : Nat) : Prop := ∃ b, b < 64 ∧ gm_near c b = true ∧ ∃ t, t ≤ 60 ∧ P t b
def gc_un (w : gd_W) (t : Nat) : Int64 := if 0 < t then (if t < 60 then (w.2.1 23 t ||| w.2.1 23 (t - 1)) ||| w.2.1 23 (t + 1) else w.2.1 23 t ||| w.2.1 23 (t - 1)) else w.2.1 23 t ||| w.2.1 23 (t + 1)
theorem gc_un_bit {w : gd_W} {P : Nat → Nat → Prop} (h : gc_tk w P) {t c : Nat} (ht : t ≤ 60) (hc : c < 64) : gm_bit (gm_ud (gm_sw (gc_un w t))) c = true ↔ gc_sh P c t := by
  rw [gm_bit_near _ hc]
  have key : ∀ b, b < 64 → (gm_bit (gc_un w t) b = true ↔ (P t b ∨ (0 < t ∧ P (t - 1) b) ∨ (t < 60 ∧ P (t + 1) b))) := by
    intro b hb
    unfold gc_un
    by_cases h0 : 0 < t
    · rw [if_pos h0]
      by_cases h6 : t < 60
      · rw [if_pos h6, gm_bit_or, gm_bit_or, Bool.or_eq_true, Bool.or_eq_true, h t ht b hb, h (t - 1) (by omega) b hb, h (t + 1) (by omega) b hb]
        constructor
        · rintro ((x | x) | x)
          · exact Or.inl x
          · exact Or.inr (Or.inl ⟨h0, x⟩)
          · exact Or.inr (Or.inr ⟨h6, x⟩)
        · rintro (x | ⟨-, x⟩ | ⟨-, x⟩)
          · exact Or.inl (Or.inl x)
          · exact Or.inl (Or.inr x)
          · exact Or.inr x
      · rw [if_neg h6, gm_bit_or, Bool.or_eq_true, h t ht b hb, h (t - 1) (by omega) b hb]
        constructor
        · rintro (x | x)
          · exact Or.inl x
          · exact Or.inr (Or.inl ⟨h0, x⟩)
        · rintro (x | ⟨-, x⟩ | ⟨y, -⟩)
          · exact Or.inl x
          · exact Or.inr x
          · exact absurd y h6
    · rw [if_neg h0, gm_bit_or, Bool.or_eq_true, h t ht b hb, h (t + 1) (by omega) b hb]
      constructor
      · rintro (x | x)
        · exact Or.inl x
        · exact Or.inr (Or.inr ⟨by omega, x⟩)
      · rintro (x | ⟨y, -⟩ | ⟨-, x⟩)
        · exact Or.inl x
        · exact absurd y h0
        · exact Or.inr x
  constructor
  · rintro ⟨b, hb, h1, h2⟩; exact ⟨b, hb, h2, (key b hb).mp h1⟩
  · rintro ⟨b, hb, h1, h2⟩; exact ⟨b, hb, (key b hb).mpr h2, h1⟩
/-- the union of all times -/
def gc_ua (f : Nat → Int64) : Nat → Int64
  | 0 => 0
  | n + 1 => gc_ua f n ||| f n
theorem gc_ua_bit (f : Nat → Int64) (c : Nat) : ∀ n, gm_bit (gc_ua f n) c = true ↔ ∃ t, t < n ∧ gm_bit (f t) c = true
  | 0 => by rw [gc_ua, gm_bit_0]; simp
  | n + 1 => by
    rw [gc_ua, gm_bit_or, Bool.or_eq_true, gc_ua_bit f c n]
    constructor
    · rintro (⟨t, h1, h2⟩ | h)
      · exact ⟨t, by omega, h2⟩
      · exact ⟨n, by omega, h⟩
    · rintro ⟨t, h1, h2⟩
      by_cases e : t = n
      · subst e; exact Or.inr h2
      · exact Or.inl ⟨t, by omega, h2⟩
theorem gc_ua_near {w : gd_W} {P : Nat → Nat → Prop} (h : gc_tk w P) {c : Nat} (hc : c < 64) : gm_bit (gm_ud (gm_sw (gc_ua (w.2.1 23) 61))) c = true ↔ gc_shE P c := by
  rw [gm_bit_near _ hc]
  constructor
  · rintro ⟨b, hb, h1, h2⟩
    obtain ⟨t, ht, h3⟩ := (gc_ua_bit _ _ _).mp h1
    exact ⟨b, hb, h2, t, by omega, (h t (by omega) b hb).mp h3⟩
  · rintro ⟨b, hb, h1, t, ht, h3⟩
    exact ⟨b, hb, (gc_ua_bit _ _ _).mpr ⟨t, by omega, (h t ht b hb).mpr h3⟩, h1⟩
set_option maxRecDepth 100000 in
theorem c3_forget {l : Launch} {D : va_G} {tC : FieldType → ClassId} {ad : Nat → Nat} (hinj : ∀ i j, ad i = ad j → i = j) (w : gd_W) : gd_Cp l D tC ad 45 1 24 y_F_forget c_F_forget 1 none [.ref 22] w (fun r w' => r = none ∧ gc_f 23 w w' ∧ gc_tk w' (fun _ _ => False)) := by
  refine gd_Cp_of rfl hinj (Nat.le_of_ble_eq_true rfl) ?_
  intro p e s m args below meth c E hr hlk
  have K := k_F_forget
  have hA : ∀ q, gd_A ad 45 s.heap.size q → gd_A ad 45 s.heap.size q := fun _ h => h
  refine gd_r E K 3 (pc' := 5) (lv' := [(0, .ref 22)]) (st' := [.long 0, .ref 23]) (w' := w) rfl ?_
  refine gd_cSp E hA (av := [.ref 23, .long 0]) (rest := []) (c3_fill hinj w 23 61 (by decide) rfl (by decide) 0) (K.1 5 (.invokestatic 18, 0) rfl).1 ml_F_18 cv_J_fill ⟨Nat.le_of_ble_eq_true rfl, Nat.le_of_ble_eq_true rfl⟩ ⟨Nat.zero_le _, Nat.zero_le _⟩ rfl (Nat.le_of_ble_eq_true rfl) (fun r9 w1 h9 => ?_)
  obtain ⟨rfl, f1, f2, f3, f4⟩ := h9
  exact gd_vretp E hr hlk (K.1 8 (.return_, 0) rfl).1 (⟨rfl, ⟨f1, f2, f3⟩, fun t ht c hc => by rw [f4 t (by omega), gm_bit_0]; simp⟩)
set_option maxRecDepth 100000 in
theorem c3_shutAt {l : Launch} {D : va_G} {tC : FieldType → ClassId} {ad : Nat → Nat} (hinj : ∀ i j, ad i = ad j → i = j) (w : gd_W) (t : Nat) (ht : t ≤ 60) : gd_Ct l D tC ad 45 2 42 y_F_shutAt c_F_shutAt 4 (some .long) [.ref 22, .int (nI t)] w (some (.long (gm_ud (gm_sw (gc_un w t))))) w := by
  refine gd_Ct_of rfl hinj (Nat.le_of_ble_eq_true rfl) ?_
  intro p e s m args below meth c E hr hlk
  have K := k_F_shutAt
  have hA : ∀ q, gd_A ad 45 s.heap.size q → gd_A ad 45 s.heap.size q := fun _ h => h
  refine gd_r E K 3 (pc' := 5) (lv' := [(0, .ref 22), (1, .int (nI t))]) (st' := [.int (nI t), .ref 23]) (w' := w) rfl ?_
  refine gd_laldv E (K.1 5 (.laload, 0) rfl).1 (j := t) (by decide) (rfl) (rfl) (by omega) (by decide) (v := w.2.1 23 t) (rfl) ?_
  refine gd_r E K 2 (pc' := 8) (lv' := [(0, .ref 22), (1, .int (nI t)), (2, .long (w.2.1 23 t))]) (st' := [.int (nI t)]) (w' := w) rfl ?_
  by_cases h0 : 0 < t
  · refine gd_r E K 1 (pc' := if (nI t) ≤ 0 then 22 else 11) (lv' := [(0, .ref 22), (1, .int (nI t)), (2, .long (w.2.1 23 t))]) (st' := []) (w' := w) rfl ?_
    refine gd_if (nI_nle h0 (by omega)) ?_
    refine gd_r E K 6 (pc' := 19) (lv' := [(0, .ref 22), (1, .int (nI t)), (2, .long (w.2.1 23 t))]) (st' := [.int ((nI t) - 1), .ref 23, .long (w.2.1 23 t)]) (w' := w) rfl ?_
    refine gd_laldv E (K.1 19 (.laload, 0) rfl).1 (j := t - 1) (by decide) (rfl) (by rw [show (1 : Int32) = nI 1 from rfl, pk_sub (by omega)]) (by omega) (by decide) (v := w.2.1 23 (t - 1)) (rfl) ?_
    refine gd_r E K 4 (pc' := 25) (lv' := [(0, .ref 22), (1, .int (nI t)), (2, .long ((w.2.1 23 t) ||| (w.2.1 23 (t - 1))))]) (st' := [.int 60, .int (nI t)]) (w' := w) rfl ?_
    by_cases h6 : t < 60
    · refine gd_r E K 1 (pc' := if 60 ≤ (nI t) then 39 else 28) (lv' := [(0, .ref 22), (1, .int (nI t)), (2, .long ((w.2.1 23 t) ||| (w.2.1 23 (t - 1))))]) (st' := []) (w' := w) rfl ?_
      refine gd_if (nI_ge h6 (by decide)) ?_
      refine gd_r E K 6 (pc' := 36) (lv' := [(0, .ref 22), (1, .int (nI t)), (2, .long ((w.2.1 23 t) ||| (w.2.1 23 (t - 1))))]) (st' := [.int ((nI t) + 1), .ref 23, .long ((w.2.1 23 t) ||| (w.2.1 23 (t - 1)))]) (w' := w) rfl ?_
      refine gd_laldv E (K.1 36 (.laload, 0) rfl).1 (j := t + 1) (by decide) (rfl) (by rw [nI_1]) (by omega) (by decide) (v := w.2.1 23 (t + 1)) (rfl) ?_
      refine gd_r E K 3 (pc' := 40) (lv' := [(0, .ref 22), (1, .int (nI t)), (2, .long (((w.2.1 23 t) ||| (w.2.1 23 (t - 1))) ||| (w.2.1 23 (t + 1))))]) (st' := [.long (((w.2.1 23 t) ||| (w.2.1 23 (t - 1))) ||| (w.2.1 23 (t + 1)))]) (w' := w) rfl ?_
      refine gd_cS E hA (av := [.long (((w.2.1 23 t) ||| (w.2.1 23 (t - 1))) ||| (w.2.1 23 (t + 1)))]) (rest := []) (c2_near hinj _ w) (K.1 40 (.invokestatic 54, 0) rfl).1 ml_F_54 cv_S_near ⟨Nat.le_of_ble_eq_true rfl, Nat.le_of_ble_eq_true rfl⟩ ⟨Nat.zero_le _, Nat.zero_le _⟩ rfl (Nat.le_of_ble_eq_true rfl) ?_
      exact gd_lretq E hr hlk (K.1 43 (.lreturn, 0) rfl).1 (by rw [gc_un, if_pos h0, if_pos h6]) (rfl)
    · refine gd_r E K 1 (pc' := if 60 ≤ (nI t) then 39 else 28) (lv' := [(0, .ref 22), (1, .int (nI t)), (2, .long ((w.2.1 23 t) ||| (w.2.1 23 (t - 1))))]) (st' := []) (w' := w) rfl ?_
      refine gd_it (nI_le (show 60 ≤ t by omega) (by omega)) ?_
      refine gd_r E K 1 (pc' := 40) (lv' := [(0, .ref 22), (1, .int (nI t)), (2, .long ((w.2.1 23 t) ||| (w.2.1 23 (t - 1))))]) (st' := [.long ((w.2.1 23 t) ||| (w.2.1 23 (t - 1)))]) (w' := w) rfl ?_
      refine gd_cS E hA (av := [.long ((w.2.1 23 t) ||| (w.2.1 23 (t - 1)))]) (rest := []) (c2_near hinj _ w) (K.1 40 (.invokestatic 54, 0) rfl).1 ml_F_54 cv_S_near ⟨Nat.le_of_ble_eq_true rfl, Nat.le_of_ble_eq_true rfl⟩ ⟨Nat.zero_le _, Nat.zero_le _⟩ rfl (Nat.le_of_ble_eq_true rfl) ?_
      exact gd_lretq E hr hlk (K.1 43 (.lreturn, 0) rfl).1 (by rw [gc_un, if_pos h0, if_neg h6]) (rfl)
  · refine gd_r E K 1 (pc' := if (nI t) ≤ 0 then 22 else 11) (lv' := [(0, .ref 22), (1, .int (nI t)), (2, .long (w.2.1 23 t))]) (st' := []) (w' := w) rfl ?_
    refine gd_it ((gd_le0 (by omega)).mpr (by omega)) ?_
    refine gd_r E K 2 (pc' := 25) (lv' := [(0, .ref 22), (1, .int (nI t)), (2, .long (w.2.1 23 t))]) (st' := [.int 60, .int (nI t)]) (w' := w) rfl ?_
    refine gd_r E K 1 (pc' := if 60 ≤ (nI t) then 39 else 28) (lv' := [(0, .ref 22), (1, .int (nI t)), (2, .long (w.2.1 23 t))]) (st' := []) (w' := w) rfl ?_
    refine gd_if (nI_ge (show t < 60 by omega) (by decide)) ?_
    refine gd_r E K 6 (pc' := 36) (lv' := [(0, .ref 22), (1, .int (nI t)), (2, .long (w.2.1 23 t))]) (st' := [.int ((nI t) + 1), .ref 23, .long (w.2.1 23 t)]) (w' := w) rfl ?_
    refine gd_laldv E (K.1 36 (.laload, 0) rfl).1 (j := t + 1) (by decide) (rfl) (by rw [nI_1]) (by omega) (by decide) (v := w.2.1 23 (t + 1)) (rfl) ?_
    refine gd_r E K 3 (pc' := 40) (lv' := [(0, .ref 22), (1, .int (nI t)), (2, .long ((w.2.1 23 t) ||| (w.2.1 23 (t + 1))))]) (st' := [.long ((w.2.1 23 t) ||| (w.2.1 23 (t + 1)))]) (w' := w) rfl ?_
    refine gd_cS E hA (av := [.long ((w.2.1 23 t) ||| (w.2.1 23 (t + 1)))]) (rest := []) (c2_near hinj _ w) (K.1 40 (.invokestatic 54, 0) rfl).1 ml_F_54 cv_S_near ⟨Nat.le_of_ble_eq_true rfl, Nat.le_of_ble_eq_true rfl⟩ ⟨Nat.zero_le _, Nat.zero_le _⟩ rfl (Nat.le_of_ble_eq_true rfl) ?_
    exact gd_lretq E hr hlk (K.1 43 (.lreturn, 0) rfl).1 (by rw [gc_un, if_neg h0]) (rfl)
set_option maxRecDepth 100000 in
theorem c3_everShut {l : Launch} {D : va_G} {tC : FieldType → ClassId} {ad : Nat → Nat} (hinj : ∀ i j, ad i = ad j → i = j) (w : gd_W) : gd_Ct l D tC ad 45 2 42 y_F_everShut c_F_everShut 4 (some .long) [.ref 22] w (some (.long (gm_ud (gm_sw (gc_ua (w.2.1 23) 61))))) w := by
  refine gd_Ct_of rfl hinj (Nat.le_of_ble_eq_true rfl) ?_
  intro p e s m args below meth c E hr hlk
  have K := k_F_everShut
  have hA : ∀ q, gd_A ad 45 s.heap.size q → gd_A ad 45 s.heap.size q := fun _ h => h
  have loop : ∀ j t, t + j = 61 → gd_G p l e (gd_rm 2 42) s m args below meth c D tC ad (gd_A ad 45 s.heap.size) 45 4 0 0 (MQ below (gd_Q D tC ad 45 s.heap.size (some (.long (gm_ud (gm_sw (gc_ua (w.2.1 23) 61))))) w) args s 0 0 (gd_A ad 45 s.heap.size)) 4 [(0, .ref 22), (1, .long (gc_ua (w.2.1 23) t)), (3, .int (nI t))] [] w := by
    intro j
    induction j with
    | zero =>
      intro t ht
      refine gd_r E K 2 (pc' := 7) (lv' := [(0, .ref 22), (1, .long (gc_ua (w.2.1 23) t)), (3, .int (nI t))]) (st' := [.int 60, .int (nI t)]) (w' := w) rfl ?_
      refine gd_r E K 1 (pc' := if 60 < (nI t) then 25 else 10) (lv' := [(0, .ref 22), (1, .long (gc_ua (w.2.1 23) t)), (3, .int (nI t))]) (st' := []) (w' := w) rfl ?_
      refine gd_it (nI_lt (show 60 < t by omega) (by omega)) ?_
      refine gd_r E K 1 (pc' := 26) (lv' := [(0, .ref 22), (1, .long (gc_ua (w.2.1 23) t)), (3, .int (nI t))]) (st' := [.long (gc_ua (w.2.1 23) t)]) (w' := w) rfl ?_
      refine gd_cS E hA (av := [.long (gc_ua (w.2.1 23) t)]) (rest := []) (c2_near hinj _ w) (K.1 26 (.invokestatic 54, 0) rfl).1 ml_F_54 cv_S_near ⟨Nat.le_of_ble_eq_true rfl, Nat.le_of_ble_eq_true rfl⟩ ⟨Nat.zero_le _, Nat.zero_le _⟩ rfl (Nat.le_of_ble_eq_true rfl) ?_
      exact gd_lretq E hr hlk (K.1 29 (.lreturn, 0) rfl).1 (by rw [show t = 61 by omega]) (rfl)
    | succ j ih =>
      intro t ht
      refine gd_r E K 2 (pc' := 7) (lv' := [(0, .ref 22), (1, .long (gc_ua (w.2.1 23) t)), (3, .int (nI t))]) (st' := [.int 60, .int (nI t)]) (w' := w) rfl ?_
      refine gd_r E K 1 (pc' := if 60 < (nI t) then 25 else 10) (lv' := [(0, .ref 22), (1, .long (gc_ua (w.2.1 23) t)), (3, .int (nI t))]) (st' := []) (w' := w) rfl ?_
      refine gd_if (nI_nlt (show t ≤ 60 by omega) (by decide)) ?_
      refine gd_r E K 4 (pc' := 16) (lv' := [(0, .ref 22), (1, .long (gc_ua (w.2.1 23) t)), (3, .int (nI t))]) (st' := [.int (nI t), .ref 23, .long (gc_ua (w.2.1 23) t)]) (w' := w) rfl ?_
      refine gd_laldv E (K.1 16 (.laload, 0) rfl).1 (j := t) (by decide) (rfl) (rfl) (by omega) (by decide) (v := w.2.1 23 t) (rfl) ?_
      refine gd_r E K 4 (pc' := 4) (lv' := [(0, .ref 22), (1, .long ((gc_ua (w.2.1 23) t) ||| (w.2.1 23 t))), (3, .int ((nI t) + 1))]) (st' := []) (w' := w) rfl ?_
      exact gd_cg (ih (t + 1) (by omega)) (by rw [nI_1]; rfl) rfl rfl
  refine gd_r E K 4 (pc' := 4) (lv' := [(0, .ref 22), (1, .long 0), (3, .int 0)]) (st' := []) (w' := w) rfl ?_
  exact gd_cg (loop 61 0 (by omega)) rfl rfl rfl
set_option maxRecDepth 100000 in
theorem c3_clearFrom {l : Launch} {D : va_G} {tC : FieldType → ClassId} {ad : Nat → Nat} (hinj : ∀ i j, ad i = ad j → i = j) (w : gd_W) (P : Nat → Nat → Prop) (hP : gc_tk w P) (c0 : Nat) (hc : c0 < 64) : gd_Cp l D tC ad 45 3 65 y_F_clearFrom c_F_clearFrom 3 (some .int) [.ref 22, .int (nI c0)] w (fun r w' => w = w' ∧ ∃ f, r = some (.int (nI f)) ∧ f ≤ 61 ∧ (∀ t, f ≤ t → t ≤ 60 → ¬ gc_sh P c0 t) ∧ ∀ g, f = g + 1 → gc_sh P c0 g) := by
  refine gd_Cp_of rfl hinj (Nat.le_of_ble_eq_true rfl) ?_
  intro p e s m args below meth c E hr hlk
  have K := k_F_clearFrom
  have hA : ∀ q, gd_A ad 45 s.heap.size q → gd_A ad 45 s.heap.size q := fun _ h => h
  have loop : ∀ f, f ≤ 61 → (∀ t, f ≤ t → t ≤ 60 → ¬ gc_sh P c0 t) → gd_G p l e (gd_rm 3 65) s m args below meth c D tC ad (gd_A ad 45 s.heap.size) 45 3 0 0 (MQ below (gd_Qp D tC ad 45 s.heap.size (fun r w' => w = w' ∧ ∃ f, r = some (.int (nI f)) ∧ f ≤ 61 ∧ (∀ t, f ≤ t → t ≤ 60 → ¬ gc_sh P c0 t) ∧ ∀ g, f = g + 1 → gc_sh P c0 g)) args s 0 0 (gd_A ad 45 s.heap.size)) 3 [(0, .ref 22), (1, .int (nI c0)), (2, .int (nI f))] [] w := by
    intro f
    induction f with
    | zero =>
      intro hf hn
      refine gd_r E K 3 (pc' := 31) (lv' := [(0, .ref 22), (1, .int (nI c0)), (2, .int (nI 0))]) (st' := [.int (nI 0)]) (w' := w) rfl ?_
      exact gd_iretp E hr hlk (K.1 31 (.ireturn, 0) rfl).1 (⟨rfl, 0, rfl, hf, hn, fun g hg => by omega⟩)
    | succ k ih =>
      intro hf hn
      refine gd_r E K 1 (pc' := 4) (lv' := [(0, .ref 22), (1, .int (nI c0)), (2, .int (nI (k + 1)))]) (st' := [.int (nI (k + 1))]) (w' := w) rfl ?_
      refine gd_r E K 1 (pc' := if (nI (k + 1)) ≤ 0 then 30 else 7) (lv' := [(0, .ref 22), (1, .int (nI c0)), (2, .int (nI (k + 1)))]) (st' := []) (w' := w) rfl ?_
      refine gd_if (nI_nle (by omega) (by omega)) ?_
      refine gd_r E K 4 (pc' := 11) (lv' := [(0, .ref 22), (1, .int (nI c0)), (2, .int (nI (k + 1)))]) (st' := [.int ((nI (k + 1)) - 1), .ref 22]) (w' := w) rfl ?_
      refine gd_cg (lv' := [(0, .ref 22), (1, .int (nI c0)), (2, .int (nI (k + 1)))]) (st' := [.int (nI k), .ref 22]) (w' := w) ?_ (rfl) (by rw [nI_pred]) (rfl)
      refine gd_cV E hA (av := [.int (nI k)]) (rest := []) (c3_shutAt hinj w k (by omega)) (K.1 11 (.invokevirtual 58, 0) rfl).1 ml_F_58 cv_F_shutAt (by decide) (rfl) ⟨Nat.le_of_ble_eq_true rfl, Nat.le_of_ble_eq_true rfl⟩ ⟨Nat.zero_le _, Nat.zero_le _⟩ rfl (Nat.le_of_ble_eq_true rfl) ?_
      refine gd_r E K 1 (pc' := 15) (lv' := [(0, .ref 22), (1, .int (nI c0)), (2, .int (nI (k + 1)))]) (st' := [.int (nI c0), .long (gm_ud (gm_sw (gc_un w k)))]) (w' := w) rfl ?_
      refine gd_cS E hA (av := [.int (nI c0)]) (rest := [.long (gm_ud (gm_sw (gc_un w k)))]) (c2_only hinj (nI c0) w) (K.1 15 (.invokestatic 37, 0) rfl).1 ml_F_37 cv_S_only ⟨Nat.le_of_ble_eq_true rfl, Nat.le_of_ble_eq_true rfl⟩ ⟨Nat.zero_le _, Nat.zero_le _⟩ rfl (Nat.le_of_ble_eq_true rfl) ?_
      refine gd_r E K 3 (pc' := 21) (lv' := [(0, .ref 22), (1, .int (nI c0)), (2, .int (nI (k + 1)))]) (st' := [.int (lg_cmp ((gm_ud (gm_sw (gc_un w k))) &&& (gm_one c0)) 0)]) (w' := w) rfl ?_
      have hb := gc_un_bit hP (show k ≤ 60 by omega) hc
      by_cases hs : gc_sh P c0 k
      · refine gd_r E K 1 (pc' := if (lg_cmp ((gm_ud (gm_sw (gc_un w k))) &&& (gm_one c0)) 0) = 0 then 24 else 30) (lv' := [(0, .ref 22), (1, .int (nI c0)), (2, .int (nI (k + 1)))]) (st' := []) (w' := w) rfl ?_
        refine gd_if (fun h => by have := (gm_and_one hc).mp ((lg_cmp_eq _ _).mp h); rw [hb.mpr hs] at this; cases this) ?_
        refine gd_r E K 1 (pc' := 31) (lv' := [(0, .ref 22), (1, .int (nI c0)), (2, .int (nI (k + 1)))]) (st' := [.int (nI (k + 1))]) (w' := w) rfl ?_
        exact gd_iretp E hr hlk (K.1 31 (.ireturn, 0) rfl).1 (⟨rfl, k + 1, rfl, hf, hn, fun g hg => by cases hg; exact hs⟩)
      · refine gd_r E K 1 (pc' := if (lg_cmp ((gm_ud (gm_sw (gc_un w k))) &&& (gm_one c0)) 0) = 0 then 24 else 30) (lv' := [(0, .ref 22), (1, .int (nI c0)), (2, .int (nI (k + 1)))]) (st' := []) (w' := w) rfl ?_
        refine gd_it ((lg_cmp_eq _ _).mpr ((gm_and_one hc).mpr (by cases hx : gm_bit (gm_ud (gm_sw (gc_un w k))) c0 with | false => rfl | true => exact absurd (hb.mp hx) hs))) ?_
        refine gd_r E K 2 (pc' := 3) (lv' := [(0, .ref 22), (1, .int (nI c0)), (2, .int ((nI (k + 1)) + (-1)))]) (st' := []) (w' := w) rfl ?_
        refine gd_cg (ih (by omega) (fun t h1 h2 => ?_)) (by rw [pk_m1]) rfl rfl
        by_cases e0 : t = k
        · subst e0; exact hs
        · exact hn t (by omega) h2
  refine gd_r E K 2 (pc' := 3) (lv' := [(0, .ref 22), (1, .int (nI c0)), (2, .int 61)]) (st' := []) (w' := w) rfl ?_
  exact gd_cg (loop 61 (by omega) (fun t h1 h2 => by omega)) rfl rfl rfl
set_option maxRecDepth 100000 in
theorem c3_heed {l : Launch} {D : va_G} {tC : FieldType → ClassId} {ad : Nat → Nat} (hinj : ∀ i j, ad i = ad j → i = j) {S : gs_T} {A : Nat → Option Nat} {E0 : Nat} (w : gd_W) (P : Nat → Nat → Prop) (hP : gc_tk w P) (q : Nat) (hq : q < 6) (d : Nat) (hD : gr_E w S A q d E0) (hv : gv_way S d) : gd_Cp l D tC ad 45 2 44 y_F_heed c_F_heed 6 none [.ref 22, .ref (4 + 3 * q)] w (fun r w' => r = none ∧ gc_f 23 w w' ∧ gc_tk w' (fun t c => P t c ∨ gs_pos S d t = some c)) := by
  refine gd_Cp_of rfl hinj (Nat.le_of_ble_eq_true rfl) ?_
  intro p e s m args below meth c E hr hlk
  have K := k_F_heed
  have hA : ∀ q, gd_A ad 45 s.heap.size q → gd_A ad 45 s.heap.size q := fun _ h => h
  have hD0 := hD
  obtain ⟨⟨h2, hd6⟩, ⟨h3, hc⟩, ⟨h4, hu⟩, ⟨h5, hp⟩, ⟨h6, hE⟩, h7, ⟨h8, hi⟩, ⟨h9, ha⟩, hm, hn⟩ := hD
  have loop : ∀ en, en = (if gs_i S d = 0 then 61 else gs_l S d) → ∀ j t x w1, t + j = en → x < 64 → gs_wk (gs_c S d) (gs_m S d) (min t (gs_l S d)) = some x → (gc_f 23 w w1 ∧ (∀ t1, t1 < t → ∀ c, c < 64 → (gm_bit (w1.2.1 23 t1) c = true ↔ P t1 c ∨ gs_pos S d t1 = some c)) ∧ ∀ t1, t ≤ t1 → w1.2.1 23 t1 = w.2.1 23 t1) → gd_G p l e (gd_rm 2 44) s m args below meth c D tC ad (gd_A ad 45 s.heap.size) 45 6 0 0 (MQ below (gd_Qp D tC ad 45 s.heap.size (fun r w' => r = none ∧ gc_f 23 w w' ∧ gc_tk w' (fun t c => P t c ∨ gs_pos S d t = some c))) args s 0 0 (gd_A ad 45 s.heap.size)) 29 [(0, .ref 22), (1, .ref (4 + 3 * q)), (2, .int (nI (gs_l S d))), (3, .int (nI en)), (4, .int (nI x)), (5, .int (nI t))] [] w1 := by
    intro en hen j
    induction j with
    | zero =>
      intro t x w1 ht hx hw hI
      have hen61 : en ≤ 61 := by rw [hen]; split <;> omega
      refine gd_r E K 2 (pc' := 32) (lv' := [(0, .ref 22), (1, .ref (4 + 3 * q)), (2, .int (nI (gs_l S d))), (3, .int (nI en)), (4, .int (nI x)), (5, .int (nI t))]) (st' := [.int (nI en), .int (nI t)]) (w' := w1) rfl ?_
      refine gd_r E K 1 (pc' := if (nI en) ≤ (nI t) then 81 else 35) (lv' := [(0, .ref 22), (1, .ref (4 + 3 * q)), (2, .int (nI (gs_l S d))), (3, .int (nI en)), (4, .int (nI x)), (5, .int (nI t))]) (st' := []) (w' := w1) rfl ?_
      refine gd_it (nI_le (by omega) (by omega)) ?_
      refine gd_vretp E hr hlk (K.1 81 (.return_, 0) rfl).1 ⟨rfl, hI.1, fun t1 h1 c hc => ?_⟩
      by_cases e0 : t1 < t
      · exact hI.2.1 t1 e0 c hc
      · have hi0 : ¬ gs_i S d = 0 := by intro h0; rw [if_pos h0] at hen; omega
        rw [if_neg hi0] at hen
        show _ ↔ P t1 c ∨ gs_pos S d t1 = some c
        rw [hI.2.2 t1 (by omega), hP t1 h1 c hc, gs_pos, if_pos ⟨by omega, by omega⟩]
        simp
    | succ j ih =>
      intro t x w1 ht hx hw hI
      have hen61 : en ≤ 61 := by rw [hen]; split <;> omega
      have hpos : gs_pos S d t = some x := by rw [gs_pos, if_neg (by rintro ⟨a1, a2⟩; rw [if_neg (by omega)] at hen; omega)]; exact hw
      refine gd_r E K 2 (pc' := 32) (lv' := [(0, .ref 22), (1, .ref (4 + 3 * q)), (2, .int (nI (gs_l S d))), (3, .int (nI en)), (4, .int (nI x)), (5, .int (nI t))]) (st' := [.int (nI en), .int (nI t)]) (w' := w1) rfl ?_
      refine gd_r E K 1 (pc' := if (nI en) ≤ (nI t) then 81 else 35) (lv' := [(0, .ref 22), (1, .ref (4 + 3 * q)), (2, .int (nI (gs_l S d))), (3, .int (nI en)), (4, .int (nI x)), (5, .int (nI t))]) (st' := []) (w' := w1) rfl ?_
      refine gd_if (nI_ge (by omega) (by omega)) ?_
      refine gd_r E K 4 (pc' := 42) (lv' := [(0, .ref 22), (1, .ref (4 + 3 * q)), (2, .int (nI (gs_l S d))), (3, .int (nI en)), (4, .int (nI x)), (5, .int (nI t))]) (st' := [.int (nI t), .ref 23, .int (nI t), .ref 23]) (w' := w1) rfl ?_
      refine gd_laldv E (K.1 42 (.laload, 0) rfl).1 (j := t) (by decide) (rfl) (rfl) (by omega) (by decide) (v := w.2.1 23 t) (hI.2.2 t (Nat.le_refl _)) ?_
      refine gd_r E K 1 (pc' := 45) (lv' := [(0, .ref 22), (1, .ref (4 + 3 * q)), (2, .int (nI (gs_l S d))), (3, .int (nI en)), (4, .int (nI x)), (5, .int (nI t))]) (st' := [.int (nI x), .long (w.2.1 23 t), .int (nI t), .ref 23]) (w' := w1) rfl ?_
      refine gd_cS E hA (av := [.int (nI x)]) (rest := [.long (w.2.1 23 t), .int (nI t), .ref 23]) (c2_only hinj (nI x) w1) (K.1 45 (.invokestatic 37, 0) rfl).1 ml_F_37 cv_S_only ⟨Nat.le_of_ble_eq_true rfl, Nat.le_of_ble_eq_true rfl⟩ ⟨Nat.zero_le _, Nat.zero_le _⟩ rfl (Nat.le_of_ble_eq_true rfl) ?_
      refine gd_r E K 1 (pc' := 49) (lv' := [(0, .ref 22), (1, .ref (4 + 3 * q)), (2, .int (nI (gs_l S d))), (3, .int (nI en)), (4, .int (nI x)), (5, .int (nI t))]) (st' := [.long ((w.2.1 23 t) ||| (gm_one x)), .int (nI t), .ref 23]) (w' := w1) rfl ?_
      refine gd_last E (K.1 49 (.lastore, 0) rfl).1 (j := t) (by decide) (rfl) (rfl) (by omega) (by decide) ?_
      have hI2 : gc_f 23 w (gd_rL w1 23 (vp_updL (w1.2.1 23) t ((w.2.1 23 t) ||| (gm_one x)))) ∧ (∀ t1, t1 < t + 1 → ∀ c, c < 64 → (gm_bit ((gd_rL w1 23 (vp_updL (w1.2.1 23) t ((w.2.1 23 t) ||| (gm_one x)))).2.1 23 t1) c = true ↔ P t1 c ∨ gs_pos S d t1 = some c)) ∧ ∀ t1, t + 1 ≤ t1 → (gd_rL w1 23 (vp_updL (w1.2.1 23) t ((w.2.1 23 t) ||| (gm_one x)))).2.1 23 t1 = w.2.1 23 t1 := by
        refine ⟨hI.1.trans (gc_f.set _ _ _), fun t1 h1 c hc => ?_, fun t1 h1 => by rw [gd_rL_s, gd_ul_n (by omega)]; exact hI.2.2 t1 (by omega)⟩
        rw [gd_rL_s]
        by_cases e0 : t1 = t
        · subst e0
          rw [gd_ul_s, gm_bit_or, Bool.or_eq_true, hP t1 (by omega) c hc, gm_bit_one hx hc, hpos, decide_eq_true_iff]
          constructor
          · rintro (z | z)
            · exact Or.inl z
            · exact Or.inr (by rw [z])
          · rintro (z | z)
            · exact Or.inl z
            · exact Or.inr (Option.some.inj z).symm
        · rw [gd_ul_n e0]; exact hI.2.1 t1 (by omega) c hc
      generalize hw2 : gd_rL w1 23 (vp_updL (w1.2.1 23) t ((w.2.1 23 t) ||| (gm_one x))) = w2 at hI2
      refine gd_r E K 2 (pc' := 53) (lv' := [(0, .ref 22), (1, .ref (4 + 3 * q)), (2, .int (nI (gs_l S d))), (3, .int (nI en)), (4, .int (nI x)), (5, .int (nI t))]) (st' := [.int (nI (gs_l S d)), .int (nI t)]) (w' := w2) rfl ?_
      have hr2 : ∀ a j, w2.1 a j = w.1 a j := fun a j => by rw [hI2.1.1]
      by_cases htl : t < gs_l S d
      · refine gd_r E K 1 (pc' := if (nI (gs_l S d)) ≤ (nI t) then 75 else 56) (lv' := [(0, .ref 22), (1, .ref (4 + 3 * q)), (2, .int (nI (gs_l S d))), (3, .int (nI en)), (4, .int (nI x)), (5, .int (nI t))]) (st' := []) (w' := w2) rfl ?_
        refine gd_if (nI_ge htl (by omega)) ?_
        obtain ⟨r1, r2⟩ := hm t htl
        refine gd_r E K 2 (pc' := 59) (lv' := [(0, .ref 22), (1, .ref (4 + 3 * q)), (2, .int (nI (gs_l S d))), (3, .int (nI en)), (4, .int (nI x)), (5, .int (nI t))]) (st' := [.ref (4 + 3 * q), .int (nI x)]) (w' := w2) rfl ?_
        refine gd_getd E K (K.1 59 (.getfield 43, 0) rfl).1 rfl (by omega) (gd_shd hq) rfl (v := .ref (5 + 3 * q)) (gd_avd0 _ hq) ?_
        refine gd_r E K 1 (pc' := 63) (lv' := [(0, .ref 22), (1, .ref (4 + 3 * q)), (2, .int (nI (gs_l S d))), (3, .int (nI en)), (4, .int (nI x)), (5, .int (nI t))]) (st' := [.ref (4 + 3 * q), .ref (5 + 3 * q), .int (nI x)]) (w' := w2) rfl ?_
        refine gd_getd E K (K.1 63 (.getfield 47, 0) rfl).1 rfl (by omega) (gd_shd hq) rfl (v := .int (w2.1 (4 + 3 * q) 7)) (rfl) ?_
        refine gd_cg (lv' := [(0, .ref 22), (1, .ref (4 + 3 * q)), (2, .int (nI (gs_l S d))), (3, .int (nI en)), (4, .int (nI x)), (5, .int (nI t))]) (st' := [.int (nI E0), .ref (5 + 3 * q), .int (nI x)]) (w' := w2) ?_ (rfl) (by simp only [(hr2 _ _).trans h7]) rfl
        refine gd_r E K 2 (pc' := 69) (lv' := [(0, .ref 22), (1, .ref (4 + 3 * q)), (2, .int (nI (gs_l S d))), (3, .int (nI en)), (4, .int (nI x)), (5, .int (nI t))]) (st' := [.int ((nI E0) + (nI t)), .ref (5 + 3 * q), .int (nI x)]) (w' := w2) rfl ?_
        refine gd_ialdv E (K.1 69 (.iaload, 0) rfl).1 (j := E0 + t) (by omega) (gd_shd0 hq) (by rw [nI_add]) (by omega) (by decide) (v := nI (gs_m S d t)) ((hr2 _ _).trans r1) ?_
        rw [Nat.min_eq_left (by omega)] at hw
        obtain ⟨y, hy, hw3⟩ := hv (t + 1) (by omega)
        have hmv : gm_mv x (gs_m S d t) = some y := by rw [← gs_wk_s hw]; exact hw3
        refine gd_cS E hA (av := [.int (nI x), .int (nI (gs_m S d t))]) (rest := []) (c2_after hinj x (gs_m S d t) hx r2 w2) (K.1 70 (.invokestatic 50, 0) rfl).1 ml_F_50 cv_S_after ⟨Nat.le_of_ble_eq_true rfl, Nat.le_of_ble_eq_true rfl⟩ ⟨Nat.zero_le _, Nat.zero_le _⟩ rfl (Nat.le_of_ble_eq_true rfl) ?_
        refine gd_r E K 3 (pc' := 29) (lv' := [(0, .ref 22), (1, .ref (4 + 3 * q)), (2, .int (nI (gs_l S d))), (3, .int (nI en)), (4, .int (gm_nO (gm_mv x (gs_m S d t)))), (5, .int ((nI t) + 1))]) (st' := []) (w' := w2) rfl ?_
        exact gd_cg (ih (t + 1) y w2 (by omega) hy (by rw [Nat.min_eq_left (by omega)]; exact hw3) hI2) (by simp only [hmv, gm_nO, nI_1]) rfl rfl
      · refine gd_r E K 1 (pc' := if (nI (gs_l S d)) ≤ (nI t) then 75 else 56) (lv' := [(0, .ref 22), (1, .ref (4 + 3 * q)), (2, .int (nI (gs_l S d))), (3, .int (nI en)), (4, .int (nI x)), (5, .int (nI t))]) (st' := []) (w' := w2) rfl ?_
        refine gd_it (nI_le (by omega) (by omega)) ?_
        refine gd_r E K 2 (pc' := 29) (lv' := [(0, .ref 22), (1, .ref (4 + 3 * q)), (2, .int (nI (gs_l S d))), (3, .int (nI en)), (4, .int (nI x)), (5, .int ((nI t) + 1))]) (st' := []) (w' := w2) rfl ?_
        exact gd_cg (ih (t + 1) x w2 (by omega) hx (by rw [Nat.min_eq_right (by omega)]; rw [Nat.min_eq_right (by omega)] at hw; exact hw) hI2) (by rw [nI_1]) rfl rfl
  refine gd_r E K 1 (pc' := 1) (lv' := [(0, .ref 22), (1, .ref (4 + 3 * q))]) (st' := [.ref (4 + 3 * q)]) (w' := w) rfl ?_
  refine gd_cV E hA (av := []) (rest := []) (c3_left hinj w q hq d hD0) (K.1 1 (.invokevirtual 24, 0) rfl).1 ml_F_24 cv_D_movesLeft (by omega) (gd_shd hq) ⟨Nat.le_of_ble_eq_true rfl, Nat.le_of_ble_eq_true rfl⟩ ⟨Nat.zero_le _, Nat.zero_le _⟩ rfl (Nat.le_of_ble_eq_true rfl) ?_
  refine gd_r E K 2 (pc' := 6) (lv' := [(0, .ref 22), (1, .ref (4 + 3 * q)), (2, .int (nI (gs_l S d)))]) (st' := [.ref (4 + 3 * q)]) (w' := w) rfl ?_
  refine gd_getd E K (K.1 6 (.getfield 30, 0) rfl).1 rfl (by omega) (gd_shd hq) rfl (v := .int (gs_pr (gs_i S d))) (by show Value.int _ = Value.int _; rw [h8]) ?_
  refine gd_r E K 1 (pc' := 10) (lv' := [(0, .ref 22), (1, .ref (4 + 3 * q)), (2, .int (nI (gs_l S d)))]) (st' := [.int (-1), .int (gs_pr (gs_i S d))]) (w' := w) rfl ?_
  by_cases h0 : gs_i S d = 0
  · refine gd_r E K 1 (pc' := if (gs_pr (gs_i S d)) = (-1) then 13 else 18) (lv' := [(0, .ref 22), (1, .ref (4 + 3 * q)), (2, .int (nI (gs_l S d)))]) (st' := []) (w' := w) rfl ?_
    refine gd_it ((gs_pr_m1 (by omega)).mpr h0) ?_
    refine gd_r E K 4 (pc' := 21) (lv' := [(0, .ref 22), (1, .ref (4 + 3 * q)), (2, .int (nI (gs_l S d))), (3, .int 61)]) (st' := [.ref (4 + 3 * q)]) (w' := w) rfl ?_
    refine gd_getd E K (K.1 21 (.getfield 34, 0) rfl).1 rfl (by omega) (gd_shd hq) rfl (v := .int (nI (gs_c S d))) (by show Value.int _ = Value.int _; rw [h3]) ?_
    refine gd_r E K 3 (pc' := 29) (lv' := [(0, .ref 22), (1, .ref (4 + 3 * q)), (2, .int (nI (gs_l S d))), (3, .int 61), (4, .int (nI (gs_c S d))), (5, .int 0)]) (st' := []) (w' := w) rfl ?_
    exact gd_cg (loop 61 (by rw [if_pos h0]) _ 0 (gs_c S d) w (Nat.zero_add _) hc (by rw [Nat.min_eq_left (Nat.zero_le _)]; rfl) ⟨gc_f.refl _ _, fun t1 h1 => by omega, fun _ _ => rfl⟩) rfl rfl rfl
  · refine gd_r E K 1 (pc' := if (gs_pr (gs_i S d)) = (-1) then 13 else 18) (lv' := [(0, .ref 22), (1, .ref (4 + 3 * q)), (2, .int (nI (gs_l S d)))]) (st' := []) (w' := w) rfl ?_
    refine gd_if (fun h => h0 ((gs_pr_m1 (by omega)).mp h)) ?_
    refine gd_r E K 3 (pc' := 21) (lv' := [(0, .ref 22), (1, .ref (4 + 3 * q)), (2, .int (nI (gs_l S d))), (3, .int (nI (gs_l S d)))]) (st' := [.ref (4 + 3 * q)]) (w' := w) rfl ?_
    refine gd_getd E K (K.1 21 (.getfield 34, 0) rfl).1 rfl (by omega) (gd_shd hq) rfl (v := .int (nI (gs_c S d))) (by show Value.int _ = Value.int _; rw [h3]) ?_
    refine gd_r E K 3 (pc' := 29) (lv' := [(0, .ref 22), (1, .ref (4 + 3 * q)), (2, .int (nI (gs_l S d))), (3, .int (nI (gs_l S d))), (4, .int (nI (gs_c S d))), (5, .int 0)]) (st' := []) (w' := w) rfl ?_
    exact gd_cg (loop (gs_l S d) (by rw [if_neg h0]) _ 0 (gs_c S d) w (Nat.zero_add _) hc (by rw [Nat.min_eq_left (Nat.zero_le _)]; rfl) ⟨gc_f.refl _ _, fun t1 h1 => by omega, fun _ _ => rfl⟩) rfl rfl rfl
