def gm_has (x y : Int32) : Int32 := if x < 0 then 0 else if 8 ≤ x then 0 else if y < 0 then 0 else if 8 ≤ y then 0 else 1
def gm_near4 (x y : Int32) : Int32 := if x < -1 then 0 else if 1 < x then 0 else if y < -1 then 0 else if 1 < y then 0 else 1
theorem gm_has_01 (x y : Int32) : gm_has x y = 0 ∨ gm_has x y = 1 := by
  unfold gm_has
  repeat' split
  all_goals first | exact Or.inl rfl | exact Or.inr rfl
set_option maxRecDepth 100000 in
theorem c2_has {l : Launch} {D : va_G} {tC : FieldType → ClassId} {ad : Nat → Nat} (hinj : ∀ i j, ad i = ad j → i = j) (x y : Int32) (w : gd_W) : gd_Ct l D tC ad 45 0 0 y_S_has c_S_has 2 (some .boolean) [.int x, .int y] w (some (.int (gm_has x y))) w := by
  refine gd_Ct_of rfl hinj (Nat.le_of_ble_eq_true rfl) ?_
  intro p e s m args below meth c E hr hlk
  have K := k_S_has
  have hA : ∀ q, gd_A ad 45 s.heap.size q → gd_A ad 45 s.heap.size q := fun _ h => h
  refine gd_r E K 1 (pc' := 1) (lv' := [(0, .int x), (1, .int y)]) (st' := [.int x]) (w' := w) rfl ?_
  refine gd_r E K 1 (pc' := if x < 0 then 24 else 4) (lv' := [(0, .int x), (1, .int y)]) (st' := []) (w' := w) rfl ?_
  refine gd_ite (fun h1 => ?_) (fun h1 => ?_)
  · refine gd_r E K 1 (pc' := 25) (lv' := [(0, .int x), (1, .int y)]) (st' := [.int 0]) (w' := w) rfl ?_
    exact gd_zretq E hr hlk (K.1 25 (.ireturn, 0) rfl).1 (by decide) (by simp [gm_has, h1]) (rfl)
  · refine gd_r E K 2 (pc' := 7) (lv' := [(0, .int x), (1, .int y)]) (st' := [.int 8, .int x]) (w' := w) rfl ?_
    refine gd_r E K 1 (pc' := if 8 ≤ x then 24 else 10) (lv' := [(0, .int x), (1, .int y)]) (st' := []) (w' := w) rfl ?_
    refine gd_ite (fun h2 => ?_) (fun h2 => ?_)
    · refine gd_r E K 1 (pc' := 25) (lv' := [(0, .int x), (1, .int y)]) (st' := [.int 0]) (w' := w) rfl ?_
      exact gd_zretq E hr hlk (K.1 25 (.ireturn, 0) rfl).1 (by decide) (by simp [gm_has, h1, h2]) (rfl)
    · refine gd_r E K 1 (pc' := 11) (lv' := [(0, .int x), (1, .int y)]) (st' := [.int y]) (w' := w) rfl ?_
      refine gd_r E K 1 (pc' := if y < 0 then 24 else 14) (lv' := [(0, .int x), (1, .int y)]) (st' := []) (w' := w) rfl ?_
      refine gd_ite (fun h3 => ?_) (fun h3 => ?_)
      · refine gd_r E K 1 (pc' := 25) (lv' := [(0, .int x), (1, .int y)]) (st' := [.int 0]) (w' := w) rfl ?_
        exact gd_zretq E hr hlk (K.1 25 (.ireturn, 0) rfl).1 (by decide) (by simp [gm_has, h1, h2, h3]) (rfl)
      · refine gd_r E K 2 (pc' := 17) (lv' := [(0, .int x), (1, .int y)]) (st' := [.int 8, .int y]) (w' := w) rfl ?_
        refine gd_r E K 1 (pc' := if 8 ≤ y then 24 else 20) (lv' := [(0, .int x), (1, .int y)]) (st' := []) (w' := w) rfl ?_
        refine gd_ite (fun h4 => ?_) (fun h4 => ?_)
        · refine gd_r E K 1 (pc' := 25) (lv' := [(0, .int x), (1, .int y)]) (st' := [.int 0]) (w' := w) rfl ?_
          exact gd_zretq E hr hlk (K.1 25 (.ireturn, 0) rfl).1 (by decide) (by simp [gm_has, h1, h2, h3, h4]) (rfl)
        · refine gd_r E K 2 (pc' := 25) (lv' := [(0, .int x), (1, .int y)]) (st' := [.int 1]) (w' := w) rfl ?_
          exact gd_zretq E hr hlk (K.1 25 (.ireturn, 0) rfl).1 (by decide) (by simp [gm_has, h1, h2, h3, h4]) (rfl)
set_option maxRecDepth 100000 in
theorem c2_isCell {l : Launch} {D : va_G} {tC : FieldType → ClassId} {ad : Nat → Nat} (hinj : ∀ i j, ad i = ad j → i = j) (x y : Int32) (w : gd_W) : gd_Ct l D tC ad 45 0 0 y_M_isCell c_M_isCell 2 (some .boolean) [.int x, .int y] w (some (.int (gm_has x y))) w := by
  refine gd_Ct_of rfl hinj (Nat.le_of_ble_eq_true rfl) ?_
  intro p e s m args below meth c E hr hlk
  have K := k_M_isCell
  have hA : ∀ q, gd_A ad 45 s.heap.size q → gd_A ad 45 s.heap.size q := fun _ h => h
  refine gd_r E K 1 (pc' := 1) (lv' := [(0, .int x), (1, .int y)]) (st' := [.int x]) (w' := w) rfl ?_
  refine gd_r E K 1 (pc' := if x < 0 then 24 else 4) (lv' := [(0, .int x), (1, .int y)]) (st' := []) (w' := w) rfl ?_
  refine gd_ite (fun h1 => ?_) (fun h1 => ?_)
  · refine gd_r E K 1 (pc' := 25) (lv' := [(0, .int x), (1, .int y)]) (st' := [.int 0]) (w' := w) rfl ?_
    exact gd_zretq E hr hlk (K.1 25 (.ireturn, 0) rfl).1 (by decide) (by simp [gm_has, h1]) (rfl)
  · refine gd_r E K 2 (pc' := 7) (lv' := [(0, .int x), (1, .int y)]) (st' := [.int 8, .int x]) (w' := w) rfl ?_
    refine gd_r E K 1 (pc' := if 8 ≤ x then 24 else 10) (lv' := [(0, .int x), (1, .int y)]) (st' := []) (w' := w) rfl ?_
    refine gd_ite (fun h2 => ?_) (fun h2 => ?_)
    · refine gd_r E K 1 (pc' := 25) (lv' := [(0, .int x), (1, .int y)]) (st' := [.int 0]) (w' := w) rfl ?_
      exact gd_zretq E hr hlk (K.1 25 (.ireturn, 0) rfl).1 (by decide) (by simp [gm_has, h1, h2]) (rfl)
    · refine gd_r E K 1 (pc' := 11) (lv' := [(0, .int x), (1, .int y)]) (st' := [.int y]) (w' := w) rfl ?_
      refine gd_r E K 1 (pc' := if y < 0 then 24 else 14) (lv' := [(0, .int x), (1, .int y)]) (st' := []) (w' := w) rfl ?_
      refine gd_ite (fun h3 => ?_) (fun h3 => ?_)
      · refine gd_r E K 1 (pc' := 25) (lv' := [(0, .int x), (1, .int y)]) (st' := [.int 0]) (w' := w) rfl ?_
        exact gd_zretq E hr hlk (K.1 25 (.ireturn, 0) rfl).1 (by decide) (by simp [gm_has, h1, h2, h3]) (rfl)
      · refine gd_r E K 2 (pc' := 17) (lv' := [(0, .int x), (1, .int y)]) (st' := [.int 8, .int y]) (w' := w) rfl ?_
        refine gd_r E K 1 (pc' := if 8 ≤ y then 24 else 20) (lv' := [(0, .int x), (1, .int y)]) (st' := []) (w' := w) rfl ?_
        refine gd_ite (fun h4 => ?_) (fun h4 => ?_)
        · refine gd_r E K 1 (pc' := 25) (lv' := [(0, .int x), (1, .int y)]) (st' := [.int 0]) (w' := w) rfl ?_
          exact gd_zretq E hr hlk (K.1 25 (.ireturn, 0) rfl).1 (by decide) (by simp [gm_has, h1, h2, h3, h4]) (rfl)
        · refine gd_r E K 2 (pc' := 25) (lv' := [(0, .int x), (1, .int y)]) (st' := [.int 1]) (w' := w) rfl ?_
          exact gd_zretq E hr hlk (K.1 25 (.ireturn, 0) rfl).1 (by decide) (by simp [gm_has, h1, h2, h3, h4]) (rfl)
set_option maxRecDepth 100000 in
theorem c2_at {l : Launch} {D : va_G} {tC : FieldType → ClassId} {ad : Nat → Nat} (hinj : ∀ i j, ad i = ad j → i = j) (x y : Int32) (w : gd_W) : gd_Ct l D tC ad 45 0 0 y_S_at c_S_at 2 (some .int) [.int x, .int y] w (some (.int (8 * y + x))) w := by
  refine gd_Ct_of rfl hinj (Nat.le_of_ble_eq_true rfl) ?_
  intro p e s m args below meth c E hr hlk
  have K := k_S_at
  have hA : ∀ q, gd_A ad 45 s.heap.size q → gd_A ad 45 s.heap.size q := fun _ h => h
  refine gd_r E K 5 (pc' := 6) (lv' := [(0, .int x), (1, .int y)]) (st' := [.int ((8 * y) + x)]) (w' := w) rfl ?_
  exact gd_iretq E hr hlk (K.1 6 (.ireturn, 0) rfl).1 (rfl) (rfl)
set_option maxRecDepth 100000 in
theorem c2_only {l : Launch} {D : va_G} {tC : FieldType → ClassId} {ad : Nat → Nat} (hinj : ∀ i j, ad i = ad j → i = j) (x : Int32) (w : gd_W) : gd_Ct l D tC ad 45 0 0 y_S_only c_S_only 1 (some .long) [.int x] w (some (.long (gm_shl 1 x))) w := by
  refine gd_Ct_of rfl hinj (Nat.le_of_ble_eq_true rfl) ?_
  intro p e s m args below meth c E hr hlk
  have K := k_S_only
  have hA : ∀ q, gd_A ad 45 s.heap.size q → gd_A ad 45 s.heap.size q := fun _ h => h
  refine gd_r E K 3 (pc' := 3) (lv' := [(0, .int x)]) (st' := [.long (gm_shl 1 x)]) (w' := w) rfl ?_
  exact gd_lretq E hr hlk (K.1 3 (.lreturn, 0) rfl).1 (rfl) (rfl)
set_option maxRecDepth 100000 in
theorem c2_ud {l : Launch} {D : va_G} {tC : FieldType → ClassId} {ad : Nat → Nat} (hinj : ∀ i j, ad i = ad j → i = j) (x : Int64) (w : gd_W) : gd_Ct l D tC ad 45 0 0 y_S_upAndDown c_S_upAndDown 2 (some .long) [.long x] w (some (.long (gm_ud x))) w := by
  refine gd_Ct_of rfl hinj (Nat.le_of_ble_eq_true rfl) ?_
  intro p e s m args below meth c E hr hlk
  have K := k_S_upAndDown
  have hA : ∀ q, gd_A ad 45 s.heap.size q → gd_A ad 45 s.heap.size q := fun _ h => h
  refine gd_r E K 9 (pc' := 11) (lv' := [(0, .long x)]) (st' := [.long ((x ||| (gm_shl x 8)) ||| (gm_ushr x 8))]) (w' := w) rfl ?_
  exact gd_lretq E hr hlk (K.1 11 (.lreturn, 0) rfl).1 (rfl) (rfl)
set_option maxRecDepth 100000 in
theorem c2_sw {l : Launch} {D : va_G} {tC : FieldType → ClassId} {ad : Nat → Nat} (hinj : ∀ i j, ad i = ad j → i = j) (x : Int64) (w : gd_W) : gd_Ct l D tC ad 45 0 0 y_S_sideways c_S_sideways 2 (some .long) [.long x] w (some (.long (gm_sw x))) w := by
  refine gd_Ct_of rfl hinj (Nat.le_of_ble_eq_true rfl) ?_
  intro p e s m args below meth c E hr hlk
  have K := k_S_sideways
  have hA : ∀ q, gd_A ad 45 s.heap.size q → gd_A ad 45 s.heap.size q := fun _ h => h
  refine gd_r E K 13 (pc' := 17) (lv' := [(0, .long x)]) (st' := [.long ((x ||| (gm_shl (x &&& 9187201950435737471) 1)) ||| (gm_ushr (x &&& (-72340172838076674)) 1))]) (w' := w) rfl ?_
  exact gd_lretq E hr hlk (K.1 17 (.lreturn, 0) rfl).1 (rfl) (rfl)
set_option maxRecDepth 100000 in
theorem c2_near {l : Launch} {D : va_G} {tC : FieldType → ClassId} {ad : Nat → Nat} (hinj : ∀ i j, ad i = ad j → i = j) (x : Int64) (w : gd_W) : gd_Ct l D tC ad 45 1 21 y_S_near c_S_near 2 (some .long) [.long x] w (some (.long (gm_ud (gm_sw x)))) w := by
  refine gd_Ct_of rfl hinj (Nat.le_of_ble_eq_true rfl) ?_
  intro p e s m args below meth c E hr hlk
  have K := k_S_near
  have hA : ∀ q, gd_A ad 45 s.heap.size q → gd_A ad 45 s.heap.size q := fun _ h => h
  refine gd_r E K 1 (pc' := 1) (lv' := [(0, .long x)]) (st' := [.long x]) (w' := w) rfl ?_
  refine gd_cS E hA (av := [.long x]) (rest := []) (c2_sw hinj x w) (K.1 1 (.invokestatic 23, 0) rfl).1 ml_S_23 cv_S_sideways ⟨Nat.le_of_ble_eq_true rfl, Nat.le_of_ble_eq_true rfl⟩ ⟨Nat.zero_le _, Nat.zero_le _⟩ rfl (Nat.le_of_ble_eq_true rfl) ?_
  refine gd_cS E hA (av := [.long (gm_sw x)]) (rest := []) (c2_ud hinj (gm_sw x) w) (K.1 4 (.invokestatic 19, 0) rfl).1 ml_S_19 cv_S_upAndDown ⟨Nat.le_of_ble_eq_true rfl, Nat.le_of_ble_eq_true rfl⟩ ⟨Nat.zero_le _, Nat.zero_le _⟩ rfl (Nat.le_of_ble_eq_true rfl) ?_
  exact gd_lretq E hr hlk (K.1 7 (.lreturn, 0) rfl).1 (rfl) (rfl)
set_option maxRecDepth 100000 in
theorem c2_move {l : Launch} {D : va_G} {tC : FieldType → ClassId} {ad : Nat → Nat} (hinj : ∀ i j, ad i = ad j → i = j) (x : Int64) (w : gd_W) : gd_Ct l D tC ad 45 1 21 y_S_oneMoveFrom c_S_oneMoveFrom 2 (some .long) [.long x] w (some (.long (gm_ud x ||| gm_sw x))) w := by
  refine gd_Ct_of rfl hinj (Nat.le_of_ble_eq_true rfl) ?_
  intro p e s m args below meth c E hr hlk
  have K := k_S_oneMoveFrom
  have hA : ∀ q, gd_A ad 45 s.heap.size q → gd_A ad 45 s.heap.size q := fun _ h => h
  refine gd_r E K 1 (pc' := 1) (lv' := [(0, .long x)]) (st' := [.long x]) (w' := w) rfl ?_
  refine gd_cS E hA (av := [.long x]) (rest := []) (c2_ud hinj x w) (K.1 1 (.invokestatic 19, 0) rfl).1 ml_S_19 cv_S_upAndDown ⟨Nat.le_of_ble_eq_true rfl, Nat.le_of_ble_eq_true rfl⟩ ⟨Nat.zero_le _, Nat.zero_le _⟩ rfl (Nat.le_of_ble_eq_true rfl) ?_
  refine gd_r E K 1 (pc' := 5) (lv' := [(0, .long x)]) (st' := [.long x, .long (gm_ud x)]) (w' := w) rfl ?_
  refine gd_cS E hA (av := [.long x]) (rest := [.long (gm_ud x)]) (c2_sw hinj x w) (K.1 5 (.invokestatic 23, 0) rfl).1 ml_S_23 cv_S_sideways ⟨Nat.le_of_ble_eq_true rfl, Nat.le_of_ble_eq_true rfl⟩ ⟨Nat.zero_le _, Nat.zero_le _⟩ rfl (Nat.le_of_ble_eq_true rfl) ?_
  refine gd_r E K 1 (pc' := 9) (lv' := [(0, .long x)]) (st' := [.long ((gm_ud x) ||| (gm_sw x))]) (w' := w) rfl ?_
  exact gd_lretq E hr hlk (K.1 9 (.lreturn, 0) rfl).1 (rfl) (rfl)
set_option maxRecDepth 100000 in
theorem gm_near4_eq : ∀ a, a < 64 → ∀ b, b < 64 → (if gm_near a b = true then 1 else 0) = gm_near4 (nI a - nI a / 8 * 8 - (nI b - nI b / 8 * 8)) (nI a / 8 - nI b / 8) := by decide +kernel
set_option maxRecDepth 100000 in
theorem c2_areNear {l : Launch} {D : va_G} {tC : FieldType → ClassId} {ad : Nat → Nat} (hinj : ∀ i j, ad i = ad j → i = j) (a b : Nat) (ha : a < 64) (hb : b < 64) (w : gd_W) : gd_Ct l D tC ad 45 0 0 y_M_areNear c_M_areNear 4 (some .boolean) [.int (nI a), .int (nI b)] w (some (.int (if gm_near a b then 1 else 0))) w := by
  refine gd_Ct_of rfl hinj (Nat.le_of_ble_eq_true rfl) ?_
  intro p e s m args below meth c E hr hlk
  have K := k_M_areNear
  have hA : ∀ q, gd_A ad 45 s.heap.size q → gd_A ad 45 s.heap.size q := fun _ h => h
  rw [gm_near4_eq a ha b hb]
  refine gd_r E K 18 (pc' := 22) (lv' := [(0, .int (nI a)), (1, .int (nI b)), (2, .int (((nI a) - (nI a) / 8 * 8) - ((nI b) - (nI b) / 8 * 8))), (3, .int (((nI a) / 8) - ((nI b) / 8)))]) (st' := [.int (-1), .int (((nI a) - (nI a) / 8 * 8) - ((nI b) - (nI b) / 8 * 8))]) (w' := w) rfl ?_
  refine gd_r E K 1 (pc' := if (((nI a) - (nI a) / 8 * 8) - ((nI b) - (nI b) / 8 * 8)) < (-1) then 44 else 25) (lv' := [(0, .int (nI a)), (1, .int (nI b)), (2, .int (((nI a) - (nI a) / 8 * 8) - ((nI b) - (nI b) / 8 * 8))), (3, .int (((nI a) / 8) - ((nI b) / 8)))]) (st' := []) (w' := w) rfl ?_
  refine gd_ite (fun h1 => ?_) (fun h1 => ?_)
  · refine gd_r E K 1 (pc' := 45) (lv' := [(0, .int (nI a)), (1, .int (nI b)), (2, .int (((nI a) - (nI a) / 8 * 8) - ((nI b) - (nI b) / 8 * 8))), (3, .int (((nI a) / 8) - ((nI b) / 8)))]) (st' := [.int 0]) (w' := w) rfl ?_
    exact gd_zretq E hr hlk (K.1 45 (.ireturn, 0) rfl).1 (by decide) (by simp [gm_near4, h1]) (rfl)
  · refine gd_r E K 2 (pc' := 27) (lv' := [(0, .int (nI a)), (1, .int (nI b)), (2, .int (((nI a) - (nI a) / 8 * 8) - ((nI b) - (nI b) / 8 * 8))), (3, .int (((nI a) / 8) - ((nI b) / 8)))]) (st' := [.int 1, .int (((nI a) - (nI a) / 8 * 8) - ((nI b) - (nI b) / 8 * 8))]) (w' := w) rfl ?_
    refine gd_r E K 1 (pc' := if 1 < (((nI a) - (nI a) / 8 * 8) - ((nI b) - (nI b) / 8 * 8)) then 44 else 30) (lv' := [(0, .int (nI a)), (1, .int (nI b)), (2, .int (((nI a) - (nI a) / 8 * 8) - ((nI b) - (nI b) / 8 * 8))), (3, .int (((nI a) / 8) - ((nI b) / 8)))]) (st' := []) (w' := w) rfl ?_
    refine gd_ite (fun h2 => ?_) (fun h2 => ?_)
    · refine gd_r E K 1 (pc' := 45) (lv' := [(0, .int (nI a)), (1, .int (nI b)), (2, .int (((nI a) - (nI a) / 8 * 8) - ((nI b) - (nI b) / 8 * 8))), (3, .int (((nI a) / 8) - ((nI b) / 8)))]) (st' := [.int 0]) (w' := w) rfl ?_
      exact gd_zretq E hr hlk (K.1 45 (.ireturn, 0) rfl).1 (by decide) (by simp [gm_near4, h1, h2]) (rfl)
    · refine gd_r E K 2 (pc' := 32) (lv' := [(0, .int (nI a)), (1, .int (nI b)), (2, .int (((nI a) - (nI a) / 8 * 8) - ((nI b) - (nI b) / 8 * 8))), (3, .int (((nI a) / 8) - ((nI b) / 8)))]) (st' := [.int (-1), .int (((nI a) / 8) - ((nI b) / 8))]) (w' := w) rfl ?_
      refine gd_r E K 1 (pc' := if (((nI a) / 8) - ((nI b) / 8)) < (-1) then 44 else 35) (lv' := [(0, .int (nI a)), (1, .int (nI b)), (2, .int (((nI a) - (nI a) / 8 * 8) - ((nI b) - (nI b) / 8 * 8))), (3, .int (((nI a) / 8) - ((nI b) / 8)))]) (st' := []) (w' := w) rfl ?_
      refine gd_ite (fun h3 => ?_) (fun h3 => ?_)
      · refine gd_r E K 1 (pc' := 45) (lv' := [(0, .int (nI a)), (1, .int (nI b)), (2, .int (((nI a) - (nI a) / 8 * 8) - ((nI b) - (nI b) / 8 * 8))), (3, .int (((nI a) / 8) - ((nI b) / 8)))]) (st' := [.int 0]) (w' := w) rfl ?_
        exact gd_zretq E hr hlk (K.1 45 (.ireturn, 0) rfl).1 (by decide) (by simp [gm_near4, h1, h2, h3]) (rfl)
      · refine gd_r E K 2 (pc' := 37) (lv' := [(0, .int (nI a)), (1, .int (nI b)), (2, .int (((nI a) - (nI a) / 8 * 8) - ((nI b) - (nI b) / 8 * 8))), (3, .int (((nI a) / 8) - ((nI b) / 8)))]) (st' := [.int 1, .int (((nI a) / 8) - ((nI b) / 8))]) (w' := w) rfl ?_
        refine gd_r E K 1 (pc' := if 1 < (((nI a) / 8) - ((nI b) / 8)) then 44 else 40) (lv' := [(0, .int (nI a)), (1, .int (nI b)), (2, .int (((nI a) - (nI a) / 8 * 8) - ((nI b) - (nI b) / 8 * 8))), (3, .int (((nI a) / 8) - ((nI b) / 8)))]) (st' := []) (w' := w) rfl ?_
        refine gd_ite (fun h4 => ?_) (fun h4 => ?_)
        · refine gd_r E K 1 (pc' := 45) (lv' := [(0, .int (nI a)), (1, .int (nI b)), (2, .int (((nI a) - (nI a) / 8 * 8) - ((nI b) - (nI b) / 8 * 8))), (3, .int (((nI a) / 8) - ((nI b) / 8)))]) (st' := [.int 0]) (w' := w) rfl ?_
          exact gd_zretq E hr hlk (K.1 45 (.ireturn, 0) rfl).1 (by decide) (by simp [gm_near4, h1, h2, h3, h4]) (rfl)
        · refine gd_r E K 2 (pc' := 45) (lv' := [(0, .int (nI a)), (1, .int (nI b)), (2, .int (((nI a) - (nI a) / 8 * 8) - ((nI b) - (nI b) / 8 * 8))), (3, .int (((nI a) / 8) - ((nI b) / 8)))]) (st' := [.int 1]) (w' := w) rfl ?_
          exact gd_zretq E hr hlk (K.1 45 (.ireturn, 0) rfl).1 (by decide) (by simp [gm_near4, h1, h2, h3, h4]) (rfl)
theorem dsw_S_after : decode c_S_after 11 = .ok (.tableswitch 53 1 4 #[29, 35, 41, 47], 29) := by decide +kernel
theorem c2_after_0 : ∀ c0, c0 < 64 → gm_nO (gm_mv c0 0) = if gm_has ((nI c0) - (nI c0) / 8 * 8) ((nI c0) / 8) = 0 then -1 else 8 * ((nI c0) / 8) + ((nI c0) - (nI c0) / 8 * 8) := by decide +kernel
theorem c2_after_1 : ∀ c0, c0 < 64 → gm_nO (gm_mv c0 1) = if gm_has ((nI c0) - (nI c0) / 8 * 8) (((nI c0) / 8) + (-1)) = 0 then -1 else 8 * (((nI c0) / 8) + (-1)) + ((nI c0) - (nI c0) / 8 * 8) := by decide +kernel
theorem c2_after_2 : ∀ c0, c0 < 64 → gm_nO (gm_mv c0 2) = if gm_has (((nI c0) - (nI c0) / 8 * 8) + 1) ((nI c0) / 8) = 0 then -1 else 8 * ((nI c0) / 8) + (((nI c0) - (nI c0) / 8 * 8) + 1) := by decide +kernel
theorem c2_after_3 : ∀ c0, c0 < 64 → gm_nO (gm_mv c0 3) = if gm_has ((nI c0) - (nI c0) / 8 * 8) (((nI c0) / 8) + 1) = 0 then -1 else 8 * (((nI c0) / 8) + 1) + ((nI c0) - (nI c0) / 8 * 8) := by decide +kernel
theorem c2_after_4 : ∀ c0, c0 < 64 → gm_nO (gm_mv c0 4) = if gm_has (((nI c0) - (nI c0) / 8 * 8) + (-1)) ((nI c0) / 8) = 0 then -1 else 8 * ((nI c0) / 8) + (((nI c0) - (nI c0) / 8 * 8) + (-1)) := by decide +kernel
set_option maxRecDepth 100000 in
theorem c2_after {l : Launch} {D : va_G} {tC : FieldType → ClassId} {ad : Nat → Nat} (hinj : ∀ i j, ad i = ad j → i = j) (c0 k : Nat) (hc : c0 < 64) (hk : k < 5) (w : gd_W) : gd_Ct l D tC ad 45 1 21 y_S_after c_S_after 4 (some .int) [.int (nI c0), .int (nI k)] w (some (.int (gm_nO (gm_mv c0 k)))) w := by
  refine gd_Ct_of rfl hinj (Nat.le_of_ble_eq_true rfl) ?_
  intro p e s m args below meth c E hr hlk
  have K := k_S_after
  have hA : ∀ q, gd_A ad 45 s.heap.size q → gd_A ad 45 s.heap.size q := fun _ h => h
  rcases (by omega : k = 0 ∨ k = 1 ∨ k = 2 ∨ k = 3 ∨ k = 4) with rfl | rfl | rfl | rfl | rfl
  · refine gd_r E K 9 (pc' := 11) (lv' := [(0, .int (nI c0)), (1, .int (nI 0)), (2, .int ((nI c0) - (nI c0) / 8 * 8)), (3, .int ((nI c0) / 8))]) (st' := [.int (nI 0)]) (w' := w) rfl ?_
    refine gd_tabOut E dsw_S_after (tgt := 64) (by decide) (by decide) ?_
    refine gd_r E K 2 (pc' := 66) (lv' := [(0, .int (nI c0)), (1, .int (nI 0)), (2, .int ((nI c0) - (nI c0) / 8 * 8)), (3, .int ((nI c0) / 8))]) (st' := [.int ((nI c0) / 8), .int ((nI c0) - (nI c0) / 8 * 8)]) (w' := w) rfl ?_
    refine gd_cS E hA (av := [.int ((nI c0) - (nI c0) / 8 * 8), .int ((nI c0) / 8)]) (rest := []) (c2_has hinj ((nI c0) - (nI c0) / 8 * 8) ((nI c0) / 8) w) (K.1 66 (.invokestatic 9, 0) rfl).1 ml_S_9 cv_S_has ⟨Nat.le_of_ble_eq_true rfl, Nat.le_of_ble_eq_true rfl⟩ ⟨Nat.zero_le _, Nat.zero_le _⟩ rfl (Nat.le_of_ble_eq_true rfl) ?_
    generalize hg1 : gm_has ((nI c0) - (nI c0) / 8 * 8) ((nI c0) / 8) = g1
    refine gd_r E K 1 (pc' := if g1 = 0 then 80 else 72) (lv' := [(0, .int (nI c0)), (1, .int (nI 0)), (2, .int ((nI c0) - (nI c0) / 8 * 8)), (3, .int ((nI c0) / 8))]) (st' := []) (w' := w) rfl ?_
    refine gd_ite (fun h1 => ?_) (fun h1 => ?_)
    · refine gd_r E K 1 (pc' := 81) (lv' := [(0, .int (nI c0)), (1, .int (nI 0)), (2, .int ((nI c0) - (nI c0) / 8 * 8)), (3, .int ((nI c0) / 8))]) (st' := [.int (-1)]) (w' := w) rfl ?_
      exact gd_iretq E hr hlk (K.1 81 (.ireturn, 0) rfl).1 (by rw [c2_after_0 c0 hc, hg1, if_pos h1]) (rfl)
    · refine gd_r E K 2 (pc' := 74) (lv' := [(0, .int (nI c0)), (1, .int (nI 0)), (2, .int ((nI c0) - (nI c0) / 8 * 8)), (3, .int ((nI c0) / 8))]) (st' := [.int ((nI c0) / 8), .int ((nI c0) - (nI c0) / 8 * 8)]) (w' := w) rfl ?_
      refine gd_cS E hA (av := [.int ((nI c0) - (nI c0) / 8 * 8), .int ((nI c0) / 8)]) (rest := []) (c2_at hinj ((nI c0) - (nI c0) / 8 * 8) ((nI c0) / 8) w) (K.1 74 (.invokestatic 15, 0) rfl).1 ml_S_15 cv_S_at ⟨Nat.le_of_ble_eq_true rfl, Nat.le_of_ble_eq_true rfl⟩ ⟨Nat.zero_le _, Nat.zero_le _⟩ rfl (Nat.le_of_ble_eq_true rfl) ?_
      refine gd_r E K 1 (pc' := 81) (lv' := [(0, .int (nI c0)), (1, .int (nI 0)), (2, .int ((nI c0) - (nI c0) / 8 * 8)), (3, .int ((nI c0) / 8))]) (st' := [.int (8 * ((nI c0) / 8) + ((nI c0) - (nI c0) / 8 * 8))]) (w' := w) rfl ?_
      exact gd_iretq E hr hlk (K.1 81 (.ireturn, 0) rfl).1 (by rw [c2_after_0 c0 hc, hg1, if_neg h1]) (rfl)
  · refine gd_r E K 9 (pc' := 11) (lv' := [(0, .int (nI c0)), (1, .int (nI 1)), (2, .int ((nI c0) - (nI c0) / 8 * 8)), (3, .int ((nI c0) / 8))]) (st' := [.int (nI 1)]) (w' := w) rfl ?_
    refine gd_tabIn E dsw_S_after (off := 29) (tgt := 40) (by decide) (by decide) (by decide) (by decide) ?_
    refine gd_r E K 4 (pc' := 66) (lv' := [(0, .int (nI c0)), (1, .int (nI 1)), (2, .int ((nI c0) - (nI c0) / 8 * 8)), (3, .int (((nI c0) / 8) + (-1)))]) (st' := [.int (((nI c0) / 8) + (-1)), .int ((nI c0) - (nI c0) / 8 * 8)]) (w' := w) rfl ?_
    refine gd_cS E hA (av := [.int ((nI c0) - (nI c0) / 8 * 8), .int (((nI c0) / 8) + (-1))]) (rest := []) (c2_has hinj ((nI c0) - (nI c0) / 8 * 8) (((nI c0) / 8) + (-1)) w) (K.1 66 (.invokestatic 9, 0) rfl).1 ml_S_9 cv_S_has ⟨Nat.le_of_ble_eq_true rfl, Nat.le_of_ble_eq_true rfl⟩ ⟨Nat.zero_le _, Nat.zero_le _⟩ rfl (Nat.le_of_ble_eq_true rfl) ?_
    generalize hg1 : gm_has ((nI c0) - (nI c0) / 8 * 8) (((nI c0) / 8) + (-1)) = g1
    refine gd_r E K 1 (pc' := if g1 = 0 then 80 else 72) (lv' := [(0, .int (nI c0)), (1, .int (nI 1)), (2, .int ((nI c0) - (nI c0) / 8 * 8)), (3, .int (((nI c0) / 8) + (-1)))]) (st' := []) (w' := w) rfl ?_
    refine gd_ite (fun h1 => ?_) (fun h1 => ?_)
    · refine gd_r E K 1 (pc' := 81) (lv' := [(0, .int (nI c0)), (1, .int (nI 1)), (2, .int ((nI c0) - (nI c0) / 8 * 8)), (3, .int (((nI c0) / 8) + (-1)))]) (st' := [.int (-1)]) (w' := w) rfl ?_
      exact gd_iretq E hr hlk (K.1 81 (.ireturn, 0) rfl).1 (by rw [c2_after_1 c0 hc, hg1, if_pos h1]) (rfl)
    · refine gd_r E K 2 (pc' := 74) (lv' := [(0, .int (nI c0)), (1, .int (nI 1)), (2, .int ((nI c0) - (nI c0) / 8 * 8)), (3, .int (((nI c0) / 8) + (-1)))]) (st' := [.int (((nI c0) / 8) + (-1)), .int ((nI c0) - (nI c0) / 8 * 8)]) (w' := w) rfl ?_
      refine gd_cS E hA (av := [.int ((nI c0) - (nI c0) / 8 * 8), .int (((nI c0) / 8) + (-1))]) (rest := []) (c2_at hinj ((nI c0) - (nI c0) / 8 * 8) (((nI c0) / 8) + (-1)) w) (K.1 74 (.invokestatic 15, 0) rfl).1 ml_S_15 cv_S_at ⟨Nat.le_of_ble_eq_true rfl, Nat.le_of_ble_eq_true rfl⟩ ⟨Nat.zero_le _, Nat.zero_le _⟩ rfl (Nat.le_of_ble_eq_true rfl) ?_
      refine gd_r E K 1 (pc' := 81) (lv' := [(0, .int (nI c0)), (1, .int (nI 1)), (2, .int ((nI c0) - (nI c0) / 8 * 8)), (3, .int (((nI c0) / 8) + (-1)))]) (st' := [.int (8 * (((nI c0) / 8) + (-1)) + ((nI c0) - (nI c0) / 8 * 8))]) (w' := w) rfl ?_
      exact gd_iretq E hr hlk (K.1 81 (.ireturn, 0) rfl).1 (by rw [c2_after_1 c0 hc, hg1, if_neg h1]) (rfl)
  · refine gd_r E K 9 (pc' := 11) (lv' := [(0, .int (nI c0)), (1, .int (nI 2)), (2, .int ((nI c0) - (nI c0) / 8 * 8)), (3, .int ((nI c0) / 8))]) (st' := [.int (nI 2)]) (w' := w) rfl ?_
    refine gd_tabIn E dsw_S_after (off := 35) (tgt := 46) (by decide) (by decide) (by decide) (by decide) ?_
    refine gd_r E K 4 (pc' := 66) (lv' := [(0, .int (nI c0)), (1, .int (nI 2)), (2, .int (((nI c0) - (nI c0) / 8 * 8) + 1)), (3, .int ((nI c0) / 8))]) (st' := [.int ((nI c0) / 8), .int (((nI c0) - (nI c0) / 8 * 8) + 1)]) (w' := w) rfl ?_
    refine gd_cS E hA (av := [.int (((nI c0) - (nI c0) / 8 * 8) + 1), .int ((nI c0) / 8)]) (rest := []) (c2_has hinj (((nI c0) - (nI c0) / 8 * 8) + 1) ((nI c0) / 8) w) (K.1 66 (.invokestatic 9, 0) rfl).1 ml_S_9 cv_S_has ⟨Nat.le_of_ble_eq_true rfl, Nat.le_of_ble_eq_true rfl⟩ ⟨Nat.zero_le _, Nat.zero_le _⟩ rfl (Nat.le_of_ble_eq_true rfl) ?_
    generalize hg1 : gm_has (((nI c0) - (nI c0) / 8 * 8) + 1) ((nI c0) / 8) = g1
    refine gd_r E K 1 (pc' := if g1 = 0 then 80 else 72) (lv' := [(0, .int (nI c0)), (1, .int (nI 2)), (2, .int (((nI c0) - (nI c0) / 8 * 8) + 1)), (3, .int ((nI c0) / 8))]) (st' := []) (w' := w) rfl ?_
    refine gd_ite (fun h1 => ?_) (fun h1 => ?_)
    · refine gd_r E K 1 (pc' := 81) (lv' := [(0, .int (nI c0)), (1, .int (nI 2)), (2, .int (((nI c0) - (nI c0) / 8 * 8) + 1)), (3, .int ((nI c0) / 8))]) (st' := [.int (-1)]) (w' := w) rfl ?_
      exact gd_iretq E hr hlk (K.1 81 (.ireturn, 0) rfl).1 (by rw [c2_after_2 c0 hc, hg1, if_pos h1]) (rfl)
    · refine gd_r E K 2 (pc' := 74) (lv' := [(0, .int (nI c0)), (1, .int (nI 2)), (2, .int (((nI c0) - (nI c0) / 8 * 8) + 1)), (3, .int ((nI c0) / 8))]) (st' := [.int ((nI c0) / 8), .int (((nI c0) - (nI c0) / 8 * 8) + 1)]) (w' := w) rfl ?_
      refine gd_cS E hA (av := [.int (((nI c0) - (nI c0) / 8 * 8) + 1), .int ((nI c0) / 8)]) (rest := []) (c2_at hinj (((nI c0) - (nI c0) / 8 * 8) + 1) ((nI c0) / 8) w) (K.1 74 (.invokestatic 15, 0) rfl).1 ml_S_15 cv_S_at ⟨Nat.le_of_ble_eq_true rfl, Nat.le_of_ble_eq_true rfl⟩ ⟨Nat.zero_le _, Nat.zero_le _⟩ rfl (Nat.le_of_ble_eq_true rfl) ?_
      refine gd_r E K 1 (pc' := 81) (lv' := [(0, .int (nI c0)), (1, .int (nI 2)), (2, .int (((nI c0) - (nI c0) / 8 * 8) + 1)), (3, .int ((nI c0) / 8))]) (st' := [.int (8 * ((nI c0) / 8) + (((nI c0) - (nI c0) / 8 * 8) + 1))]) (w' := w) rfl ?_
      exact gd_iretq E hr hlk (K.1 81 (.ireturn, 0) rfl).1 (by rw [c2_after_2 c0 hc, hg1, if_neg h1]) (rfl)
  · refine gd_r E K 9 (pc' := 11) (lv' := [(0, .int (nI c0)), (1, .int (nI 3)), (2, .int ((nI c0) - (nI c0) / 8 * 8)), (3, .int ((nI c0) / 8))]) (st' := [.int (nI 3)]) (w' := w) rfl ?_
    refine gd_tabIn E dsw_S_after (off := 41) (tgt := 52) (by decide) (by decide) (by decide) (by decide) ?_
    refine gd_r E K 4 (pc' := 66) (lv' := [(0, .int (nI c0)), (1, .int (nI 3)), (2, .int ((nI c0) - (nI c0) / 8 * 8)), (3, .int (((nI c0) / 8) + 1))]) (st' := [.int (((nI c0) / 8) + 1), .int ((nI c0) - (nI c0) / 8 * 8)]) (w' := w) rfl ?_
    refine gd_cS E hA (av := [.int ((nI c0) - (nI c0) / 8 * 8), .int (((nI c0) / 8) + 1)]) (rest := []) (c2_has hinj ((nI c0) - (nI c0) / 8 * 8) (((nI c0) / 8) + 1) w) (K.1 66 (.invokestatic 9, 0) rfl).1 ml_S_9 cv_S_has ⟨Nat.le_of_ble_eq_true rfl, Nat.le_of_ble_eq_true rfl⟩ ⟨Nat.zero_le _, Nat.zero_le _⟩ rfl (Nat.le_of_ble_eq_true rfl) ?_
    generalize hg1 : gm_has ((nI c0) - (nI c0) / 8 * 8) (((nI c0) / 8) + 1) = g1
    refine gd_r E K 1 (pc' := if g1 = 0 then 80 else 72) (lv' := [(0, .int (nI c0)), (1, .int (nI 3)), (2, .int ((nI c0) - (nI c0) / 8 * 8)), (3, .int (((nI c0) / 8) + 1))]) (st' := []) (w' := w) rfl ?_
    refine gd_ite (fun h1 => ?_) (fun h1 => ?_)
    · refine gd_r E K 1 (pc' := 81) (lv' := [(0, .int (nI c0)), (1, .int (nI 3)), (2, .int ((nI c0) - (nI c0) / 8 * 8)), (3, .int (((nI c0) / 8) + 1))]) (st' := [.int (-1)]) (w' := w) rfl ?_
      exact gd_iretq E hr hlk (K.1 81 (.ireturn, 0) rfl).1 (by rw [c2_after_3 c0 hc, hg1, if_pos h1]) (rfl)
    · refine gd_r E K 2 (pc' := 74) (lv' := [(0, .int (nI c0)), (1, .int (nI 3)), (2, .int ((nI c0) - (nI c0) / 8 * 8)), (3, .int (((nI c0) / 8) + 1))]) (st' := [.int (((nI c0) / 8) + 1), .int ((nI c0) - (nI c0) / 8 * 8)]) (w' := w) rfl ?_
      refine gd_cS E hA (av := [.int ((nI c0) - (nI c0) / 8 * 8), .int (((nI c0) / 8) + 1)]) (rest := []) (c2_at hinj ((nI c0) - (nI c0) / 8 * 8) (((nI c0) / 8) + 1) w) (K.1 74 (.invokestatic 15, 0) rfl).1 ml_S_15 cv_S_at ⟨Nat.le_of_ble_eq_true rfl, Nat.le_of_ble_eq_true rfl⟩ ⟨Nat.zero_le _, Nat.zero_le _⟩ rfl (Nat.le_of_ble_eq_true rfl) ?_
      refine gd_r E K 1 (pc' := 81) (lv' := [(0, .int (nI c0)), (1, .int (nI 3)), (2, .int ((nI c0) - (nI c0) / 8 * 8)), (3, .int (((nI c0) / 8) + 1))]) (st' := [.int (8 * (((nI c0) / 8) + 1) + ((nI c0) - (nI c0) / 8 * 8))]) (w' := w) rfl ?_
      exact gd_iretq E hr hlk (K.1 81 (.ireturn, 0) rfl).1 (by rw [c2_after_3 c0 hc, hg1, if_neg h1]) (rfl)
  · refine gd_r E K 9 (pc' := 11) (lv' := [(0, .int (nI c0)), (1, .int (nI 4)), (2, .int ((nI c0) - (nI c0) / 8 * 8)), (3, .int ((nI c0) / 8))]) (st' := [.int (nI 4)]) (w' := w) rfl ?_
    refine gd_tabIn E dsw_S_after (off := 47) (tgt := 58) (by decide) (by decide) (by decide) (by decide) ?_
    refine gd_r E K 4 (pc' := 66) (lv' := [(0, .int (nI c0)), (1, .int (nI 4)), (2, .int (((nI c0) - (nI c0) / 8 * 8) + (-1))), (3, .int ((nI c0) / 8))]) (st' := [.int ((nI c0) / 8), .int (((nI c0) - (nI c0) / 8 * 8) + (-1))]) (w' := w) rfl ?_
    refine gd_cS E hA (av := [.int (((nI c0) - (nI c0) / 8 * 8) + (-1)), .int ((nI c0) / 8)]) (rest := []) (c2_has hinj (((nI c0) - (nI c0) / 8 * 8) + (-1)) ((nI c0) / 8) w) (K.1 66 (.invokestatic 9, 0) rfl).1 ml_S_9 cv_S_has ⟨Nat.le_of_ble_eq_true rfl, Nat.le_of_ble_eq_true rfl⟩ ⟨Nat.zero_le _, Nat.zero_le _⟩ rfl (Nat.le_of_ble_eq_true rfl) ?_
    generalize hg1 : gm_has (((nI c0) - (nI c0) / 8 * 8) + (-1)) ((nI c0) / 8) = g1
    refine gd_r E K 1 (pc' := if g1 = 0 then 80 else 72) (lv' := [(0, .int (nI c0)), (1, .int (nI 4)), (2, .int (((nI c0) - (nI c0) / 8 * 8) + (-1))), (3, .int ((nI c0) / 8))]) (st' := []) (w' := w) rfl ?_
    refine gd_ite (fun h1 => ?_) (fun h1 => ?_)
    · refine gd_r E K 1 (pc' := 81) (lv' := [(0, .int (nI c0)), (1, .int (nI 4)), (2, .int (((nI c0) - (nI c0) / 8 * 8) + (-1))), (3, .int ((nI c0) / 8))]) (st' := [.int (-1)]) (w' := w) rfl ?_
      exact gd_iretq E hr hlk (K.1 81 (.ireturn, 0) rfl).1 (by rw [c2_after_4 c0 hc, hg1, if_pos h1]) (rfl)
    · refine gd_r E K 2 (pc' := 74) (lv' := [(0, .int (nI c0)), (1, .int (nI 4)), (2, .int (((nI c0) - (nI c0) / 8 * 8) + (-1))), (3, .int ((nI c0) / 8))]) (st' := [.int ((nI c0) / 8), .int (((nI c0) - (nI c0) / 8 * 8) + (-1))]) (w' := w) rfl ?_
      refine gd_cS E hA (av := [.int (((nI c0) - (nI c0) / 8 * 8) + (-1)), .int ((nI c0) / 8)]) (rest := []) (c2_at hinj (((nI c0) - (nI c0) / 8 * 8) + (-1)) ((nI c0) / 8) w) (K.1 74 (.invokestatic 15, 0) rfl).1 ml_S_15 cv_S_at ⟨Nat.le_of_ble_eq_true rfl, Nat.le_of_ble_eq_true rfl⟩ ⟨Nat.zero_le _, Nat.zero_le _⟩ rfl (Nat.le_of_ble_eq_true rfl) ?_
      refine gd_r E K 1 (pc' := 81) (lv' := [(0, .int (nI c0)), (1, .int (nI 4)), (2, .int (((nI c0) - (nI c0) / 8 * 8) + (-1))), (3, .int ((nI c0) / 8))]) (st' := [.int (8 * ((nI c0) / 8) + (((nI c0) - (nI c0) / 8 * 8) + (-1)))]) (w' := w) rfl ?_
      exact gd_iretq E hr hlk (K.1 81 (.ireturn, 0) rfl).1 (by rw [c2_after_4 c0 hc, hg1, if_neg h1]) (rfl)
theorem c2_moved_0 : ∀ c0, c0 < 64 → gm_nO (gm_mv c0 0) = if gm_has (((nI c0) - (nI c0) / 8 * 8) + 0) (((nI c0) / 8) + 0) = 0 then -1 else 8 * (((nI c0) / 8) + 0) + (((nI c0) - (nI c0) / 8 * 8) + 0) := by decide +kernel
theorem c2_moved_1 : ∀ c0, c0 < 64 → gm_nO (gm_mv c0 1) = if gm_has (((nI c0) - (nI c0) / 8 * 8) + 0) (((nI c0) / 8) + (-1)) = 0 then -1 else 8 * (((nI c0) / 8) + (-1)) + (((nI c0) - (nI c0) / 8 * 8) + 0) := by decide +kernel
theorem c2_moved_2 : ∀ c0, c0 < 64 → gm_nO (gm_mv c0 2) = if gm_has (((nI c0) - (nI c0) / 8 * 8) + 1) (((nI c0) / 8) + 0) = 0 then -1 else 8 * (((nI c0) / 8) + 0) + (((nI c0) - (nI c0) / 8 * 8) + 1) := by decide +kernel
theorem c2_moved_3 : ∀ c0, c0 < 64 → gm_nO (gm_mv c0 3) = if gm_has (((nI c0) - (nI c0) / 8 * 8) + 0) (((nI c0) / 8) + 1) = 0 then -1 else 8 * (((nI c0) / 8) + 1) + (((nI c0) - (nI c0) / 8 * 8) + 0) := by decide +kernel
theorem c2_moved_4 : ∀ c0, c0 < 64 → gm_nO (gm_mv c0 4) = if gm_has (((nI c0) - (nI c0) / 8 * 8) + (-1)) (((nI c0) / 8) + 0) = 0 then -1 else 8 * (((nI c0) / 8) + 0) + (((nI c0) - (nI c0) / 8 * 8) + (-1)) := by decide +kernel
set_option maxRecDepth 100000 in
theorem c2_moved {l : Launch} {D : va_G} {tC : FieldType → ClassId} {ad : Nat → Nat} (hinj : ∀ i j, ad i = ad j → i = j) (c0 k : Nat) (hc : c0 < 64) (hk : k < 5) (w : gd_W) : gd_Ct l D tC ad 45 1 21 y_M_moved c_M_moved 4 (some .int) [.int (nI c0), .int (nI k)] w (some (.int (gm_nO (gm_mv c0 k)))) w := by
  refine gd_Ct_of rfl hinj (Nat.le_of_ble_eq_true rfl) ?_
  intro p e s m args below meth c E hr hlk
  have K := k_M_moved
  have hA : ∀ q, gd_A ad 45 s.heap.size q → gd_A ad 45 s.heap.size q := fun _ h => h
  rcases (by omega : k = 0 ∨ k = 1 ∨ k = 2 ∨ k = 3 ∨ k = 4) with rfl | rfl | rfl | rfl | rfl
  · refine gd_r E K 26 (pc' := 52) (lv' := [(0, .int (nI c0)), (1, .int (nI 0)), (2, .int (((nI c0) - (nI c0) / 8 * 8) + 0)), (3, .int (((nI c0) / 8) + 0))]) (st' := [.int (((nI c0) / 8) + 0), .int (((nI c0) - (nI c0) / 8 * 8) + 0)]) (w' := w) rfl ?_
    refine gd_cS E hA (av := [.int (((nI c0) - (nI c0) / 8 * 8) + 0), .int (((nI c0) / 8) + 0)]) (rest := []) (c2_isCell hinj (((nI c0) - (nI c0) / 8 * 8) + 0) (((nI c0) / 8) + 0) w) (K.1 52 (.invokestatic 64, 0) rfl).1 ml_M_64 cv_M_isCell ⟨Nat.le_of_ble_eq_true rfl, Nat.le_of_ble_eq_true rfl⟩ ⟨Nat.zero_le _, Nat.zero_le _⟩ rfl (Nat.le_of_ble_eq_true rfl) ?_
    generalize hg1 : gm_has (((nI c0) - (nI c0) / 8 * 8) + 0) (((nI c0) / 8) + 0) = g1
    refine gd_r E K 1 (pc' := if g1 = 0 then 67 else 58) (lv' := [(0, .int (nI c0)), (1, .int (nI 0)), (2, .int (((nI c0) - (nI c0) / 8 * 8) + 0)), (3, .int (((nI c0) / 8) + 0))]) (st' := []) (w' := w) rfl ?_
    refine gd_ite (fun h1 => ?_) (fun h1 => ?_)
    · refine gd_r E K 1 (pc' := 68) (lv' := [(0, .int (nI c0)), (1, .int (nI 0)), (2, .int (((nI c0) - (nI c0) / 8 * 8) + 0)), (3, .int (((nI c0) / 8) + 0))]) (st' := [.int (-1)]) (w' := w) rfl ?_
      exact gd_iretq E hr hlk (K.1 68 (.ireturn, 0) rfl).1 (by rw [c2_moved_0 c0 hc, hg1, if_pos h1]) (rfl)
    · refine gd_r E K 6 (pc' := 68) (lv' := [(0, .int (nI c0)), (1, .int (nI 0)), (2, .int (((nI c0) - (nI c0) / 8 * 8) + 0)), (3, .int (((nI c0) / 8) + 0))]) (st' := [.int ((8 * (((nI c0) / 8) + 0)) + (((nI c0) - (nI c0) / 8 * 8) + 0))]) (w' := w) rfl ?_
      exact gd_iretq E hr hlk (K.1 68 (.ireturn, 0) rfl).1 (by rw [c2_moved_0 c0 hc, hg1, if_neg h1]) (rfl)
  · refine gd_r E K 27 (pc' := 52) (lv' := [(0, .int (nI c0)), (1, .int (nI 1)), (2, .int (((nI c0) - (nI c0) / 8 * 8) + 0)), (3, .int (((nI c0) / 8) + (-1)))]) (st' := [.int (((nI c0) / 8) + (-1)), .int (((nI c0) - (nI c0) / 8 * 8) + 0)]) (w' := w) rfl ?_
    refine gd_cS E hA (av := [.int (((nI c0) - (nI c0) / 8 * 8) + 0), .int (((nI c0) / 8) + (-1))]) (rest := []) (c2_isCell hinj (((nI c0) - (nI c0) / 8 * 8) + 0) (((nI c0) / 8) + (-1)) w) (K.1 52 (.invokestatic 64, 0) rfl).1 ml_M_64 cv_M_isCell ⟨Nat.le_of_ble_eq_true rfl, Nat.le_of_ble_eq_true rfl⟩ ⟨Nat.zero_le _, Nat.zero_le _⟩ rfl (Nat.le_of_ble_eq_true rfl) ?_
    generalize hg1 : gm_has (((nI c0) - (nI c0) / 8 * 8) + 0) (((nI c0) / 8) + (-1)) = g1
    refine gd_r E K 1 (pc' := if g1 = 0 then 67 else 58) (lv' := [(0, .int (nI c0)), (1, .int (nI 1)), (2, .int (((nI c0) - (nI c0) / 8 * 8) + 0)), (3, .int (((nI c0) / 8) + (-1)))]) (st' := []) (w' := w) rfl ?_
    refine gd_ite (fun h1 => ?_) (fun h1 => ?_)
    · refine gd_r E K 1 (pc' := 68) (lv' := [(0, .int (nI c0)), (1, .int (nI 1)), (2, .int (((nI c0) - (nI c0) / 8 * 8) + 0)), (3, .int (((nI c0) / 8) + (-1)))]) (st' := [.int (-1)]) (w' := w) rfl ?_
      exact gd_iretq E hr hlk (K.1 68 (.ireturn, 0) rfl).1 (by rw [c2_moved_1 c0 hc, hg1, if_pos h1]) (rfl)
    · refine gd_r E K 6 (pc' := 68) (lv' := [(0, .int (nI c0)), (1, .int (nI 1)), (2, .int (((nI c0) - (nI c0) / 8 * 8) + 0)), (3, .int (((nI c0) / 8) + (-1)))]) (st' := [.int ((8 * (((nI c0) / 8) + (-1))) + (((nI c0) - (nI c0) / 8 * 8) + 0))]) (w' := w) rfl ?_
      exact gd_iretq E hr hlk (K.1 68 (.ireturn, 0) rfl).1 (by rw [c2_moved_1 c0 hc, hg1, if_neg h1]) (rfl)
  · refine gd_r E K 24 (pc' := 52) (lv' := [(0, .int (nI c0)), (1, .int (nI 2)), (2, .int (((nI c0) - (nI c0) / 8 * 8) + 1)), (3, .int (((nI c0) / 8) + 0))]) (st' := [.int (((nI c0) / 8) + 0), .int (((nI c0) - (nI c0) / 8 * 8) + 1)]) (w' := w) rfl ?_
    refine gd_cS E hA (av := [.int (((nI c0) - (nI c0) / 8 * 8) + 1), .int (((nI c0) / 8) + 0)]) (rest := []) (c2_isCell hinj (((nI c0) - (nI c0) / 8 * 8) + 1) (((nI c0) / 8) + 0) w) (K.1 52 (.invokestatic 64, 0) rfl).1 ml_M_64 cv_M_isCell ⟨Nat.le_of_ble_eq_true rfl, Nat.le_of_ble_eq_true rfl⟩ ⟨Nat.zero_le _, Nat.zero_le _⟩ rfl (Nat.le_of_ble_eq_true rfl) ?_
    generalize hg1 : gm_has (((nI c0) - (nI c0) / 8 * 8) + 1) (((nI c0) / 8) + 0) = g1
    refine gd_r E K 1 (pc' := if g1 = 0 then 67 else 58) (lv' := [(0, .int (nI c0)), (1, .int (nI 2)), (2, .int (((nI c0) - (nI c0) / 8 * 8) + 1)), (3, .int (((nI c0) / 8) + 0))]) (st' := []) (w' := w) rfl ?_
    refine gd_ite (fun h1 => ?_) (fun h1 => ?_)
    · refine gd_r E K 1 (pc' := 68) (lv' := [(0, .int (nI c0)), (1, .int (nI 2)), (2, .int (((nI c0) - (nI c0) / 8 * 8) + 1)), (3, .int (((nI c0) / 8) + 0))]) (st' := [.int (-1)]) (w' := w) rfl ?_
      exact gd_iretq E hr hlk (K.1 68 (.ireturn, 0) rfl).1 (by rw [c2_moved_2 c0 hc, hg1, if_pos h1]) (rfl)
    · refine gd_r E K 6 (pc' := 68) (lv' := [(0, .int (nI c0)), (1, .int (nI 2)), (2, .int (((nI c0) - (nI c0) / 8 * 8) + 1)), (3, .int (((nI c0) / 8) + 0))]) (st' := [.int ((8 * (((nI c0) / 8) + 0)) + (((nI c0) - (nI c0) / 8 * 8) + 1))]) (w' := w) rfl ?_
      exact gd_iretq E hr hlk (K.1 68 (.ireturn, 0) rfl).1 (by rw [c2_moved_2 c0 hc, hg1, if_neg h1]) (rfl)
  · refine gd_r E K 24 (pc' := 52) (lv' := [(0, .int (nI c0)), (1, .int (nI 3)), (2, .int (((nI c0) - (nI c0) / 8 * 8) + 0)), (3, .int (((nI c0) / 8) + 1))]) (st' := [.int (((nI c0) / 8) + 1), .int (((nI c0) - (nI c0) / 8 * 8) + 0)]) (w' := w) rfl ?_
    refine gd_cS E hA (av := [.int (((nI c0) - (nI c0) / 8 * 8) + 0), .int (((nI c0) / 8) + 1)]) (rest := []) (c2_isCell hinj (((nI c0) - (nI c0) / 8 * 8) + 0) (((nI c0) / 8) + 1) w) (K.1 52 (.invokestatic 64, 0) rfl).1 ml_M_64 cv_M_isCell ⟨Nat.le_of_ble_eq_true rfl, Nat.le_of_ble_eq_true rfl⟩ ⟨Nat.zero_le _, Nat.zero_le _⟩ rfl (Nat.le_of_ble_eq_true rfl) ?_
    generalize hg1 : gm_has (((nI c0) - (nI c0) / 8 * 8) + 0) (((nI c0) / 8) + 1) = g1
    refine gd_r E K 1 (pc' := if g1 = 0 then 67 else 58) (lv' := [(0, .int (nI c0)), (1, .int (nI 3)), (2, .int (((nI c0) - (nI c0) / 8 * 8) + 0)), (3, .int (((nI c0) / 8) + 1))]) (st' := []) (w' := w) rfl ?_
    refine gd_ite (fun h1 => ?_) (fun h1 => ?_)
    · refine gd_r E K 1 (pc' := 68) (lv' := [(0, .int (nI c0)), (1, .int (nI 3)), (2, .int (((nI c0) - (nI c0) / 8 * 8) + 0)), (3, .int (((nI c0) / 8) + 1))]) (st' := [.int (-1)]) (w' := w) rfl ?_
      exact gd_iretq E hr hlk (K.1 68 (.ireturn, 0) rfl).1 (by rw [c2_moved_3 c0 hc, hg1, if_pos h1]) (rfl)
    · refine gd_r E K 6 (pc' := 68) (lv' := [(0, .int (nI c0)), (1, .int (nI 3)), (2, .int (((nI c0) - (nI c0) / 8 * 8) + 0)), (3, .int (((nI c0) / 8) + 1))]) (st' := [.int ((8 * (((nI c0) / 8) + 1)) + (((nI c0) - (nI c0) / 8 * 8) + 0))]) (w' := w) rfl ?_
      exact gd_iretq E hr hlk (K.1 68 (.ireturn, 0) rfl).1 (by rw [c2_moved_3 c0 hc, hg1, if_neg h1]) (rfl)
  · refine gd_r E K 27 (pc' := 52) (lv' := [(0, .int (nI c0)), (1, .int (nI 4)), (2, .int (((nI c0) - (nI c0) / 8 * 8) + (-1))), (3, .int (((nI c0) / 8) + 0))]) (st' := [.int (((nI c0) / 8) + 0), .int (((nI c0) - (nI c0) / 8 * 8) + (-1))]) (w' := w) rfl ?_
    refine gd_cS E hA (av := [.int (((nI c0) - (nI c0) / 8 * 8) + (-1)), .int (((nI c0) / 8) + 0)]) (rest := []) (c2_isCell hinj (((nI c0) - (nI c0) / 8 * 8) + (-1)) (((nI c0) / 8) + 0) w) (K.1 52 (.invokestatic 64, 0) rfl).1 ml_M_64 cv_M_isCell ⟨Nat.le_of_ble_eq_true rfl, Nat.le_of_ble_eq_true rfl⟩ ⟨Nat.zero_le _, Nat.zero_le _⟩ rfl (Nat.le_of_ble_eq_true rfl) ?_
    generalize hg1 : gm_has (((nI c0) - (nI c0) / 8 * 8) + (-1)) (((nI c0) / 8) + 0) = g1
    refine gd_r E K 1 (pc' := if g1 = 0 then 67 else 58) (lv' := [(0, .int (nI c0)), (1, .int (nI 4)), (2, .int (((nI c0) - (nI c0) / 8 * 8) + (-1))), (3, .int (((nI c0) / 8) + 0))]) (st' := []) (w' := w) rfl ?_
    refine gd_ite (fun h1 => ?_) (fun h1 => ?_)
    · refine gd_r E K 1 (pc' := 68) (lv' := [(0, .int (nI c0)), (1, .int (nI 4)), (2, .int (((nI c0) - (nI c0) / 8 * 8) + (-1))), (3, .int (((nI c0) / 8) + 0))]) (st' := [.int (-1)]) (w' := w) rfl ?_
      exact gd_iretq E hr hlk (K.1 68 (.ireturn, 0) rfl).1 (by rw [c2_moved_4 c0 hc, hg1, if_pos h1]) (rfl)
    · refine gd_r E K 6 (pc' := 68) (lv' := [(0, .int (nI c0)), (1, .int (nI 4)), (2, .int (((nI c0) - (nI c0) / 8 * 8) + (-1))), (3, .int (((nI c0) / 8) + 0))]) (st' := [.int ((8 * (((nI c0) / 8) + 0)) + (((nI c0) - (nI c0) / 8 * 8) + (-1)))]) (w' := w) rfl ?_
      exact gd_iretq E hr hlk (K.1 68 (.ireturn, 0) rfl).1 (by rw [c2_moved_4 c0 hc, hg1, if_neg h1]) (rfl)
