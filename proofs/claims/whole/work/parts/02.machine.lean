/-! The machine by an abstract world: cells by number, each a row of ints, of longs and of references; a straight stretch of code is run by a function (gd_run), and what it gives is checked by rfl. -/
-- a world: the ints, the longs, the references of each cell, by the cell's number and the slot's
abbrev gd_W : Type := (Nat → Nat → Int32) × (Nat → Nat → Int64) × (Nat → Nat → Option Nat)
def gd_rI (w : gd_W) (k : Nat) (f : Nat → Int32) : gd_W := (fun a => if a = k then f else w.1 a, w.2.1, w.2.2)
def gd_rL (w : gd_W) (k : Nat) (f : Nat → Int64) : gd_W := (w.1, fun a => if a = k then f else w.2.1 a, w.2.2)
def gd_rR (w : gd_W) (k : Nat) (f : Nat → Option Nat) : gd_W := (w.1, w.2.1, fun a => if a = k then f else w.2.2 a)
def gd_tr (ad : Nat → Nat) (v : Value) : Value := match v with
  | .ref k => .ref (ad k)
  | .int x => .int x
  | .long x => .long x
  | .float x => .float x
  | .double x => .double x
  | .null => .null
  | .retAddr x => .retAddr x
theorem gd_tr_cat (ad : Nat → Nat) (v : Value) : (gd_tr ad v).category = v.category := by cases v <;> rfl
theorem gd_tr_rf (ad : Nat → Nat) (r : Option Nat) : gd_tr ad (va_rf r) = va_rf (r.map ad) := by cases r <;> rfl
-- a field's value, with references as cells' numbers, and with addresses
def gd_av (w : gd_W) (k j : Nat) (ty : FieldType) : Value := match ty with
  | .long => .long (w.2.1 k j)
  | .object _ => va_rf (gd_fix k j)
  | .array _ => va_rf (gd_fix k j)
  | _ => .int (w.1 k j)
def gd_ar (ad : Nat → Nat) (w : gd_W) (k : Nat) (ty : FieldType) : (Nat → Int32) ⊕ (Nat → Int64) ⊕ (Nat → UInt32) ⊕ (Nat → UInt64) ⊕ (Nat → Option Nat) := match ty with
  | .long => .inr (.inl (w.2.1 k))
  | .object _ => .inr (.inr (.inr (.inr (fun j => (w.2.2 k j).map ad))))
  | .array _ => .inr (.inr (.inr (.inr (fun j => (w.2.2 k j).map ad))))
  | _ => .inl (w.1 k)
def gd_fs (ad : Nat → Nat) (w : gd_W) (k : Nat) (ts : List FieldType) : List Value := ts.zipIdx.map fun q => gd_tr ad (gd_av w k q.2 q.1)
def gd_ce (tC : FieldType → ClassId) (ad : Nat → Nat) (w : gd_W) (k : Nat) (sh : gd_S) : va_E := match sh with
  | .inl o => .inr (o, gd_fs ad w k (gd_ft o))
  | .inr a => .inl (tC a.1, a.2, gd_ar ad w k a.1)
def gd_wl (tC : FieldType → ClassId) (ad : Nat → Nat) (n : Nat) (w : gd_W) : va_W := (List.range n).map fun k => (ad k, gd_ce tC ad w k (gd_sh k))
theorem gd_wl_at {tC : FieldType → ClassId} {ad : Nat → Nat} {n : Nat} {w : gd_W} {k : Nat} (hk : k < n) : (gd_wl tC ad n w)[k]? = some (ad k, gd_ce tC ad w k (gd_sh k)) := by
  simp [gd_wl, List.getElem?_map, List.getElem?_range hk]
/-- off row k the two worlds are one -/
def gd_off (w w' : gd_W) (k : Nat) : Prop := ∀ a, a ≠ k → w'.1 a = w.1 a ∧ w'.2.1 a = w.2.1 a ∧ w'.2.2 a = w.2.2 a
theorem gd_off_I (w : gd_W) (k : Nat) (f : Nat → Int32) : gd_off w (gd_rI w k f) k := fun a h => ⟨by simp [gd_rI, h], rfl, rfl⟩
theorem gd_off_L (w : gd_W) (k : Nat) (f : Nat → Int64) : gd_off w (gd_rL w k f) k := fun a h => ⟨rfl, by simp [gd_rL, h], rfl⟩
theorem gd_off_R (w : gd_W) (k : Nat) (f : Nat → Option Nat) : gd_off w (gd_rR w k f) k := fun a h => ⟨rfl, rfl, by simp [gd_rR, h]⟩
theorem gd_ce_off {tC : FieldType → ClassId} {ad : Nat → Nat} {w w' : gd_W} {k a : Nat} {sh : gd_S} (h : gd_off w w' k) (ha : a ≠ k) : gd_ce tC ad w' a sh = gd_ce tC ad w a sh := by
  obtain ⟨h1, h2, h3⟩ := h a ha
  cases sh with
  | inl o =>
    simp only [gd_ce, gd_fs]
    congr 2
    refine List.map_congr_left fun q _ => ?_
    simp only [gd_av, h1, h2, h3]
  | inr o => simp only [gd_ce, gd_ar, h1, h2, h3]
theorem gd_wl_set {tC : FieldType → ClassId} {ad : Nat → Nat} {n : Nat} {w w' : gd_W} {k : Nat} {x : va_E} (h : gd_off w w' k) (hx : x = gd_ce tC ad w' k (gd_sh k)) : (gd_wl tC ad n w).set k (ad k, x) = gd_wl tC ad n w' := by
  subst hx
  refine List.ext_getElem? fun i => ?_
  by_cases hi : i < n
  · by_cases hik : k = i
    · subst hik
      rw [List.getElem?_set_self (by simpa [gd_wl] using hi), gd_wl_at hi]
    · rw [List.getElem?_set_ne hik, gd_wl_at hi, gd_wl_at hi, gd_ce_off h (fun q => hik q.symm)]
  · have h1 : ((gd_wl tC ad n w).set k (ad k, gd_ce tC ad w' k (gd_sh k))).length ≤ i := by simp [gd_wl]; omega
    have h2 : (gd_wl tC ad n w').length ≤ i := by simp [gd_wl]; omega
    rw [List.getElem?_eq_none h1, List.getElem?_eq_none h2]
theorem gd_fs_at {ad : Nat → Nat} {w : gd_W} {k j : Nat} {ts : List FieldType} {ty : FieldType} (h : ts[j]? = some ty) : (gd_fs ad w k ts)[j]? = some (gd_tr ad (gd_av w k j ty)) := by
  simp [gd_fs, List.getElem?_map, List.getElem?_zipIdx, h]
theorem gd_fs_len {ad : Nat → Nat} {w : gd_W} {k : Nat} {ts : List FieldType} : (gd_fs ad w k ts).length = ts.length := by simp [gd_fs]
/-- a store into field j: the other fields are kept -/
theorem gd_fs_set {ad : Nat → Nat} {w w' : gd_W} {k j : Nat} {ts : List FieldType} {ty : FieldType} {v : Value} (h : ts[j]? = some ty) (hv : gd_tr ad (gd_av w' k j ty) = v)
    (ho : ∀ i t, ts[i]? = some t → i ≠ j → gd_av w' k i t = gd_av w k i t) : (gd_fs ad w k ts).set j v = gd_fs ad w' k ts := by
  refine List.ext_getElem? fun i => ?_
  by_cases hij : j = i
  · subst hij
    have hl : j < ts.length := (List.getElem?_eq_some_iff.mp h).1
    rw [List.getElem?_set_self (by rw [gd_fs_len]; exact hl), gd_fs_at h, hv]
  · rw [List.getElem?_set_ne hij]
    cases ht : ts[i]? with
    | some t => rw [gd_fs_at ht, gd_fs_at ht, ho i t ht (fun q => hij q.symm)]
    | none =>
      have h1 : ts.length ≤ i := by simpa using ht
      rw [List.getElem?_eq_none (by rw [gd_fs_len]; exact h1), List.getElem?_eq_none (by rw [gd_fs_len]; exact h1)]
-- locals: by their places, in rising order
def gd_get : List (Nat × Value) → Nat → Option Value
  | [], _ => none
  | q :: t, i => bif Nat.beq q.1 i then some q.2 else gd_get t i
theorem gd_get_mem : ∀ {lv : List (Nat × Value)} {i : Nat} {v : Value}, gd_get lv i = some v → (i, v) ∈ lv
  | [], i, v, h => by cases h
  | (j, x) :: t, i, v, h => by
    rw [gd_get] at h
    cases hb : Nat.beq j i with
    | true =>
      rw [hb] at h
      have hji : j = i := Nat.eq_of_beq_eq_true hb
      cases h
      rw [hji]
      exact List.mem_cons_self
    | false =>
      rw [hb] at h
      exact List.mem_cons_of_mem _ (gd_get_mem h)
def gd_ok1 (i : Nat) (q : Nat × Value) : Bool := !(q.1 == i) && !(q.1 + 1 == i && q.2.category == 2)
def gd_ok2 (i : Nat) (q : Nat × Value) : Bool := !(q.1 == i) && (!(q.1 == i + 1) && !(q.1 + 1 == i && q.2.category == 2))
def gd_put1 (lv : List (Nat × Value)) (i : Nat) (v : Value) : List (Nat × Value) := lv.filter (fun q => Nat.blt q.1 i && gd_ok1 i q) ++ (i, v) :: lv.filter (fun q => Nat.blt i q.1 && gd_ok1 i q)
def gd_put2 (lv : List (Nat × Value)) (i : Nat) (v : Value) : List (Nat × Value) := lv.filter (fun q => Nat.blt q.1 i && gd_ok2 i q) ++ (i, v) :: lv.filter (fun q => Nat.blt i q.1 && gd_ok2 i q)
def gd_lt (ad : Nat → Nat) (lv : List (Nat × Value)) : List (Nat × Value) := lv.map fun q => (q.1, gd_tr ad q.2)
theorem gd_has_sub {ls : Array Slot} {nL : Nat} {l l' : List (Nat × Value)} (h : lv_has ls nL l) (hs : ∀ q ∈ l', q ∈ l) : lv_has ls nL l' := ⟨h.1, h.2.1, fun q hq => h.2.2 q (hs q hq)⟩
theorem gd_has_get {ad : Nat → Nat} {ls : Array Slot} {nL : Nat} {lv : List (Nat × Value)} (h : lv_has ls nL (gd_lt ad lv)) {i : Nat} {v : Value} (hg : gd_get lv i = some v) : ls[i]? = some (.val (gd_tr ad v)) :=
  h.2.2 (i, gd_tr ad v) (List.mem_map.mpr ⟨(i, v), gd_get_mem hg, rfl⟩)
theorem gd_has_put1 {ad : Nat → Nat} {ls : Array Slot} {nL : Nat} {lv : List (Nat × Value)} {i : Nat} {v : Value}
    (h : lv_has ls nL ((i, gd_tr ad v) :: (gd_lt ad lv).filter (fun q => !(q.1 == i) && !(q.1 + 1 == i && q.2.category == 2)))) : lv_has ls nL (gd_lt ad (gd_put1 lv i v)) := by
  refine gd_has_sub h fun q hq => ?_
  obtain ⟨x, hx, rfl⟩ := List.mem_map.mp hq
  have key : ∀ y ∈ lv, gd_ok1 i y = true → (y.1, gd_tr ad y.2) ∈ (i, gd_tr ad v) :: (gd_lt ad lv).filter (fun q => !(q.1 == i) && !(q.1 + 1 == i && q.2.category == 2)) := by
    intro y hy ho
    refine List.mem_cons_of_mem _ (List.mem_filter.mpr ⟨List.mem_map.mpr ⟨y, hy, rfl⟩, ?_⟩)
    simp only [gd_tr_cat]
    exact ho
  rcases List.mem_append.mp hx with h1 | h1
  · obtain ⟨a, b⟩ := List.mem_filter.mp h1
    exact key x a (by simp only [Bool.and_eq_true] at b; exact b.2)
  · rcases List.mem_cons.mp h1 with h2 | h2
    · subst h2
      exact List.mem_cons_self
    · obtain ⟨a, b⟩ := List.mem_filter.mp h2
      exact key x a (by simp only [Bool.and_eq_true] at b; exact b.2)
theorem gd_has_put2 {ad : Nat → Nat} {ls : Array Slot} {nL : Nat} {lv : List (Nat × Value)} {i : Nat} {v : Value}
    (h : lv_has ls nL ((i, gd_tr ad v) :: (gd_lt ad lv).filter (fun q => !(q.1 == i) && (!(q.1 == i + 1) && !(q.1 + 1 == i && q.2.category == 2))))) : lv_has ls nL (gd_lt ad (gd_put2 lv i v)) := by
  refine gd_has_sub h fun q hq => ?_
  obtain ⟨x, hx, rfl⟩ := List.mem_map.mp hq
  have key : ∀ y ∈ lv, gd_ok2 i y = true → (y.1, gd_tr ad y.2) ∈ (i, gd_tr ad v) :: (gd_lt ad lv).filter (fun q => !(q.1 == i) && (!(q.1 == i + 1) && !(q.1 + 1 == i && q.2.category == 2))) := by
    intro y hy ho
    refine List.mem_cons_of_mem _ (List.mem_filter.mpr ⟨List.mem_map.mpr ⟨y, hy, rfl⟩, ?_⟩)
    simp only [gd_tr_cat]
    exact ho
  rcases List.mem_append.mp hx with h1 | h1
  · obtain ⟨a, b⟩ := List.mem_filter.mp h1
    exact key x a (by simp only [Bool.and_eq_true] at b; exact b.2)
  · rcases List.mem_cons.mp h1 with h2 | h2
    · subst h2
      exact List.mem_cons_self
    · obtain ⟨a, b⟩ := List.mem_filter.mp h2
      exact key x a (by simp only [Bool.and_eq_true] at b; exact b.2)
