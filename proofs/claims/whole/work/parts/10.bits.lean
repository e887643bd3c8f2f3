/-! Cells, moves, sets of cells as longs. -/
def gm_mv (c m : Nat) : Option Nat :=
  if m = 1 then (if 8 ≤ c then some (c - 8) else none)
  else if m = 2 then (if c % 8 < 7 then some (c + 1) else none)
  else if m = 3 then (if c < 56 then some (c + 8) else none)
  else if m = 4 then (if 0 < c % 8 then some (c - 1) else none)
  else some c
def gm_nO (x : Option Nat) : Int32 := match x with
  | none => -1
  | some a => nI a
def gm_near (a b : Nat) : Bool := decide (a % 8 ≤ b % 8 + 1 ∧ b % 8 ≤ a % 8 + 1 ∧ a / 8 ≤ b / 8 + 1 ∧ b / 8 ≤ a / 8 + 1)
theorem gm_near_comm (a b : Nat) : gm_near a b = gm_near b a := by
  simp only [gm_near]
  congr 1
  exact propext ⟨fun h => ⟨h.2.1, h.1, h.2.2.2, h.2.2.1⟩, fun h => ⟨h.2.1, h.1, h.2.2.2, h.2.2.1⟩⟩
theorem gm_mv_lt {c m b : Nat} (hc : c < 64) (h : gm_mv c m = some b) : b < 64 := by
  unfold gm_mv at h
  repeat' split at h
  all_goals first | (cases h; omega) | cases h
theorem gm_mv_0 (c : Nat) : gm_mv c 0 = some c := rfl
theorem gm_mv_1 (c : Nat) : gm_mv c 1 = if 8 ≤ c then some (c - 8) else none := rfl
theorem gm_mv_2 (c : Nat) : gm_mv c 2 = if c % 8 < 7 then some (c + 1) else none := rfl
theorem gm_mv_3 (c : Nat) : gm_mv c 3 = if c < 56 then some (c + 8) else none := rfl
theorem gm_mv_4 (c : Nat) : gm_mv c 4 = if 0 < c % 8 then some (c - 1) else none := rfl
def gm_bit (x : Int64) (c : Nat) : Bool := x.toBitVec.getLsbD c
def gm_shl (x : Int64) (y : Int32) : Int64 := x <<< (y.toInt64 &&& 63)
def gm_ushr (x : Int64) (y : Int32) : Int64 := (x.toUInt64 >>> (y.toInt64.toUInt64 &&& Int64.toUInt64 63)).toInt64
def gm_ud (x : Int64) : Int64 := x ||| gm_shl x 8 ||| gm_ushr x 8
def gm_sw (x : Int64) : Int64 := x ||| gm_shl (x &&& 0x7F7F7F7F7F7F7F7F) 1 ||| gm_ushr (x &&& (-72340172838076674)) 1
theorem gm_bit_hi (x : Int64) {c : Nat} (h : 64 ≤ c) : gm_bit x c = false := BitVec.getLsbD_of_ge _ _ h
theorem gm_bit_or (x y : Int64) (c : Nat) : gm_bit (x ||| y) c = (gm_bit x c || gm_bit y c) := by
  simp [gm_bit, Int64.toBitVec_or]
theorem gm_bit_and (x y : Int64) (c : Nat) : gm_bit (x &&& y) c = (gm_bit x c && gm_bit y c) := by
  simp [gm_bit, Int64.toBitVec_and]
theorem gm_bit_shl (x : Int64) (y : Int32) (k : Nat) (hk : ((y.toInt64 &&& 63).toBitVec.smod 64).toNat = k) (c : Nat) : gm_bit (gm_shl x y) c = (decide (c < 64) && !decide (c < k) && gm_bit x (c - k)) := by
  simp only [gm_bit, gm_shl, Int64.toBitVec_shiftLeft, BitVec.shiftLeft_eq', hk, BitVec.getLsbD_shiftLeft]
theorem gm_bit_ushr (x : Int64) (y : Int32) (k : Nat) (hk : ((y.toInt64.toUInt64 &&& Int64.toUInt64 63).toBitVec % 64).toNat = k) (c : Nat) : gm_bit (gm_ushr x y) c = gm_bit x (k + c) := by
  simp only [gm_bit, gm_ushr, UInt64.toBitVec_toInt64, UInt64.toBitVec_shiftRight, BitVec.ushiftRight_eq', hk, BitVec.getLsbD_ushiftRight, Int64.toBitVec_toUInt64]
theorem gm_bit_ud (x : Int64) {c : Nat} (hc : c < 64) : gm_bit (gm_ud x) c = (gm_bit x c || (!decide (c < 8) && gm_bit x (c - 8)) || gm_bit x (c + 8)) := by
  rw [gm_ud, gm_bit_or, gm_bit_or, gm_bit_shl x 8 8 (by decide), gm_bit_ushr x 8 8 (by decide), Nat.add_comm 8 c]
  simp [hc]
theorem gm_mask7 : ∀ c, c < 64 → gm_bit 0x7F7F7F7F7F7F7F7F c = !decide (c % 8 = 7) := by decide
theorem gm_maskF : ∀ c, c < 64 → gm_bit (-72340172838076674) c = !decide (c % 8 = 0) := by decide
theorem gm_bit_sw (x : Int64) {c : Nat} (hc : c < 64) : gm_bit (gm_sw x) c = (gm_bit x c || (!decide (c % 8 = 0) && gm_bit x (c - 1)) || (!decide (c % 8 = 7) && gm_bit x (c + 1))) := by
  rw [gm_sw, gm_bit_or, gm_bit_or, gm_bit_shl _ 1 1 (by decide), gm_bit_ushr _ 1 1 (by decide), Nat.add_comm 1 c, gm_bit_and, gm_bit_and]
  by_cases h0 : c = 0
  · subst h0
    rw [gm_maskF 1 (by omega)]
    simp
  · rw [gm_mask7 (c - 1) (by omega)]
    have e1 : (c - 1) % 8 = 7 ↔ c % 8 = 0 := by omega
    have e2 : ¬ c < 1 := by omega
    by_cases h1 : c = 63
    · subst h1
      rw [gm_bit_hi x (c := 63 + 1) (by omega)]
      simp
    · rw [gm_maskF (c + 1) (by omega)]
      have e3 : (c + 1) % 8 = 0 ↔ c % 8 = 7 := by omega
      simp only [e1, e2, e3, hc, decide_true, decide_false, Bool.not_false, Bool.true_and]
      cases gm_bit x (c - 1) <;> cases gm_bit x (c + 1) <;> simp
/-- near a set -/
theorem gm_bit_near (x : Int64) {c : Nat} (hc : c < 64) : gm_bit (gm_ud (gm_sw x)) c = true ↔ ∃ b, b < 64 ∧ gm_bit x b = true ∧ gm_near c b = true := by
  rw [gm_bit_ud _ hc, gm_bit_sw _ hc]
  constructor
  · intro h
    simp only [Bool.or_eq_true, Bool.and_eq_true, Bool.not_eq_true', decide_eq_false_iff_not] at h
    have key : ∀ d, d < 64 → gm_bit (gm_sw x) d = true → (c = d ∨ c + 8 = d ∨ c = d + 8) → ∃ b, b < 64 ∧ gm_bit x b = true ∧ gm_near c b = true := by
      intro d hd h hcd
      rw [gm_bit_sw _ hd] at h
      simp only [Bool.or_eq_true, Bool.and_eq_true, Bool.not_eq_true', decide_eq_false_iff_not] at h
      rcases h with (h | ⟨h1, h⟩) | ⟨h1, h⟩
      · exact ⟨d, hd, h, by simp only [gm_near, decide_eq_true_eq]; omega⟩
      · exact ⟨d - 1, by omega, h, by simp only [gm_near, decide_eq_true_eq]; omega⟩
      · by_cases hd1 : d = 63
        · subst hd1; rw [gm_bit_hi x (c := 63 + 1) (by omega)] at h; cases h
        · exact ⟨d + 1, by omega, h, by simp only [gm_near, decide_eq_true_eq]; omega⟩
    rcases h with (h | h) | h
    · exact key c hc (by rw [gm_bit_sw _ hc]; simp only [Bool.or_eq_true, Bool.and_eq_true, Bool.not_eq_true', decide_eq_false_iff_not]; exact h) (Or.inl rfl)
    · exact key (c - 8) (by omega) h.2 (by omega)
    · by_cases h8 : c + 8 < 64
      · exact key (c + 8) h8 h (by omega)
      · rw [gm_bit_hi _ (by omega)] at h; cases h
  · rintro ⟨b, hb, h, hn⟩
    simp only [gm_near, decide_eq_true_eq] at hn
    have key : ∀ d, d < 64 → d / 8 = b / 8 → d % 8 = c % 8 → gm_bit (gm_sw x) d = true := by
      intro d hd h1 h2
      rw [gm_bit_sw _ hd]
      simp only [Bool.or_eq_true, Bool.and_eq_true, Bool.not_eq_true', decide_eq_false_iff_not]
      rcases (by omega : b = d ∨ (b = d - 1 ∧ d % 8 ≠ 0) ∨ (b = d + 1 ∧ d % 8 ≠ 7)) with e | ⟨e, e2⟩ | ⟨e, e2⟩
      · exact Or.inl (Or.inl (e ▸ h))
      · exact Or.inl (Or.inr ⟨e2, e ▸ h⟩)
      · exact Or.inr ⟨e2, e ▸ h⟩
    simp only [Bool.or_eq_true, Bool.and_eq_true, Bool.not_eq_true', decide_eq_false_iff_not]
    rcases (by omega : c / 8 = b / 8 ∨ c / 8 = b / 8 + 1 ∨ c / 8 + 1 = b / 8) with e | e | e
    · have := key c hc e rfl
      rw [gm_bit_sw _ hc] at this
      simp only [Bool.or_eq_true, Bool.and_eq_true, Bool.not_eq_true', decide_eq_false_iff_not] at this
      exact Or.inl (Or.inl this)
    · exact Or.inl (Or.inr ⟨by omega, key (c - 8) (by omega) (by omega) (by omega)⟩)
    · exact Or.inr (key (c + 8) (by omega) (by omega) (by omega))
/-- one move from a set -/
theorem gm_bit_move (x : Int64) {c : Nat} (hc : c < 64) : gm_bit (gm_ud x ||| gm_sw x) c = true ↔ ∃ m b, m < 5 ∧ gm_mv c m = some b ∧ gm_bit x b = true := by
  rw [gm_bit_or, gm_bit_ud _ hc, gm_bit_sw _ hc]
  simp only [Bool.or_eq_true, Bool.and_eq_true, Bool.not_eq_true', decide_eq_false_iff_not]
  constructor
  · rintro (((h | ⟨h1, h⟩) | h) | ((h | ⟨h1, h⟩) | ⟨h1, h⟩))
    · exact ⟨0, c, by omega, rfl, h⟩
    · exact ⟨1, c - 8, by omega, by rw [gm_mv_1, if_pos (by omega)], h⟩
    · by_cases h8 : c + 8 < 64
      · exact ⟨3, c + 8, by omega, by rw [gm_mv_3, if_pos (by omega)], h⟩
      · rw [gm_bit_hi _ (by omega)] at h; cases h
    · exact ⟨0, c, by omega, rfl, h⟩
    · exact ⟨4, c - 1, by omega, by rw [gm_mv_4, if_pos (by omega)], h⟩
    · exact ⟨2, c + 1, by omega, by rw [gm_mv_2, if_pos (by omega)], h⟩
  · rintro ⟨m, b, hm, hmv, h⟩
    unfold gm_mv at hmv
    split at hmv
    · split at hmv
      · cases hmv; exact Or.inl (Or.inl (Or.inr ⟨by omega, h⟩))
      · cases hmv
    · split at hmv
      · split at hmv
        · cases hmv; exact Or.inr (Or.inr ⟨by omega, h⟩)
        · cases hmv
      · split at hmv
        · split at hmv
          · cases hmv; exact Or.inl (Or.inr h)
          · cases hmv
        · split at hmv
          · split at hmv
            · cases hmv; exact Or.inr (Or.inl (Or.inr ⟨by omega, h⟩))
            · cases hmv
          · cases hmv; exact Or.inl (Or.inl (Or.inl h))
def gm_one (c : Nat) : Int64 := gm_shl 1 (nI c)
theorem gm_bit_1 (c : Nat) : gm_bit 1 c = decide (c = 0) := by
  cases c with
  | zero => decide
  | succ c =>
    simp only [gm_bit]
    have : (1 : Int64).toBitVec = 1#64 := rfl
    rw [this]
    simp [BitVec.getLsbD_one]
theorem gm_one_k : ∀ k, k < 64 → (((nI k).toInt64 &&& 63).toBitVec.smod 64).toNat = k := by decide
theorem gm_bit_one {k c : Nat} (hk : k < 64) (hc : c < 64) : gm_bit (gm_one k) c = decide (c = k) := by
  rw [gm_one, gm_bit_shl 1 (nI k) k (gm_one_k k hk), gm_bit_1]
  by_cases h : c = k
  · subst h; simp [hc]
  · by_cases h2 : c < k
    · simp [h, h2]
    · have : ¬ c - k = 0 := by omega
      simp [h, this]
theorem gm_bit_0 (c : Nat) : gm_bit 0 c = false := by
  simp only [gm_bit]
  have : (0 : Int64).toBitVec = 0#64 := rfl
  rw [this]
  simp
theorem gm_ext {x y : Int64} (h : ∀ c, c < 64 → gm_bit x c = gm_bit y c) : x = y := by
  apply Int64.toBitVec_inj.mp
  apply BitVec.eq_of_getLsbD_eq
  intro i hi
  exact h i hi
theorem gm_bit_not (x : Int64) {c : Nat} (hc : c < 64) : gm_bit (x ^^^ (-1)) c = !gm_bit x c := by
  simp only [gm_bit, Int64.toBitVec_xor, BitVec.getLsbD_xor]
  have : (-1 : Int64).toBitVec = BitVec.allOnes 64 := by decide
  rw [this, BitVec.getLsbD_allOnes]
  simp [hc]
theorem gm_and_one {x : Int64} {k : Nat} (hk : k < 64) : x &&& gm_one k = 0 ↔ gm_bit x k = false := by
  constructor
  · intro h
    have h1 : gm_bit (x &&& gm_one k) k = gm_bit 0 k := by rw [h]
    rw [gm_bit_and, gm_bit_one hk hk, gm_bit_0] at h1
    simpa using h1
  · intro h
    refine gm_ext fun c hc => ?_
    rw [gm_bit_and, gm_bit_one hk hc, gm_bit_0]
    by_cases e : c = k
    · subst e; simp [h]
    · simp [e]
