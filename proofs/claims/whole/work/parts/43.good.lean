/-! What holds between calls. -/
def gs_Good (S : gs_T) : Prop :=
  gs_wys S ∧ (gs_cnt (gs_u S) (gs_made S) ≤ 6 ∧ gs_made S ≤ 60) ∧
  (∀ k, gs_alive S k → gs_c S k < 64 ∧ gs_u S k ≤ 2 ∧ gs_p S k + gs_cnt (gs_u S) (gs_made S) ≤ gs_made S) ∧
  (∀ k c n, gs_alive S k → gs_pos S k n = some c → gs_k S c ≠ 1) ∧
  (∀ a b, gs_alive S a → gs_alive S b → a ≠ b → gs_i S a ≠ b + 1 → gs_i S b ≠ a + 1 → ∀ n x y, gs_pos S a n = some x → gs_pos S b n = some y → gm_near x y = false) ∧
  (∀ k, gs_alive S k → 0 < gs_i S k → gs_alive S (gs_i S k - 1) ∧ gs_i S k - 1 ≠ k ∧ gs_i S (gs_i S k - 1) = 0 ∧ gs_l S (gs_i S k - 1) = 0 ∧ gs_u S k = 1 ∧ gs_u S (gs_i S k - 1) = 1 ∧ 0 < gs_l S k ∧ ∀ k', gs_alive S k' → gs_i S k' = gs_i S k → k' = k) ∧
  gs_out S = gs_thr S + gs_sum (gs_u S) (gs_made S) ∧ gs_out S ≤ gs_made S
theorem gs_com_congr {U U' J J' : Nat → Nat} {d : Nat} : ∀ {n : Nat}, (∀ k, k < n → U' k = U k ∧ J' k = J k) → gs_com U' J' d n = gs_com U J d n
  | 0, _ => rfl
  | n + 1, h => by
    rw [gs_com, gs_com, (h n (by omega)).1, (h n (by omega)).2, gs_com_congr (fun k hk => h k (by omega))]
theorem gs_com_some {U J : Nat → Nat} {d : Nat} : ∀ {n k : Nat}, gs_com U J d n = some k → k < n ∧ 0 < U k ∧ J k = d + 1
  | 0, k, h => by cases h
  | n + 1, k, h => by
    rw [gs_com] at h
    split at h
    · rename_i hc; cases h; exact ⟨by omega, hc⟩
    · obtain ⟨h1, h2⟩ := gs_com_some h; exact ⟨by omega, h2⟩
theorem gs_com_none {U J : Nat → Nat} {d : Nat} : ∀ {n : Nat}, gs_com U J d n = none ↔ ∀ k, k < n → 0 < U k → J k ≠ d + 1
  | 0 => ⟨fun _ k hk => by omega, fun _ => rfl⟩
  | n + 1 => by
    rw [gs_com]
    split
    · rename_i hc
      constructor
      · intro h; cases h
      · intro h; exact absurd hc.2 (h n (by omega) hc.1)
    · rename_i hc
      rw [gs_com_none]
      constructor
      · intro h k hk hu he
        by_cases e : k = n
        · subst e; exact hc ⟨hu, he⟩
        · exact h k (by omega) hu he
      · intro h k hk hu; exact h k (by omega) hu
theorem gs_aw_none {S : gs_T} {d : Nat} : gs_aw S d = none ↔ ∀ k, gs_alive S k → gs_i S k ≠ d + 1 := by
  unfold gs_aw
  rw [gs_com_none]
  exact ⟨fun h k hk => h k hk.1 hk.2, fun h k h1 h2 => h k ⟨h1, h2⟩⟩
theorem gs_aw_some {S : gs_T} {d k : Nat} (h : gs_aw S d = some k) : gs_alive S k ∧ gs_i S k = d + 1 := by
  obtain ⟨h1, h2, h3⟩ := gs_com_some h
  exact ⟨⟨h1, h2⟩, h3⟩
section GG
variable {S : gs_T}
theorem gs_Good.into (h : gs_Good S) {k : Nat} (hk : gs_alive S k) (hi : 0 < gs_i S k) : gs_alive S (gs_i S k - 1) ∧ gs_i S k - 1 ≠ k ∧ gs_i S (gs_i S k - 1) = 0 ∧ gs_l S (gs_i S k - 1) = 0 ∧ gs_u S k = 1 ∧ gs_u S (gs_i S k - 1) = 1 ∧ 0 < gs_l S k ∧ ∀ k', gs_alive S k' → gs_i S k' = gs_i S k → k' = k := h.2.2.2.2.2.1 k hk hi
theorem gs_Good.aw_dead (h : gs_Good S) {d : Nat} (hd : ¬ gs_alive S d) : gs_aw S d = none :=
  gs_aw_none.mpr fun k hk he => hd (by have := (h.into hk (by omega)).1; rw [he] at this; exact this)
theorem gs_Good.free (h : gs_Good S) {d : Nat} (hd : gs_alive S d) (hf : gs_free S d = true) : gs_l S d = 0 ∧ gs_i S d = 0 ∧ gs_aw S d = none := by
  unfold gs_free at hf
  simp only [Bool.and_eq_true, decide_eq_true_eq, Option.isNone_iff_eq_none] at hf
  refine ⟨hf.1, ?_, hf.2⟩
  by_cases hi : 0 < gs_i S d
  · have := (h.into hd hi).2.2.2.2.2.2.1; omega
  · omega
theorem gs_free_eq (d : Nat) : gs_free S d = (decide (gs_l S d = 0) && (gs_aw S d).isNone) := rfl
theorem gs_pos_rest {d n : Nat} (hl : gs_l S d = 0) (hi : gs_i S d = 0) : gs_pos S d n = some (gs_c S d) := by
  unfold gs_pos
  rw [if_neg (by omega), hl, Nat.min_eq_right (Nat.zero_le _)]
  rfl
theorem gs_pos_0 {d : Nat} (h : gs_i S d = 0 ∨ 0 < gs_l S d) : gs_pos S d 0 = some (gs_c S d) := by
  unfold gs_pos
  rw [if_neg (by omega), Nat.min_eq_left (Nat.zero_le _)]
  rfl
theorem gs_Good.pos0 (h : gs_Good S) {d : Nat} (hd : gs_alive S d) : gs_pos S d 0 = some (gs_c S d) := by
  refine gs_pos_0 ?_
  by_cases hi : 0 < gs_i S d
  · exact Or.inr (h.into hd hi).2.2.2.2.2.2.1
  · exact Or.inl (by omega)
theorem gs_Good.cell (h : gs_Good S) {d : Nat} (hd : gs_alive S d) : gs_k S (gs_c S d) ≠ 1 := h.2.2.2.1 d _ 0 hd (h.pos0 hd)
end GG
