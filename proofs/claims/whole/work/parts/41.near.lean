/-! Who is near whom: sets of cells and the reference's tables. -/
/-- a droplet but d and e is on the cell after t steps -/
def gs_P (S : gs_T) (d e : Option Nat) (t c : Nat) : Prop := ∃ x, gs_alive S x ∧ d ≠ some x ∧ e ≠ some x ∧ gs_pos S x t = some c
/-- every way stays on the grid, and is over in 60 steps -/
def gs_wys (S : gs_T) : Prop := ∀ k, gs_alive S k → gv_way S k ∧ gs_l S k ≤ 60
theorem gs_pos_60 {S : gs_T} {k n : Nat} (h : gs_l S k ≤ 60) (hn : 60 ≤ n) : gs_pos S k n = gs_pos S k 60 := by
  unfold gs_pos
  by_cases hi : 0 < gs_i S k
  · rw [if_pos ⟨hi, by omega⟩, if_pos ⟨hi, h⟩]
  · rw [if_neg (fun z => hi z.1), if_neg (fun z => hi z.1), Nat.min_eq_right (by omega), Nat.min_eq_right h]
theorem gs_mt_iff {S : gs_T} {d e : Option Nat} {c n : Nat} : gs_mt (gs_T2 S d e) (gs_cn S d e) c n = true ↔ ∃ x, gs_alive S x ∧ d ≠ some x ∧ e ≠ some x ∧ gs_nearO c (gs_pos S x n) = true := by
  unfold gs_mt
  rw [gs_any_iff]
  constructor
  · rintro ⟨i, hi, h⟩
    have hx := List.getElem?_eq_getElem hi
    unfold gs_T2 at h
    rw [List.getD_eq_getElem?_getD, hx] at h
    have hm := (gs_ot_mem (gs_u S) d e).mp (List.getElem_mem hi)
    exact ⟨_, ⟨hm.1, hm.2.1⟩, hm.2.2.1, hm.2.2.2, h⟩
  · rintro ⟨x, ⟨h1, h2⟩, h3, h4, h5⟩
    obtain ⟨i, hi, he⟩ := List.getElem_of_mem ((gs_ot_mem (gs_u S) d e).mpr ⟨h1, h2, h3, h4⟩)
    refine ⟨i, hi, ?_⟩
    unfold gs_T2
    rw [List.getD_eq_getElem?_getD, List.getElem?_eq_getElem hi, he]
    exact h5
theorem gs_mt_P {S : gs_T} (hw : gs_wys S) {d e : Option Nat} {c n : Nat} : gs_mt (gs_T2 S d e) (gs_cn S d e) c n = true ↔ ∃ b, b < 64 ∧ gm_near c b = true ∧ gs_P S d e n b := by
  rw [gs_mt_iff]
  constructor
  · rintro ⟨x, h1, h2, h3, h4⟩
    cases hp : gs_pos S x n with
    | none => rw [hp] at h4; cases h4
    | some b =>
      rw [hp] at h4
      exact ⟨b, gs_pos_lt (hw x h1).1 hp, h4, x, h1, h2, h3, hp⟩
  · rintro ⟨b, hb, h1, x, h2, h3, h4, h5⟩
    exact ⟨x, h2, h3, h4, by rw [h5]; exact h1⟩
theorem gs_mt_60 {S : gs_T} (hw : gs_wys S) {d e : Option Nat} {c n : Nat} (hn : 60 ≤ n) : gs_mt (gs_T2 S d e) (gs_cn S d e) c n = gs_mt (gs_T2 S d e) (gs_cn S d e) c 60 := by
  rw [Bool.eq_iff_iff, gs_mt_iff, gs_mt_iff]
  constructor
  · rintro ⟨x, h1, h2, h3, h4⟩; exact ⟨x, h1, h2, h3, by rw [← gs_pos_60 (hw x h1).2 hn]; exact h4⟩
  · rintro ⟨x, h1, h2, h3, h4⟩; exact ⟨x, h1, h2, h3, by rw [gs_pos_60 (hw x h1).2 hn]; exact h4⟩
theorem gc_sh_iff {S : gs_T} (hw : gs_wys S) {d e : Option Nat} {c t : Nat} (ht : t ≤ 60) : gc_sh (gs_P S d e) c t ↔ gs_mt (gs_T2 S d e) (gs_cn S d e) c (t - 1) = true ∨ gs_mt (gs_T2 S d e) (gs_cn S d e) c t = true ∨ gs_mt (gs_T2 S d e) (gs_cn S d e) c (t + 1) = true := by
  rw [gs_mt_P hw, gs_mt_P hw]
  constructor
  · rintro ⟨b, hb, h1, h2 | ⟨-, h2⟩ | ⟨-, h2⟩⟩
    · exact Or.inr (Or.inl ⟨b, hb, h1, h2⟩)
    · exact Or.inl ⟨b, hb, h1, h2⟩
    · exact Or.inr (Or.inr ((gs_mt_P hw).mpr ⟨b, hb, h1, h2⟩))
  · rintro (⟨b, hb, h1, h2⟩ | ⟨b, hb, h1, h2⟩ | h)
    · by_cases h0 : 0 < t
      · exact ⟨b, hb, h1, Or.inr (Or.inl ⟨h0, h2⟩)⟩
      · rw [show t - 1 = t by omega] at h2; exact ⟨b, hb, h1, Or.inl h2⟩
    · exact ⟨b, hb, h1, Or.inl h2⟩
    · by_cases h6 : t < 60
      · obtain ⟨b, hb, h1, h2⟩ := (gs_mt_P hw).mp h
        exact ⟨b, hb, h1, Or.inr (Or.inr ⟨h6, h2⟩)⟩
      · rw [gs_mt_60 hw (show 60 ≤ t + 1 by omega), show (60 : Nat) = t by omega] at h
        obtain ⟨b, hb, h1, h2⟩ := (gs_mt_P hw).mp h
        exact ⟨b, hb, h1, Or.inl h2⟩
theorem gs_mtR_iff {S : gs_T} (hw : gs_wys S) {d e : Option Nat} {c a : Nat} (ha : a ≤ 60) : gs_mtR (gs_T2 S d e) (gs_cn S d e) c a = true ↔ ∃ n, a ≤ n ∧ n ≤ 60 ∧ gs_mt (gs_T2 S d e) (gs_cn S d e) c n = true := by
  unfold gs_mtR
  rw [gs_any_iff]
  constructor
  · rintro ⟨i, hi, h⟩
    by_cases h6 : a + i ≤ 60
    · exact ⟨a + i, by omega, h6, h⟩
    · rw [gs_mt_60 hw (by omega)] at h
      exact ⟨60, ha, Nat.le_refl _, h⟩
  · rintro ⟨n, h1, h2, h3⟩
    exact ⟨n - a, by omega, by rw [show a + (n - a) = n by omega]; exact h3⟩
theorem gc_shE_iff {S : gs_T} (hw : gs_wys S) {d e : Option Nat} {c : Nat} : gc_shE (gs_P S d e) c ↔ gs_mtR (gs_T2 S d e) (gs_cn S d e) c 0 = true := by
  rw [gs_mtR_iff hw (by omega)]
  constructor
  · rintro ⟨b, hb, h1, t, ht, h2⟩; exact ⟨t, by omega, ht, (gs_mt_P hw).mpr ⟨b, hb, h1, h2⟩⟩
  · rintro ⟨n, -, h1, h2⟩
    obtain ⟨b, hb, h3, h4⟩ := (gs_mt_P hw).mp h2
    exact ⟨b, hb, h3, n, h1, h4⟩
theorem gs_be_iff {S : gs_T} (hw : gs_wys S) {d e : Option Nat} {c n : Nat} (hn : n ≤ 60) : gs_be S (gs_T2 S d e) (gs_cn S d e) c n = true ↔ ¬ gs_k S c = 1 ∧ ¬ gc_sh (gs_P S d e) c n := by
  rw [gc_sh_iff hw hn]
  unfold gs_be
  simp only [Bool.and_eq_true, Bool.not_eq_true', decide_eq_false_iff_not, not_or, Bool.not_eq_true]
  constructor
  · rintro ⟨⟨⟨h1, h2⟩, h3⟩, h4⟩; exact ⟨h1, h2, h3, h4⟩
  · rintro ⟨h1, h2, h3, h4⟩; exact ⟨⟨⟨h1, h2⟩, h3⟩, h4⟩
theorem gs_rch_iff {S : gs_T} (hw : gs_wys S) {d e : Option Nat} {fr c n : Nat} (hn : n < 60) : gs_rch S (gs_T2 S d e) (gs_cn S d e) fr (n + 1) c = true ↔ (∃ m b, m < 5 ∧ gm_mv c m = some b ∧ gs_rch S (gs_T2 S d e) (gs_cn S d e) fr n b = true) ∧ ¬ gs_k S c = 1 ∧ ¬ gc_sh (gs_P S d e) c (n + 1) := by
  rw [gs_rch, Bool.and_eq_true, gs_be_iff hw (by omega), gs_any_iff]
  constructor
  · rintro ⟨⟨m, hm, h⟩, h2⟩
    obtain ⟨b, h3, h4⟩ := gs_atO_iff.mp h
    exact ⟨⟨m, b, hm, h3, h4⟩, h2⟩
  · rintro ⟨⟨m, b, hm, h3, h4⟩, h2⟩
    exact ⟨⟨m, hm, gs_atO_iff.mpr ⟨b, h3, h4⟩⟩, h2⟩
theorem gs_fst_congr {f g : Nat → Bool} : ∀ {k n : Nat}, (∀ x, n ≤ x → x < n + k → f x = g x) → gs_fst f n k = gs_fst g n k
  | 0, n, _ => rfl
  | k + 1, n, h => by
    rw [gs_fst, gs_fst, h n (Nat.le_refl _) (by omega), gs_fst_congr (fun x h1 h2 => h x (by omega) (by omega))]
theorem gs_nxt_rch {S : gs_T} {T : Nat → Nat → Option Nat} {cnt fr n c : Nat} (hn : 1 ≤ n) : gs_rch S T cnt fr n c = (gs_nxt (gs_rch S T cnt fr) n c && gs_be S T cnt c n) := by
  obtain ⟨k, rfl⟩ : ∃ k, n = k + 1 := ⟨n - 1, by omega⟩
  rw [gs_rch, gs_nxt]
  rfl
/-- the class's search for send finds what the reference finds -/
theorem gs_search_send {S : gs_T} (hw : gs_wys S) {d : Option Nat} {fr goal f : Nat} (hk : ¬ gs_k S fr = 1) (hf : f ≤ 61) (f1 : ∀ t, f ≤ t → t ≤ 60 → ¬ gc_sh (gs_P S d none) goal t) (f2 : ∀ g, f = g + 1 → gc_sh (gs_P S d none) goal g) :
    gs_fst (fun t => decide (f ≤ t) && gs_rch S (gs_T2 S d none) (gs_cn S d none) fr t goal) 0 61 = gs_way S (gs_T2 S d none) (gs_cn S d none) fr goal false := by
  have key : ∀ n, n ≤ 60 → (f ≤ n ↔ gs_mtR (gs_T2 S d none) (gs_cn S d none) goal (n - 1) = false) := by
    intro n hn
    constructor
    · intro h
      cases hm : gs_mtR (gs_T2 S d none) (gs_cn S d none) goal (n - 1) with
      | false => rfl
      | true =>
        exfalso
        obtain ⟨j, j1, j2, j3⟩ := (gs_mtR_iff hw (by omega)).mp hm
        by_cases e0 : n ≤ j
        · exact f1 j (by omega) j2 ((gc_sh_iff hw j2).mpr (Or.inr (Or.inl j3)))
        · exact f1 n h hn ((gc_sh_iff hw hn).mpr (Or.inl (by rw [show n - 1 = j by omega]; exact j3)))
    · intro h
      by_cases hc : f ≤ n
      · exact hc
      · exfalso
        have hg := f2 (f - 1) (by omega)
        have : gs_mtR (gs_T2 S d none) (gs_cn S d none) goal (n - 1) = true := by
          rw [gs_mtR_iff hw (by omega)]
          rcases (gc_sh_iff hw (show f - 1 ≤ 60 by omega)).mp hg with h1 | h1 | h1
          · exact ⟨f - 1 - 1, by omega, by omega, h1⟩
          · exact ⟨f - 1, by omega, by omega, h1⟩
          · by_cases h6 : f - 1 + 1 ≤ 60
            · exact ⟨f - 1 + 1, by omega, h6, h1⟩
            · rw [gs_mt_60 hw (by omega)] at h1
              exact ⟨60, by omega, Nat.le_refl _, h1⟩
        rw [h] at this
        cases this
  unfold gs_way
  by_cases h0 : fr = goal ∧ f = 0
  · have he : gs_end S (gs_T2 S d none) (gs_cn S d none) goal 0 false = true := by
      unfold gs_end
      have hm := (key 0 (by omega)).mp (by omega)
      rw [← h0.1] at hm ⊢
      rw [decide_eq_false hk, hm]
      rfl
    rw [if_pos ⟨rfl, h0.1, he⟩, gs_fst_hit]
    rw [decide_eq_true (by omega), gs_rch, h0.1]
    simp
  · have hno : ¬ (false = false ∧ fr = goal ∧ gs_end S (gs_T2 S d none) (gs_cn S d none) goal 0 false = true) := by
      rintro ⟨-, h1, h2⟩
      unfold gs_end at h2
      simp only [Bool.and_eq_true, Bool.not_eq_true'] at h2
      exact h0 ⟨h1, by have := (key 0 (by omega)).mpr (by simpa using h2.2); omega⟩
    rw [if_neg hno, gs_fst_step]
    · refine gs_fst_congr fun n h1 h2 => ?_
      rw [gs_nxt_rch h1, Bool.eq_iff_iff]
      simp only [Bool.and_eq_true, decide_eq_true_eq]
      rw [key n (by omega), gs_be_iff hw (by omega)]
      unfold gs_end
      simp only [Bool.and_eq_true, Bool.not_eq_true', decide_eq_false_iff_not, Bool.false_eq_true, if_false]
      constructor
      · rintro ⟨a1, a2, a3, a4⟩; exact ⟨a2, a3, a1⟩
      · rintro ⟨a2, a3, a1⟩
        refine ⟨a1, a2, a3, ?_⟩
        exact f1 n ((key n (by omega)).mpr a1) (by omega)
    · rw [gs_rch]
      by_cases e1 : fr = goal
      · rw [decide_eq_false (fun z => h0 ⟨e1, by omega⟩)]; rfl
      · rw [decide_eq_false (fun z : goal = fr => e1 z.symm), Bool.and_false]
/-- .. and for join, where all others keep clear of the awaited one -/
theorem gs_search_join {S : gs_T} {d e : Option Nat} {fr goal : Nat} (hne : fr ≠ goal) (hcl : ∀ n, gs_mt (gs_T2 S d e) (gs_cn S d e) goal n = false) :
    gs_fst (fun t => decide (0 ≤ t) && gs_rch S (gs_T2 S d e) (gs_cn S d e) fr t goal) 0 61 = gs_way S (gs_T2 S d e) (gs_cn S d e) fr goal true := by
  unfold gs_way
  rw [if_neg (fun z => by cases z.1), gs_fst_step]
  · refine gs_fst_congr fun n h1 h2 => ?_
    rw [gs_nxt_rch h1]
    unfold gs_be gs_end
    rw [hcl, hcl, hcl]
    simp
  · rw [gs_rch, decide_eq_false (fun z : goal = fr => hne z.symm), Bool.and_false]
