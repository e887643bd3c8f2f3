/-! Ways: what the search's sets say. -/
theorem gs_any_iff (f : Nat → Bool) : ∀ n, gs_any f n = true ↔ ∃ i, i < n ∧ f i = true
  | 0 => by simp [gs_any]
  | n + 1 => by
    rw [gs_any, Bool.or_eq_true, gs_any_iff f n]
    constructor
    · rintro (⟨i, h1, h2⟩ | h)
      · exact ⟨i, by omega, h2⟩
      · exact ⟨n, by omega, h⟩
    · rintro ⟨i, h1, h2⟩
      by_cases e : i = n
      · subst e; exact Or.inr h2
      · exact Or.inl ⟨i, by omega, h2⟩
theorem gs_atO_iff {r : Nat → Bool} {x : Option Nat} : gs_atO r x = true ↔ ∃ b, x = some b ∧ r b = true := by
  cases x with
  | none => simp [gs_atO]
  | some b => simp [gs_atO]
theorem gm_mv_sym {c m b : Nat} (hc : c < 64) (hm : m < 5) (h : gm_mv c m = some b) : ∃ k, k < 5 ∧ gm_mv b k = some c := by
  rcases (by omega : m = 0 ∨ m = 1 ∨ m = 2 ∨ m = 3 ∨ m = 4) with rfl | rfl | rfl | rfl | rfl
  · rw [gm_mv_0] at h; cases h; exact ⟨0, by omega, rfl⟩
  · rw [gm_mv_1] at h
    split at h
    · cases h; exact ⟨3, by omega, by rw [gm_mv_3, if_pos (by omega)]; congr 1; omega⟩
    · cases h
  · rw [gm_mv_2] at h
    split at h
    · cases h; exact ⟨4, by omega, by rw [gm_mv_4, if_pos (by omega)]; congr 1⟩
    · cases h
  · rw [gm_mv_3] at h
    split at h
    · cases h; exact ⟨1, by omega, by rw [gm_mv_1, if_pos (by omega)]; congr 1⟩
    · cases h
  · rw [gm_mv_4] at h
    split at h
    · cases h; exact ⟨2, by omega, by rw [gm_mv_2, if_pos (by omega)]; congr 1; omega⟩
    · cases h
theorem gs_fst_some (f : Nat → Bool) : ∀ {k n x : Nat}, gs_fst f n k = some x → n ≤ x ∧ x < n + k ∧ f x = true ∧ ∀ y, n ≤ y → y < x → f y = false
  | 0, n, x, h => by cases h
  | k + 1, n, x, h => by
    rw [gs_fst] at h
    split at h
    · rename_i hf
      cases h
      exact ⟨Nat.le_refl _, by omega, hf, fun y h1 h2 => by omega⟩
    · rename_i hf
      obtain ⟨h1, h2, h3, h4⟩ := gs_fst_some f h
      refine ⟨by omega, by omega, h3, fun y hy1 hy2 => ?_⟩
      by_cases e : y = n
      · subst e; simpa using hf
      · exact h4 y (by omega) hy2
theorem gs_fst_none (f : Nat → Bool) : ∀ {k n : Nat}, gs_fst f n k = none → ∀ y, n ≤ y → y < n + k → f y = false
  | 0, n, h => fun y h1 h2 => by omega
  | k + 1, n, h => by
    rw [gs_fst] at h
    split at h
    · cases h
    · rename_i hf
      intro y h1 h2
      by_cases e : y = n
      · subst e; simpa using hf
      · exact gs_fst_none f h y (by omega) (by omega)
/-- the cells from which the goal is reached in the steps that are left -/
def gs_led (R : Nat → Nat → Bool) (goal en : Nat) : Nat → Nat → Bool
  | 0, c => decide (c = goal)
  | k + 1, c => gs_any (fun m => gs_atO (gs_led R goal en k) (gm_mv c m)) 5 && R (en - (k + 1)) c
def gs_lm (f : Nat → Bool) : Nat := if f 0 then 0 else if f 1 then 1 else if f 2 then 2 else if f 3 then 3 else if f 4 then 4 else 0
theorem gs_lm_spec {f : Nat → Bool} (h : ∃ m, m < 5 ∧ f m = true) : gs_lm f < 5 ∧ f (gs_lm f) = true ∧ ∀ m, m < gs_lm f → f m = false := by
  unfold gs_lm
  cases h0 : f 0 with
  | true => exact ⟨by simp, by simp [h0], fun m hm => by simp at hm⟩
  | false =>
    cases h1 : f 1 with
    | true => exact ⟨by simp, by simp [h1], fun m hm => by simp at hm; subst hm; exact h0⟩
    | false =>
      cases h2 : f 2 with
      | true => exact ⟨by simp, by simp [h2], fun m hm => by simp at hm; rcases (by omega : m = 0 ∨ m = 1) with rfl | rfl; exact h0; exact h1⟩
      | false =>
        cases h3 : f 3 with
        | true => exact ⟨by simp, by simp [h3], fun m hm => by simp at hm; rcases (by omega : m = 0 ∨ m = 1 ∨ m = 2) with rfl | rfl | rfl; exact h0; exact h1; exact h2⟩
        | false =>
          cases h4 : f 4 with
          | true => exact ⟨by simp, by simp [h4], fun m hm => by simp at hm; rcases (by omega : m = 0 ∨ m = 1 ∨ m = 2 ∨ m = 3) with rfl | rfl | rfl | rfl; exact h0; exact h1; exact h2; exact h3⟩
          | false =>
            obtain ⟨m, hm, hf⟩ := h
            rcases (by omega : m = 0 ∨ m = 1 ∨ m = 2 ∨ m = 3 ∨ m = 4) with rfl | rfl | rfl | rfl | rfl
            · rw [h0] at hf; cases hf
            · rw [h1] at hf; cases hf
            · rw [h2] at hf; cases hf
            · rw [h3] at hf; cases hf
            · rw [h4] at hf; cases hf
def gs_rtc (L : Nat → Nat → Bool) (en fr : Nat) : Nat → Nat
  | 0 => fr
  | n + 1 => (gm_mv (gs_rtc L en fr n) (gs_lm fun m => gs_atO (L (en - (n + 1))) (gm_mv (gs_rtc L en fr n) m))).getD 0
def gs_rtm (L : Nat → Nat → Bool) (en fr n : Nat) : Nat := gs_lm fun m => gs_atO (L (en - (n + 1))) (gm_mv (gs_rtc L en fr n) m)
theorem gs_rch_prev {S : gs_T} {T : Nat → Nat → Option Nat} {cnt fr n c : Nat} (h : gs_rch S T cnt fr (n + 1) c = true) : ∃ m b, m < 5 ∧ gm_mv c m = some b ∧ gs_rch S T cnt fr n b = true := by
  rw [gs_rch, Bool.and_eq_true] at h
  obtain ⟨m, hm, h1⟩ := (gs_any_iff _ _).mp h.1
  obtain ⟨b, h2, h3⟩ := gs_atO_iff.mp h1
  exact ⟨m, b, hm, h2, h3⟩
theorem gs_led_ex {S : gs_T} {T : Nat → Nat → Option Nat} {cnt fr goal en : Nat} (hg : goal < 64) (h1 : 1 ≤ en) (hn : gs_nxt (gs_rch S T cnt fr) en goal = true) : ∀ k, k ≤ en → ∃ c, c < 64 ∧ gs_led (gs_rch S T cnt fr) goal en k c = true ∧ (1 ≤ k → gs_rch S T cnt fr (en - k) c = true)
  | 0, _ => ⟨goal, hg, by simp [gs_led], fun h => by omega⟩
  | k + 1, hk => by
    obtain ⟨c, hc, hl, hr⟩ := gs_led_ex hg h1 hn k (by omega)
    have key : ∃ m b, m < 5 ∧ gm_mv c m = some b ∧ gs_rch S T cnt fr (en - (k + 1)) b = true := by
      by_cases e : k = 0
      · subst e
        have hcg : c = goal := by simpa [gs_led] using hl
        subst hcg
        obtain ⟨m, hm, h2⟩ := (gs_any_iff _ _).mp hn
        obtain ⟨b, h3, h4⟩ := gs_atO_iff.mp h2
        exact ⟨m, b, hm, h3, h4⟩
      · have h2 := hr (by omega)
        rw [show en - k = (en - (k + 1)) + 1 by omega] at h2
        exact gs_rch_prev h2
    obtain ⟨m, b, hm, h3, h4⟩ := key
    obtain ⟨m2, hm2, h5⟩ := gm_mv_sym hc hm h3
    refine ⟨b, gm_mv_lt hc h3, ?_, fun _ => h4⟩
    rw [gs_led, Bool.and_eq_true]
    exact ⟨(gs_any_iff _ _).mpr ⟨m2, hm2, gs_atO_iff.mpr ⟨c, h5, hl⟩⟩, h4⟩
theorem gs_way_some {S : gs_T} {T : Nat → Nat → Option Nat} {cnt fr goal en : Nat} {joins : Bool} (h : gs_way S T cnt fr goal joins = some en) : (en = 0 ∧ joins = false ∧ fr = goal ∧ gs_end S T cnt goal 0 false = true) ∨ (1 ≤ en ∧ en ≤ 60 ∧ gs_nxt (gs_rch S T cnt fr) en goal = true ∧ gs_end S T cnt goal en joins = true) := by
  unfold gs_way at h
  split at h
  · rename_i hc
    cases h
    exact Or.inl ⟨rfl, hc⟩
  · obtain ⟨h1, h2, h3, -⟩ := gs_fst_some _ h
    rw [Bool.and_eq_true] at h3
    exact Or.inr ⟨h1, by omega, h3⟩
theorem gs_way_le {S : gs_T} {T : Nat → Nat → Option Nat} {cnt fr goal en : Nat} {joins : Bool} (h : gs_way S T cnt fr goal joins = some en) : en ≤ 60 := by
  rcases gs_way_some h with h1 | h1 <;> omega
/-- the start leads to the goal -/
theorem gs_led_fr {S : gs_T} {T : Nat → Nat → Option Nat} {cnt fr goal en : Nat} {joins : Bool} (hg : goal < 64) (h : gs_way S T cnt fr goal joins = some en) : gs_led (gs_rch S T cnt fr) goal en en fr = true := by
  rcases gs_way_some h with ⟨h1, -, h2, -⟩ | ⟨h1, h2, h3, -⟩
  · subst h1; subst h2; simp [gs_led]
  · obtain ⟨c, hc, hl, hr⟩ := gs_led_ex hg h1 h3 en (Nat.le_refl _)
    have h4 := hr h1
    rw [Nat.sub_self, gs_rch] at h4
    have h5 : c = fr := by simpa using h4
    subst h5
    exact hl
theorem gs_rtc_ok {S : gs_T} {T : Nat → Nat → Option Nat} {cnt fr goal en : Nat} {joins : Bool} (hf : fr < 64) (hg : goal < 64) (h : gs_way S T cnt fr goal joins = some en) : ∀ n, n ≤ en → gs_rtc (gs_led (gs_rch S T cnt fr) goal en) en fr n < 64 ∧ gs_led (gs_rch S T cnt fr) goal en (en - n) (gs_rtc (gs_led (gs_rch S T cnt fr) goal en) en fr n) = true
  | 0, _ => ⟨hf, by rw [Nat.sub_zero]; exact gs_led_fr hg h⟩
  | n + 1, hn => by
    obtain ⟨h1, h2⟩ := gs_rtc_ok hf hg h n (by omega)
    rw [show en - n = (en - (n + 1)) + 1 by omega, gs_led, Bool.and_eq_true] at h2
    obtain ⟨m1, m2, -⟩ := gs_lm_spec ((gs_any_iff _ _).mp h2.1)
    obtain ⟨b, h3, h4⟩ := gs_atO_iff.mp m2
    rw [gs_rtc]
    rw [h3]
    exact ⟨gm_mv_lt h1 h3, h4⟩
theorem gs_rtc_mv {S : gs_T} {T : Nat → Nat → Option Nat} {cnt fr goal en : Nat} {joins : Bool} (hf : fr < 64) (hg : goal < 64) (h : gs_way S T cnt fr goal joins = some en) {n : Nat} (hn : n < en) :
    (∃ m, m < 5 ∧ gs_atO (gs_led (gs_rch S T cnt fr) goal en (en - (n + 1))) (gm_mv (gs_rtc (gs_led (gs_rch S T cnt fr) goal en) en fr n) m) = true) ∧ gm_mv (gs_rtc (gs_led (gs_rch S T cnt fr) goal en) en fr n) (gs_rtm (gs_led (gs_rch S T cnt fr) goal en) en fr n) = some (gs_rtc (gs_led (gs_rch S T cnt fr) goal en) en fr (n + 1)) := by
  obtain ⟨h1, h2⟩ := gs_rtc_ok hf hg h n (by omega)
  rw [show en - n = (en - (n + 1)) + 1 by omega, gs_led, Bool.and_eq_true] at h2
  have hex := (gs_any_iff _ _).mp h2.1
  refine ⟨hex, ?_⟩
  obtain ⟨m1, m2, -⟩ := gs_lm_spec hex
  obtain ⟨b, h3, h4⟩ := gs_atO_iff.mp m2
  rw [gs_rtc, gs_rtm]
  rw [h3]
  rfl
def gs_pr (n : Nat) : Int32 := match n with
  | 0 => -1
  | k + 1 => nI k
theorem gs_pr_sub (n : Nat) : nI n - 1 = gs_pr n := by
  cases n with
  | zero => decide
  | succ k => exact nI_pred k
theorem gs_pr_add (n : Nat) : nI n + (-1) = gs_pr n := by
  cases n with
  | zero => decide
  | succ k => exact pk_m1 k
