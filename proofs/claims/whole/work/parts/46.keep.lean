/-! What holds between calls is kept by every call. -/
theorem gs_cnt_congr {U U' : Nat → Nat} : ∀ {n : Nat}, (∀ k, k < n → U' k = U k) → gs_cnt U' n = gs_cnt U n
  | 0, _ => rfl
  | n + 1, h => by rw [gs_cnt, gs_cnt, h n (by omega), gs_cnt_congr (fun k hk => h k (by omega))]
theorem gs_sum_congr {U U' : Nat → Nat} : ∀ {n : Nat}, (∀ k, k < n → U' k = U k) → gs_sum U' n = gs_sum U n
  | 0, _ => rfl
  | n + 1, h => by rw [gs_sum, gs_sum, h n (by omega), gs_sum_congr (fun k hk => h k (by omega))]
theorem gs_cnt_upd {U U' : Nat → Nat} {d : Nat} : ∀ {n : Nat}, d < n → (∀ k, k < n → k ≠ d → U' k = U k) → gs_cnt U' n + (if 0 < U d then 1 else 0) = gs_cnt U n + (if 0 < U' d then 1 else 0)
  | 0, h, _ => by omega
  | n + 1, h, hk => by
    rw [gs_cnt, gs_cnt]
    by_cases e : d = n
    · subst e
      rw [gs_cnt_congr (fun k hk2 => hk k (by omega) (by omega))]
      split <;> split <;> omega
    · have ih := gs_cnt_upd (n := n) (by omega) (fun k h1 h2 => hk k (by omega) h2)
      rw [hk n (by omega) (fun z => e z.symm)]
      split <;> omega
theorem gs_sum_upd {U U' : Nat → Nat} {d : Nat} : ∀ {n : Nat}, d < n → (∀ k, k < n → k ≠ d → U' k = U k) → gs_sum U' n + U d = gs_sum U n + U' d
  | 0, h, _ => by omega
  | n + 1, h, hk => by
    rw [gs_sum, gs_sum]
    by_cases e : d = n
    · subst e
      rw [gs_sum_congr (fun k hk2 => hk k (by omega) (by omega))]
      omega
    · have ih := gs_sum_upd (n := n) (by omega) (fun k h1 h2 => hk k (by omega) h2)
      rw [hk n (by omega) (fun z => e z.symm)]
      omega
theorem gs_cnt_zero {U : Nat → Nat} : ∀ {n : Nat}, gs_cnt U n = 0 → ∀ k, k < n → U k = 0
  | 0, _, k, hk => by omega
  | n + 1, h, k, hk => by
    rw [gs_cnt] at h
    split at h
    · omega
    · by_cases e : k = n
      · subst e; omega
      · exact gs_cnt_zero h k (by omega)
theorem gs_cnt_two {U : Nat → Nat} {n a b : Nat} (ha : a < n) (hb : b < n) (hab : a ≠ b) (ua : 0 < U a) (ub : 0 < U b) : 2 ≤ gs_cnt U n := by
  have h := gs_cnt_upd (U := U) (U' := fun x => if x = a then 0 else U x) ha (fun k _ hk => if_neg hk)
  rw [if_pos ua, if_pos rfl, if_neg (Nat.lt_irrefl 0)] at h
  by_cases e : gs_cnt (fun x => if x = a then 0 else U x) n = 0
  · have := gs_cnt_zero e b hb
    rw [if_neg (Ne.symm hab)] at this
    omega
  · omega
theorem gs_at.m {S S' : gs_T} {d : Nat} (h : gs_at S S' d) : gs_m S' d = gs_m S d := funext fun k => h.1 (5 + k)
theorem gs_at.pos {S S' : gs_T} {d : Nat} (h : gs_at S S' d) (n : Nat) : gs_pos S' d n = gs_pos S d n := by
  unfold gs_pos
  rw [h.m, show gs_i S' d = gs_i S d from h.1 4, show gs_l S' d = gs_l S d from h.1 3, show gs_c S' d = gs_c S d from h.1 1]
theorem gs_at.way {S S' : gs_T} {d : Nat} (h : gs_at S S' d) (k : gv_way S d) : gv_way S' d := by
  unfold gv_way at k ⊢
  rw [h.m, show gs_l S' d = gs_l S d from h.1 3, show gs_c S' d = gs_c S d from h.1 1]
  exact k
theorem gs_mtR_no {S : gs_T} (hw : gs_wys S) {d e : Option Nat} {c a : Nat} (ha : a ≤ 60) (h : gs_mtR (gs_T2 S d e) (gs_cn S d e) c a = false) {n : Nat} (hn : a ≤ n) : gs_mt (gs_T2 S d e) (gs_cn S d e) c n = false := by
  cases hm : gs_mt (gs_T2 S d e) (gs_cn S d e) c n with
  | false => rfl
  | true =>
    have : gs_mtR (gs_T2 S d e) (gs_cn S d e) c a = true := by
      rw [gs_mtR_iff hw ha]
      by_cases h6 : n ≤ 60
      · exact ⟨n, hn, h6, hm⟩
      · exact ⟨60, ha, Nat.le_refl _, by rw [← gs_mt_60 hw (show 60 ≤ n by omega)]; exact hm⟩
    rw [h] at this
    cases this
theorem gs_mt_no {S : gs_T} {d e : Option Nat} {c n : Nat} (h : gs_mt (gs_T2 S d e) (gs_cn S d e) c n = false) {x y : Nat} (hx : gs_alive S x) (h1 : d ≠ some x) (h2 : e ≠ some x) (hp : gs_pos S x n = some y) : gm_near y c = false := by
  cases hn : gm_near y c with
  | false => rfl
  | true =>
    have : gs_mt (gs_T2 S d e) (gs_cn S d e) c n = true := gs_mt_iff.mpr ⟨x, hx, h1, h2, by rw [hp, gs_nearO, gm_near_comm]; exact hn⟩
    rw [h] at this
    cases this
/-- as gs_Good, but one that comes may have come -/
def gs_Go (S : gs_T) : Prop :=
  gs_wys S ∧ (gs_cnt (gs_u S) (gs_made S) ≤ 6 ∧ gs_made S ≤ 60) ∧
  (∀ k, gs_alive S k → gs_c S k < 64 ∧ gs_u S k ≤ 2 ∧ gs_p S k + gs_cnt (gs_u S) (gs_made S) ≤ gs_made S) ∧
  (∀ k c n, gs_alive S k → gs_pos S k n = some c → gs_k S c ≠ 1) ∧
  (∀ a b, gs_alive S a → gs_alive S b → a ≠ b → gs_i S a ≠ b + 1 → gs_i S b ≠ a + 1 → ∀ n x y, gs_pos S a n = some x → gs_pos S b n = some y → gm_near x y = false) ∧
  (∀ k, gs_alive S k → 0 < gs_i S k → gs_alive S (gs_i S k - 1) ∧ gs_i S k - 1 ≠ k ∧ gs_i S (gs_i S k - 1) = 0 ∧ gs_l S (gs_i S k - 1) = 0 ∧ gs_u S k = 1 ∧ gs_u S (gs_i S k - 1) = 1 ∧ ∀ k', gs_alive S k' → gs_i S k' = gs_i S k → k' = k) ∧
  gs_out S = gs_thr S + gs_sum (gs_u S) (gs_made S) ∧ gs_out S ≤ gs_made S
theorem gs_Good.go {S : gs_T} (h : gs_Good S) : gs_Go S := by
  obtain ⟨h1, h2, h3, h4, h5, h6, h7, h8⟩ := h
  refine ⟨h1, h2, h3, h4, h5, fun k hk hi => ?_, h7, h8⟩
  obtain ⟨a, b, c, d, e, f, -, g⟩ := h6 k hk hi
  exact ⟨a, b, c, d, e, f, g⟩
theorem gs_Go.good {S : gs_T} (h : gs_Go S) (hl : ∀ k, gs_alive S k → 0 < gs_i S k → 0 < gs_l S k) : gs_Good S := by
  obtain ⟨h1, h2, h3, h4, h5, h6, h7, h8⟩ := h
  refine ⟨h1, h2, h3, h4, h5, fun k hk hi => ?_, h7, h8⟩
  obtain ⟨a, b, c, d, e, f, g⟩ := h6 k hk hi
  exact ⟨a, b, c, d, e, f, hl k hk hi, g⟩
theorem gs_Good_cell {S : gs_T} (h : gs_Good S) (x y kind : Int32) : gs_Good (gs_cellS S x y kind) := by
  unfold gs_cellS
  split
  · rename_i hv
    unfold gs_cellv at hv
    rw [decide_eq_true_iff] at hv
    have hno : ∀ k, ¬ gs_alive S k := fun k hk => by have := gs_cnt_zero hv.2.2.2 k hk.1; have := hk.2; omega
    obtain ⟨h1, h2, h3, h4, h5, h6, h7, h8⟩ := h
    exact ⟨fun k hk => absurd hk (hno k), h2, fun k hk => absurd hk (hno k), fun k c n hk => absurd hk (hno k), fun a b ha => absurd ha (hno a), fun k hk => absurd hk (hno k), h7, h8⟩
  · exact h
theorem gs_src_some {S : gs_T} {k c : Nat} (h : gs_src S k = some c) : gs_k S c = 4 + k ∧ gs_mtR (gs_T2 S none none) (gs_cn S none none) c 0 = false := by
  have := (gs_fst_some _ h).2.2.1
  unfold gs_srcf at this
  simp only [Bool.and_eq_true, decide_eq_true_eq, Bool.not_eq_true'] at this
  exact this
theorem gs_Good_dispS {S : gs_T} (h : gs_Good S) {k c : Nat} (hs : gs_src S k = some c) (hfu : gs_full S = false) : gs_Good (gs_dispS S k c) := by
  obtain ⟨hk4, hcl⟩ := gs_src_some hs
  have hc := gs_src_lt hs
  unfold gs_full at hfu
  rw [decide_eq_false_iff_not] at hfu
  obtain ⟨h1, h2, h3, h4, h5, h6, h7, h8⟩ := h
  have hold : ∀ x, gs_alive S x → gs_at S (gs_dispS S k c) x := fun x hx => gs_dispS_at (by have := hx.1; omega)
  have hnp : ∀ n, gs_pos (gs_dispS S k c) (gs_made S) n = some c := fun n => by rw [gs_pos_rest gs_dispS_l gs_dispS_i, gs_dispS_c]
  have hcn : gs_cnt (gs_u (gs_dispS S k c)) (gs_made S + 1) = gs_cnt (gs_u S) (gs_made S) + 1 := by
    rw [gs_cnt, gs_dispS_u, if_pos (by omega), gs_cnt_congr (fun x hx => (gs_dispS_at (by omega)).1 0)]
  have hsm : gs_sum (gs_u (gs_dispS S k c)) (gs_made S + 1) = gs_sum (gs_u S) (gs_made S) + 1 := by
    rw [gs_sum, gs_dispS_u, gs_sum_congr (fun x hx => (gs_dispS_at (by omega)).1 0)]
  have hle := gs_cnt_le (gs_u S) (gs_made S)
  refine ⟨fun x hx => ?_, ⟨by rw [gs_dispS_made, hcn]; omega, by rw [gs_dispS_made]; omega⟩, fun x hx => ?_, fun x y n hx hp => ?_, fun a b ha hb hab hia hib n x y hpa hpb => ?_, fun x hx hi => ?_, ?_, ?_⟩
  · rcases gs_dispS_alive.mp hx with hx | hx
    · exact ⟨(hold x hx).way (h1 x hx).1, by rw [show gs_l (gs_dispS S k c) x = gs_l S x from (hold x hx).1 3]; exact (h1 x hx).2⟩
    · subst hx
      refine ⟨fun j hj => ?_, by rw [gs_dispS_l]; omega⟩
      rw [gs_dispS_l] at hj
      rw [gs_dispS_c, show j = 0 by omega]
      exact ⟨c, hc, rfl⟩
  · rw [gs_dispS_made, hcn]
    rcases gs_dispS_alive.mp hx with hx | hx
    · have := h3 x hx
      rw [show gs_c (gs_dispS S k c) x = gs_c S x from (hold x hx).1 1, show gs_u (gs_dispS S k c) x = gs_u S x from (hold x hx).1 0, show gs_p (gs_dispS S k c) x = gs_p S x from (hold x hx).1 2]
      omega
    · subst hx
      rw [gs_dispS_c, gs_dispS_u, gs_dispS_p]
      omega
  · show gs_k S y ≠ 1
    rcases gs_dispS_alive.mp hx with hx | hx
    · rw [(hold x hx).pos] at hp
      exact h4 x y n hx hp
    · subst hx
      rw [hnp] at hp
      cases hp
      omega
  · rcases gs_dispS_alive.mp ha with ha | ha <;> rcases gs_dispS_alive.mp hb with hb | hb
    · rw [(hold a ha).pos] at hpa
      rw [(hold b hb).pos] at hpb
      rw [show gs_i (gs_dispS S k c) a = gs_i S a from (hold a ha).1 4] at hia
      rw [show gs_i (gs_dispS S k c) b = gs_i S b from (hold b hb).1 4] at hib
      exact h5 a b ha hb hab hia hib n x y hpa hpb
    · subst hb
      rw [hnp] at hpb
      cases hpb
      rw [(hold a ha).pos] at hpa
      exact gs_mt_no (gs_mtR_no h1 (by omega) hcl (Nat.zero_le n)) ha (by simp) (by simp) hpa
    · subst ha
      rw [hnp] at hpa
      cases hpa
      rw [(hold b hb).pos] at hpb
      rw [gm_near_comm]
      exact gs_mt_no (gs_mtR_no h1 (by omega) hcl (Nat.zero_le n)) hb (by simp) (by simp) hpb
    · omega
  · rcases gs_dispS_alive.mp hx with hx | hx
    · rw [show gs_i (gs_dispS S k c) x = gs_i S x from (hold x hx).1 4] at hi ⊢
      obtain ⟨a1, a2, a3, a4, a5, a6, a7, a8⟩ := h6 x hx hi
      have e := hold _ a1
      refine ⟨gs_dispS_alive.mpr (Or.inl a1), a2, (e.1 4).trans a3, (e.1 3).trans a4, ((hold x hx).1 0).trans a5, (e.1 0).trans a6, by rw [show gs_l (gs_dispS S k c) x = gs_l S x from (hold x hx).1 3]; exact a7, fun k' hk' he => ?_⟩
      rcases gs_dispS_alive.mp hk' with hk' | hk'
      · exact a8 k' hk' (((hold k' hk').1 4).symm.trans he)
      · subst hk'
        rw [gs_dispS_i] at he
        omega
    · subst hx
      rw [gs_dispS_i] at hi
      omega
  · show gs_out S + 1 = gs_thr S + gs_sum (gs_u (gs_dispS S k c)) (gs_made S + 1)
    rw [hsm]
    omega
  · show gs_out S + 1 ≤ gs_made S + 1
    omega
theorem gs_Good_disp {S : gs_T} (h : gs_Good S) (x : Int32) : gs_Good (gs_disp S x).2.2 := by
  unfold gs_disp
  split
  · exact h
  · cases hs : gs_src S x.toNatClampNeg with
    | none => exact h
    | some c =>
      cases hf : gs_full S with
      | true => exact h
      | false => exact gs_Good_dispS h hs hf
/-- a droplet gets a way -/
theorem gs_Good_route {S S' : gs_T} (h : gs_Good S) {k en j : Nat} {r : Nat → Nat} (hk : gs_alive S k) (hf : gs_free S k = true) (hen : en ≤ 60) (e0 : S'.1 = S.1) (eS : S'.2.2.2 = S.2.2.2) (hat : ∀ x, x ≠ k → gs_at S S' x) (eu : gs_u S' k = gs_u S k) (ec : gs_c S' k = gs_c S k) (ep : gs_p S' k = gs_p S k) (el : gs_l S' k = en) (ei : gs_i S' k = j)
    (hr : ∀ n, n ≤ en → r n < 64 ∧ gs_wk (gs_c S k) (gs_m S' k) n = some (r n)) (hd : ∀ n, n ≤ en → gs_k S (r n) ≠ 1) (hcl : ∀ n x y, gs_alive S x → x ≠ k → j ≠ x + 1 → (0 < j → n < en) → gs_pos S x n = some y → gm_near y (r (min n en)) = false)
    (hj : j = 0 ∨ (gs_alive S (j - 1) ∧ j - 1 ≠ k ∧ gs_free S (j - 1) = true ∧ gs_u S k = 1 ∧ gs_u S (j - 1) = 1 ∧ 0 < en)) : gs_Good S' := by
  have hfr := h.free hk hf
  have hawk := gs_aw_none.mp hfr.2.2
  have hin := fun x hx hi => h.into (k := x) hx hi
  have hfrj : 0 < j → gs_l S (j - 1) = 0 ∧ gs_i S (j - 1) = 0 ∧ gs_aw S (j - 1) = none := fun h0 => by
    rcases hj with hj | ⟨a1, a2, a3, -⟩
    · omega
    · exact h.free a1 a3
  obtain ⟨h1, h2, h3, h4, h5, h6, h7, h8⟩ := h
  have em : gs_made S' = gs_made S := by show S'.2.2.2.1 0 = _; rw [eS]
  have eU : gs_u S' = gs_u S := funext fun x => by
    by_cases e : x = k
    · subst e; exact eu
    · exact (hat x e).1 0
  have hal : ∀ x, gs_alive S' x ↔ gs_alive S x := fun x => by unfold gs_alive; rw [em, show gs_u S' x = gs_u S x from congrFun eU x]
  have hI : ∀ x, x ≠ k → gs_i S' x = gs_i S x := fun x hx => (hat x hx).1 4
  have hpk : ∀ n c, gs_pos S' k n = some c → c = r (min n en) ∧ (0 < j → n < en) := fun n c hp => by
    unfold gs_pos at hp
    rw [ei, el, ec] at hp
    split at hp
    · cases hp
    · rename_i hc
      rw [(hr (min n en) (Nat.min_le_right _ _)).2] at hp
      cases hp
      exact ⟨rfl, fun h0 => by omega⟩
  refine ⟨fun x hx => ?_, by rw [em, eU]; exact h2, fun x hx => ?_, fun x c n hx hp => ?_, fun a b ha hb hab hia hib n x y hpa hpb => ?_, fun x hx hi => ?_, ?_, ?_⟩
  · by_cases e : x = k
    · subst e
      refine ⟨fun i hi => ?_, by rw [el]; exact hen⟩
      rw [el] at hi
      rw [ec]
      exact ⟨r i, hr i hi⟩
    · have := h1 x ((hal x).mp hx)
      exact ⟨(hat x e).way this.1, by rw [show gs_l S' x = gs_l S x from (hat x e).1 3]; exact this.2⟩
  · have := h3 x ((hal x).mp hx)
    rw [em, eU]
    by_cases e : x = k
    · subst e; rw [ec, ep]; exact this
    · rw [show gs_c S' x = gs_c S x from (hat x e).1 1, show gs_p S' x = gs_p S x from (hat x e).1 2]; exact this
  · show S'.1 c ≠ 1
    rw [e0]
    by_cases e : x = k
    · subst e
      rw [(hpk n c hp).1]
      exact hd _ (Nat.min_le_right _ _)
    · rw [(hat x e).pos] at hp
      exact h4 x c n ((hal x).mp hx) hp
  · by_cases ea : a = k
    · subst ea
      have eb : b ≠ a := fun z => hab z.symm
      obtain ⟨q1, q2⟩ := hpk n x hpa
      rw [(hat b eb).pos] at hpb
      rw [q1, gm_near_comm]
      rw [ei] at hia
      exact hcl n b y ((hal b).mp hb) eb hia q2 hpb
    · rw [(hat a ea).pos] at hpa
      by_cases eb : b = k
      · subst eb
        obtain ⟨q1, q2⟩ := hpk n y hpb
        rw [q1]
        rw [ei] at hib
        exact hcl n a x ((hal a).mp ha) ea hib q2 hpa
      · rw [(hat b eb).pos] at hpb
        rw [hI a ea] at hia
        rw [hI b eb] at hib
        exact h5 a b ((hal a).mp ha) ((hal b).mp hb) hab hia hib n x y hpa hpb
  · by_cases e : x = k
    · subst e
      rw [ei] at hi ⊢
      rcases hj with hj | ⟨a1, a2, a3, a4, a5, a6⟩
      · omega
      · have hz := hfrj hi
        refine ⟨(hal _).mpr a1, a2, by rw [hI _ a2]; exact hz.2.1, by rw [show gs_l S' (j - 1) = gs_l S (j - 1) from (hat _ a2).1 3]; exact hz.1, by rw [eu]; exact a4, by rw [show gs_u S' (j - 1) = gs_u S (j - 1) from congrFun eU _]; exact a5, by rw [el]; exact a6, fun k' hk' he => ?_⟩
        by_cases e2 : k' = x
        · exact e2
        · rw [hI k' e2] at he
          exact absurd (show gs_i S k' = j - 1 + 1 by omega) (gs_aw_none.mp hz.2.2 k' ((hal k').mp hk'))
    · rw [hI x e] at hi ⊢
      obtain ⟨a1, a2, a3, a4, a5, a6, a7, a8⟩ := hin x ((hal x).mp hx) hi
      have e2 : gs_i S x - 1 ≠ k := fun z => hawk x ((hal x).mp hx) (by omega)
      refine ⟨(hal _).mpr a1, a2, by rw [hI _ e2]; exact a3, by rw [show gs_l S' (gs_i S x - 1) = gs_l S (gs_i S x - 1) from (hat _ e2).1 3]; exact a4, by rw [show gs_u S' x = gs_u S x from congrFun eU _]; exact a5, by rw [show gs_u S' (gs_i S x - 1) = gs_u S (gs_i S x - 1) from congrFun eU _]; exact a6, by rw [show gs_l S' x = gs_l S x from (hat x e).1 3]; exact a7, fun k' hk' he => ?_⟩
      by_cases e3 : k' = k
      · subst e3
        rw [ei] at he
        exact absurd (show gs_i S x = j - 1 + 1 by omega) (gs_aw_none.mp (hfrj (by omega)).2.2 x ((hal x).mp hx))
      · rw [hI k' e3] at he
        exact a8 k' ((hal k').mp hk') he
  · show S'.2.2.2.1 1 = S'.2.2.2.1 2 + gs_sum (gs_u S') (gs_made S')
    rw [em, eU, eS]
    exact h7
  · show S'.2.2.2.1 1 ≤ gs_made S'
    rw [em, eS]
    exact h8
/-- what the way that was found keeps clear of -/
theorem gs_rtc_fact {S : gs_T} {k : Nat} {e : Option Nat} {goal en : Nat} {jn : Bool} (hfr : gs_c S k < 64) (hgo : goal < 64) (hk : gs_k S (gs_c S k) ≠ 1) (hway : gs_W S k e goal jn = some en) :
    (∀ n, n ≤ en → gs_rtc (gs_led (gs_R S k e) goal en) en (gs_c S k) n < 64 ∧ gs_wk (gs_c S k) (gs_V S k e goal en) n = some (gs_rtc (gs_led (gs_R S k e) goal en) en (gs_c S k) n)) ∧
    (∀ n, n ≤ en → gs_k S (gs_rtc (gs_led (gs_R S k e) goal en) en (gs_c S k) n) ≠ 1) ∧
    (∀ n, 1 ≤ n → n < en → gs_mt (gs_T2 S (some k) e) (gs_cn S (some k) e) (gs_rtc (gs_led (gs_R S k e) goal en) en (gs_c S k) n) n = false) ∧
    gs_rtc (gs_led (gs_R S k e) goal en) en (gs_c S k) en = goal ∧ gs_end S (gs_T2 S (some k) e) (gs_cn S (some k) e) goal en jn = true := by
  have hok := gs_rtc_ok hfr hgo hway
  have hwk : ∀ n, n ≤ en → gs_wk (gs_c S k) (gs_V S k e goal en) n = some (gs_rtc (gs_led (gs_R S k e) goal en) en (gs_c S k) n) := by
    intro n
    induction n with
    | zero => intro _; rfl
    | succ n ih =>
      intro hn
      rw [gs_wk, ih (by omega)]
      exact (gs_rtc_mv hfr hgo hway (by omega)).2
  have hen : gs_rtc (gs_led (gs_R S k e) goal en) en (gs_c S k) en = goal := by
    have := (hok en (Nat.le_refl _)).2
    rw [Nat.sub_self, gs_led] at this
    simpa using this
  have hend : gs_end S (gs_T2 S (some k) e) (gs_cn S (some k) e) goal en jn = true := by
    rcases gs_way_some hway with ⟨q1, q2, q3, q4⟩ | ⟨q1, q2, q3, q4⟩
    · subst q1; subst q2; exact q4
    · exact q4
  have hbe : ∀ n, 1 ≤ n → n < en → gs_be S (gs_T2 S (some k) e) (gs_cn S (some k) e) (gs_rtc (gs_led (gs_R S k e) goal en) en (gs_c S k) n) n = true := by
    intro n h1 h2
    have h3 := (hok n (by omega)).2
    rw [show en - n = (en - (n + 1)) + 1 by omega, gs_led, Bool.and_eq_true, show en - (en - (n + 1) + 1) = n by omega] at h3
    have h4 := h3.2
    obtain ⟨n', rfl⟩ : ∃ n', n = n' + 1 := ⟨n - 1, by omega⟩
    rw [gs_rch, Bool.and_eq_true] at h4
    exact h4.2
  refine ⟨fun n hn => ⟨(hok n hn).1, hwk n hn⟩, fun n hn => ?_, fun n h1 h2 => ?_, hen, hend⟩
  · by_cases e0 : n = 0
    · subst e0; exact hk
    · by_cases e1 : n = en
      · subst e1
        rw [hen]
        unfold gs_end at hend
        simp only [Bool.and_eq_true, Bool.not_eq_true', decide_eq_false_iff_not] at hend
        exact hend.1
      · have := hbe n (by omega) (by omega)
        unfold gs_be at this
        simp only [Bool.and_eq_true, Bool.not_eq_true', decide_eq_false_iff_not] at this
        exact this.1.1.1
  · have := hbe n h1 h2
    unfold gs_be at this
    simp only [Bool.and_eq_true, Bool.not_eq_true', decide_eq_false_iff_not] at this
    exact this.1.2
theorem gs_route_at {S : gs_T} {k en : Nat} {mv : Nat → Nat} {x : Nat} (h : x ≠ k) : gs_at S (gs_route S k en mv) x := ⟨fun f => by show (if x = k then _ else _) = _; rw [if_neg h], fun _ _ => rfl⟩
theorem gs_route_f {S : gs_T} {k en : Nat} {mv : Nat → Nat} {a : Nat} (h3 : a ≠ 3) (h5 : a < 5) : (gs_route S k en mv).2.1 a k = S.2.1 a k := by
  show (if k = k then (if a = 3 then en else if 5 ≤ a then mv (a - 5) else S.2.1 a k) else S.2.1 a k) = _
  rw [if_pos rfl, if_neg h3, if_neg (by omega)]
theorem gs_route_l {S : gs_T} {k en : Nat} {mv : Nat → Nat} : gs_l (gs_route S k en mv) k = en := by
  show (if k = k then (if (3 : Nat) = 3 then en else if 5 ≤ 3 then mv (3 - 5) else S.2.1 3 k) else S.2.1 3 k) = _
  rw [if_pos rfl, if_pos rfl]
theorem gs_route_m {S : gs_T} {k en : Nat} {mv : Nat → Nat} : gs_m (gs_route S k en mv) k = mv := by
  funext j
  show (if k = k then (if 5 + j = 3 then en else if 5 ≤ 5 + j then mv (5 + j - 5) else S.2.1 (5 + j) k) else S.2.1 (5 + j) k) = _
  rw [if_pos rfl, if_neg (by omega), if_pos (by omega), show 5 + j - 5 = j by omega]
theorem gs_Good.clear0 {S : gs_T} (h : gs_Good S) {k x y : Nat} (hk : gs_alive S k) (hf : gs_free S k = true) (hx : gs_alive S x) (hxk : x ≠ k) {n : Nat} (hp : gs_pos S x n = some y) : gm_near y (gs_c S k) = false := by
  have hfr := h.free hk hf
  exact h.2.2.2.2.1 x k hx hk hxk (gs_aw_none.mp hfr.2.2 x hx) (by rw [hfr.2.1]; omega) n y (gs_c S k) hp (gs_pos_rest hfr.1 hfr.2.1)
theorem gs_Good_sendS {S : gs_T} (h : gs_Good S) {k goal en : Nat} (hk : gs_alive S k) (hf : gs_free S k = true) (hgo : goal < 64) (hway : gs_W S k none goal false = some en) : gs_Good (gs_route S k en (gs_V S k none goal en)) := by
  have hfr := h.free hk hf
  obtain ⟨f1, f2, f3, f4, f5⟩ := gs_rtc_fact (h.2.2.1 k hk).1 hgo (h.cell hk) hway
  have hen := gs_way_le hway
  refine gs_Good_route (r := gs_rtc (gs_led (gs_R S k none) goal en) en (gs_c S k)) h hk hf hen rfl rfl (fun x hx => gs_route_at hx) (gs_route_f (by decide) (by decide)) (gs_route_f (by decide) (by decide)) (gs_route_f (by decide) (by decide)) gs_route_l ((gs_route_f (by decide) (by decide)).trans hfr.2.1) (by rw [gs_route_m]; exact f1) f2 (fun n x y hx hxk _ _ hp => ?_) (Or.inl rfl)
  by_cases e1 : en ≤ n
  · rw [Nat.min_eq_right e1, f4]
    unfold gs_end at f5
    simp only [Bool.and_eq_true, Bool.not_eq_true', Bool.false_eq_true, if_false] at f5
    exact gs_mt_no (gs_mtR_no h.1 (by omega) f5.2 (show en - 1 ≤ n by omega)) hx (fun z => hxk (Option.some.inj z).symm) (by simp) hp
  · rw [Nat.min_eq_left (by omega)]
    by_cases e0 : n = 0
    · subst e0; exact h.clear0 hk hf hx hxk hp
    · exact gs_mt_no (f3 n (by omega) (by omega)) hx (fun z => hxk (Option.some.inj z).symm) (by simp) hp
theorem gs_Good_joinS {S : gs_T} (h : gs_Good S) {k e en : Nat} (hk : gs_alive S k) (hf : gs_free S k = true) (he : gs_alive S e) (hfe : gs_free S e = true) (hke : k ≠ e) (uk : gs_u S k = 1) (ue : gs_u S e = 1) (hway : gs_W S k (some e) (gs_c S e) true = some en) : gs_Good (gs_fd (gs_route S k en (gs_V S k (some e) (gs_c S e) en)) 4 k (e + 1)) := by
  have hfr := h.free hk hf
  obtain ⟨f1, f2, f3, f4, f5⟩ := gs_rtc_fact (h.2.2.1 k hk).1 (h.2.2.1 e he).1 (h.cell hk) hway
  have hen := gs_way_le hway
  have hen1 : 0 < en := by
    rcases gs_way_some hway with ⟨-, q2, -⟩ | ⟨q1, -⟩
    · cases q2
    · omega
  refine gs_Good_route (r := gs_rtc (gs_led (gs_R S k (some e)) (gs_c S e) en) en (gs_c S k)) (j := e + 1) h hk hf hen rfl rfl (fun x hx => ⟨fun f => ?_, fun _ _ => rfl⟩) (gs_route_f (a := 0) (by decide) (by decide)) (gs_route_f (a := 1) (by decide) (by decide)) (gs_route_f (a := 2) (by decide) (by decide)) gs_route_l ?_ ?_ f2 (fun n x y hx hxk hj h0 hp => ?_) (Or.inr ⟨he, fun z => hke z.symm, hfe, uk, ue, hen1⟩)
  · show (if f = 4 ∧ x = k then e + 1 else (gs_route S k en (gs_V S k (some e) (gs_c S e) en)).2.1 f x) = _
    rw [if_neg (fun z => hx z.2)]
    exact (gs_route_at hx).1 f
  · show (if (4 : Nat) = 4 ∧ k = k then e + 1 else _) = _
    rw [if_pos ⟨rfl, rfl⟩]
  · have em : gs_m (gs_fd (gs_route S k en (gs_V S k (some e) (gs_c S e) en)) 4 k (e + 1)) k = gs_m (gs_route S k en (gs_V S k (some e) (gs_c S e) en)) k := by
      funext j
      show (if 5 + j = 4 ∧ k = k then e + 1 else _) = _
      rw [if_neg (by omega)]
    rw [em, gs_route_m]
    exact f1
  · have hn := h0 (by omega)
    rw [Nat.min_eq_left (by omega)]
    by_cases e0 : n = 0
    · subst e0; exact h.clear0 hk hf hx hxk hp
    · exact gs_mt_no (f3 n (by omega) (by omega)) hx (fun z => hxk (Option.some.inj z).symm) (fun z => hj (by rw [Option.some.inj z])) hp
theorem gs_isd_al {S : gs_T} (hN : gs_made S ≤ 60) {d : Int32} (h : gs_isd S d = true) : gs_alive S d.toNatClampNeg ∧ d = nI d.toNatClampNeg := by
  obtain ⟨k, hk, hd, hu⟩ := gs_isd_t hN h
  subst hd
  rw [nI_clamp (by omega)]
  exact ⟨⟨hk, hu⟩, rfl⟩
theorem gs_at_lt {x y : Int32} (h : gm_has x y ≠ 0) : (8 * y + x).toNatClampNeg < 64 := by
  obtain ⟨a, b, ha, hb, rfl, rfl⟩ := gm_has_1 h
  rw [gm_at_eq, nI_clamp (by omega)]
  omega
theorem gs_Good_send {S : gs_T} (h : gs_Good S) (d x y : Int32) : gs_Good (gs_send S d x y).2.2 := by
  unfold gs_send
  split
  · exact h
  · rename_i h1
    split
    · exact h
    · rename_i h2
      cases hway : gs_W S d.toNatClampNeg none (8 * y + x).toNatClampNeg false with
      | none => exact h
      | some en =>
        have hd : gs_isd S d = true := by cases hh : gs_isd S d with | true => rfl | false => exact absurd (Or.inl hh) h1
        refine gs_Good_sendS h (gs_isd_al h.2.1.2 hd).1 (by simpa using h2) ?_ hway
        exact gs_at_lt (fun z => h1 (Or.inr z))
theorem gs_Good_join {S : gs_T} (h : gs_Good S) (d e : Int32) : gs_Good (gs_join S d e).2.2 := by
  unfold gs_join
  split
  · exact h
  · rename_i h1
    split
    · exact h
    · rename_i h2
      cases hway : gs_W S d.toNatClampNeg (some e.toNatClampNeg) (gs_c S e.toNatClampNeg) true with
      | none => exact h
      | some en =>
        have hd : gs_isd S d = true := by cases hh : gs_isd S d with | true => rfl | false => exact absurd (Or.inl hh) h1
        have he : gs_isd S e = true := by cases hh : gs_isd S e with | true => rfl | false => exact absurd (Or.inr (Or.inl hh)) h1
        obtain ⟨d1, d2⟩ := gs_isd_al h.2.1.2 hd
        obtain ⟨e1, e2⟩ := gs_isd_al h.2.1.2 he
        simp only [not_or, Bool.not_eq_false, Decidable.not_not] at h2
        refine gs_Good_joinS h d1 h2.1 e1 h2.2.1 (fun z => h1 (Or.inr (Or.inr ?_))) h2.2.2.1 h2.2.2.2 hway
        rw [d2, e2, z]
theorem gs_Good_disc {S : gs_T} (h : gs_Good S) (d : Int32) : gs_Good (gs_discS S d) := by
  unfold gs_discS
  split
  · rename_i hc
    unfold gs_discc at hc
    split at hc
    · cases hc
    · rename_i h1
      split at hc
      · rename_i h2
        have hd : gs_isd S d = true := by simpa using h1
        obtain ⟨hk, -⟩ := gs_isd_al h.2.1.2 hd
        revert hk h2
        generalize d.toNatClampNeg = k
        intro h2 hk
        have hawk := gs_aw_none.mp (h.free hk h2.1).2.2
        obtain ⟨h1, h2, h3, h4, h5, h6, h7, h8⟩ := h
        have hat : ∀ x, x ≠ k → gs_at S (gs_fd (gs_sc S 2 (gs_thr S + gs_u S k)) 0 k 0) x := fun x hx => ⟨fun f => by show (if f = 0 ∧ x = k then 0 else S.2.1 f x) = _; rw [if_neg (fun z => hx z.2)], fun _ _ => rfl⟩
        have hu : gs_u (gs_fd (gs_sc S 2 (gs_thr S + gs_u S k)) 0 k 0) k = 0 := by show (if (0 : Nat) = 0 ∧ k = k then 0 else S.2.1 0 k) = _; rw [if_pos ⟨rfl, rfl⟩]
        have hal : ∀ x, gs_alive (gs_fd (gs_sc S 2 (gs_thr S + gs_u S k)) 0 k 0) x → gs_alive S x ∧ x ≠ k := fun x hx => by
          by_cases e : x = k
          · subst e; have := hx.2; rw [hu] at this; omega
          · exact ⟨⟨hx.1, by have := hx.2; rw [show gs_u _ x = gs_u S x from (hat x e).1 0] at this; exact this⟩, e⟩
        have hal2 : ∀ x, gs_alive S x → x ≠ k → gs_alive (gs_fd (gs_sc S 2 (gs_thr S + gs_u S k)) 0 k 0) x := fun x hx e => ⟨hx.1, by rw [show gs_u _ x = gs_u S x from (hat x e).1 0]; exact hx.2⟩
        have hcn := gs_cnt_upd (U := gs_u S) (U' := gs_u (gs_fd (gs_sc S 2 (gs_thr S + gs_u S k)) 0 k 0)) hk.1 (fun x _ hx => (hat x hx).1 0)
        have hsm := gs_sum_upd (U := gs_u S) (U' := gs_u (gs_fd (gs_sc S 2 (gs_thr S + gs_u S k)) 0 k 0)) hk.1 (fun x _ hx => (hat x hx).1 0)
        rw [hu] at hcn hsm
        rw [if_pos hk.2, if_neg (Nat.lt_irrefl 0)] at hcn
        have em : gs_made (gs_fd (gs_sc S 2 (gs_thr S + gs_u S k)) 0 k 0) = gs_made S := rfl
        refine ⟨fun x hx => ?_, ⟨by rw [em]; omega, h2.2⟩, fun x hx => ?_, fun x c n hx hp => ?_, fun a b ha hb hab hia hib n x y hpa hpb => ?_, fun x hx hi => ?_, ?_, ?_⟩
        · obtain ⟨a, b⟩ := hal x hx
          exact ⟨(hat x b).way (h1 x a).1, by rw [show gs_l _ x = gs_l S x from (hat x b).1 3]; exact (h1 x a).2⟩
        · obtain ⟨a, b⟩ := hal x hx
          have := h3 x a
          rw [em, show gs_c _ x = gs_c S x from (hat x b).1 1, show gs_u _ x = gs_u S x from (hat x b).1 0, show gs_p _ x = gs_p S x from (hat x b).1 2]
          omega
        · obtain ⟨a, b⟩ := hal x hx
          rw [(hat x b).pos] at hp
          exact h4 x c n a hp
        · obtain ⟨a1, b1⟩ := hal a ha
          obtain ⟨a2, b2⟩ := hal b hb
          rw [(hat a b1).pos] at hpa
          rw [(hat b b2).pos] at hpb
          rw [show gs_i _ a = gs_i S a from (hat a b1).1 4] at hia
          rw [show gs_i _ b = gs_i S b from (hat b b2).1 4] at hib
          exact h5 a b a1 a2 hab hia hib n x y hpa hpb
        · obtain ⟨a, b⟩ := hal x hx
          rw [show gs_i _ x = gs_i S x from (hat x b).1 4] at hi ⊢
          obtain ⟨a1, a2, a3, a4, a5, a6, a7, a8⟩ := h6 x a hi
          have e2 : gs_i S x - 1 ≠ k := fun z => hawk x a (by omega)
          refine ⟨hal2 _ a1 e2, a2, ((hat _ e2).1 4).trans a3, ((hat _ e2).1 3).trans a4, ((hat x b).1 0).trans a5, ((hat _ e2).1 0).trans a6, by rw [show gs_l _ x = gs_l S x from (hat x b).1 3]; exact a7, fun k' hk' he => ?_⟩
          obtain ⟨c1, c2⟩ := hal k' hk'
          exact a8 k' c1 (((hat k' c2).1 4).symm.trans he)
        · show gs_out S = (gs_thr S + gs_u S k) + gs_sum (gs_u (gs_fd (gs_sc S 2 (gs_thr S + gs_u S k)) 0 k 0)) (gs_made S)
          omega
        · exact h8
      · cases hc
  · exact h
theorem gm_half_near : ∀ c, c < 64 → (∀ a b, gm_mv c 1 = some a → gm_mv c 3 = some b → gm_near a b = false) ∧ ∀ a b, gm_mv c 4 = some a → gm_mv c 2 = some b → gm_near a b = false := by
  have key : ∀ c, c < 64 → (match gm_mv c 1, gm_mv c 3 with | some a, some b => gm_near a b | _, _ => false) = false ∧ (match gm_mv c 4, gm_mv c 2 with | some a, some b => gm_near a b | _, _ => false) = false := by decide
  intro c hc
  obtain ⟨k1, k2⟩ := key c hc
  refine ⟨fun a b h1 h2 => ?_, fun a b h1 h2 => ?_⟩
  · rw [h1, h2] at k1; exact k1
  · rw [h1, h2] at k2; exact k2
section HS
variable {S : gs_T} {k a b : Nat}
theorem gs_halfS_at {x : Nat} (h : x ≠ gs_made S) (h2 : x ≠ gs_made S + 1) (hk : x ≠ k) : gs_at S (gs_halfS S k a b) x := by
  refine ⟨fun f => ?_, fun j hj => ?_⟩
  · simp only [gs_halfS, gs_sc, gs_fd, gs_sh4, gs_sset, gs_add, gs_made, h, h2, hk, and_false, if_false, if_true]
  · simp only [gs_halfS, gs_sc, gs_fd, gs_sh4, gs_sset, gs_add, gs_made, h, h2, false_and, if_false, if_true]
theorem gs_halfS_made : gs_made (gs_halfS S k a b) = gs_made S + 2 := rfl
theorem gs_halfS_sc : (gs_halfS S k a b).2.2.2 = ((fun j => if j = 0 then gs_made S + 2 else S.2.2.2.1 j), S.2.2.2.2) := by
  simp [gs_halfS, gs_sc, gs_fd, gs_sh4, gs_sset, gs_add, gs_made]
  funext j
  split <;> rfl
theorem gs_halfS_uk (hk : k < gs_made S) : gs_u (gs_halfS S k a b) k = 0 := by
  simp [gs_halfS, gs_sc, gs_fd, gs_sh4, gs_sset, gs_add, gs_made, gs_u]
  have h0 : k < S.2.2.2.1 0 := hk
  rw [if_neg (by omega), if_neg (by omega)]
theorem gs_halfS_0 (f : Nat) (hf : f < 5) : (gs_halfS S k a b).2.1 f (gs_made S) = (if f = 0 then 1 else if f = 1 then a else if f = 2 then gs_p S k else 0) := by
  rcases (by omega : f = 0 ∨ f = 1 ∨ f = 2 ∨ f = 3 ∨ f = 4) with rfl | rfl | rfl | rfl | rfl <;> simp [gs_halfS, gs_sc, gs_fd, gs_sh4, gs_sset, gs_add, gs_made, gs_p]
theorem gs_halfS_1 (f : Nat) (hf : f < 5) : (gs_halfS S k a b).2.1 f (gs_made S + 1) = (if f = 0 then 1 else if f = 1 then b else if f = 2 then gs_p S k else 0) := by
  rcases (by omega : f = 0 ∨ f = 1 ∨ f = 2 ∨ f = 3 ∨ f = 4) with rfl | rfl | rfl | rfl | rfl <;> simp [gs_halfS, gs_sc, gs_fd, gs_sh4, gs_sset, gs_add, gs_made, gs_p]
theorem gs_halfS_sh (j : Nat) (hj : j < 4) : gs_sh (gs_halfS S k a b) (gs_made S) j = gs_sh S k j ∧ gs_sh (gs_halfS S k a b) (gs_made S + 1) j = gs_sh S k j := by
  rcases (by omega : j = 0 ∨ j = 1 ∨ j = 2 ∨ j = 3) with rfl | rfl | rfl | rfl <;> simp [gs_halfS, gs_sc, gs_fd, gs_sh4, gs_sset, gs_add, gs_made, gs_sh]
theorem gs_halfS_alive (hk : gs_alive S k) {x : Nat} : gs_alive (gs_halfS S k a b) x ↔ (gs_alive S x ∧ x ≠ k) ∨ x = gs_made S ∨ x = gs_made S + 1 := by
  unfold gs_alive
  rw [gs_halfS_made]
  by_cases e0 : x = gs_made S
  · subst e0
    rw [show gs_u (gs_halfS S k a b) (gs_made S) = 1 from gs_halfS_0 0 (by omega)]
    exact ⟨fun _ => Or.inr (Or.inl rfl), fun _ => ⟨by omega, by omega⟩⟩
  · by_cases e1 : x = gs_made S + 1
    · subst e1
      rw [show gs_u (gs_halfS S k a b) (gs_made S + 1) = 1 from gs_halfS_1 0 (by omega)]
      exact ⟨fun _ => Or.inr (Or.inr rfl), fun _ => ⟨by omega, by omega⟩⟩
    · by_cases e2 : x = k
      · subst e2
        rw [gs_halfS_uk hk.1]
        exact ⟨fun z => by omega, fun z => by rcases z with z | z | z <;> omega⟩
      · rw [show gs_u (gs_halfS S k a b) x = gs_u S x from (gs_halfS_at e0 e1 e2).1 0]
        constructor
        · rintro ⟨q1, q2⟩; exact Or.inl ⟨⟨by omega, q2⟩, e2⟩
        · rintro (⟨⟨q1, q2⟩, -⟩ | q | q)
          · exact ⟨by omega, q2⟩
          · exact absurd q e0
          · exact absurd q e1
theorem gs_Good_halfS (h : gs_Good S) (hk : gs_alive S k) (ha : a < 64) (hb : b < 64) (hab : gm_near a b = false) (hok : gs_halfok S k a b = true) : gs_Good (gs_halfS S k a b) := by
  unfold gs_halfok gs_fits gs_rest at hok
  simp only [Bool.and_eq_true, Bool.not_eq_true', decide_eq_true_eq, decide_eq_false_iff_not] at hok
  obtain ⟨⟨⟨⟨hf, hu2⟩, ⟨⟨⟨ka, kb⟩, ra⟩, rb⟩⟩, hc6⟩, hm⟩ := hok
  have hfr := h.free hk hf
  have hawk := gs_aw_none.mp hfr.2.2
  obtain ⟨h1, h2, h3, h4, h5, h6, h7, h8⟩ := h
  have hat : ∀ x, gs_alive S x → x ≠ k → gs_at S (gs_halfS S k a b) x := fun x hx he => gs_halfS_at (by have := hx.1; omega) (by have := hx.1; omega) he
  have hp0 : ∀ n, gs_pos (gs_halfS S k a b) (gs_made S) n = some a := fun n => by
    rw [gs_pos_rest (show gs_l _ _ = 0 from gs_halfS_0 3 (by omega)) (show gs_i _ _ = 0 from gs_halfS_0 4 (by omega)), show gs_c _ _ = a from gs_halfS_0 1 (by omega)]
  have hp1 : ∀ n, gs_pos (gs_halfS S k a b) (gs_made S + 1) n = some b := fun n => by
    rw [gs_pos_rest (show gs_l _ _ = 0 from gs_halfS_1 3 (by omega)) (show gs_i _ _ = 0 from gs_halfS_1 4 (by omega)), show gs_c _ _ = b from gs_halfS_1 1 (by omega)]
  have hun : ∀ x, x < gs_made S → x ≠ k → gs_u (gs_halfS S k a b) x = gs_u S x := fun x hx he => (gs_halfS_at (by omega) (by omega) he).1 0
  have hcn : gs_cnt (gs_u (gs_halfS S k a b)) (gs_made S + 2) = gs_cnt (gs_u S) (gs_made S) + 1 := by
    have := gs_cnt_upd (U := gs_u S) (U' := gs_u (gs_halfS S k a b)) hk.1 hun
    rw [gs_halfS_uk hk.1, if_pos hk.2, if_neg (Nat.lt_irrefl 0)] at this
    rw [show gs_made S + 2 = gs_made S + 1 + 1 from rfl, gs_cnt, gs_cnt, show gs_u (gs_halfS S k a b) (gs_made S) = 1 from gs_halfS_0 0 (by omega), show gs_u (gs_halfS S k a b) (gs_made S + 1) = 1 from gs_halfS_1 0 (by omega), if_pos (by omega), if_pos (by omega)]
    omega
  have hsm : gs_sum (gs_u (gs_halfS S k a b)) (gs_made S + 2) = gs_sum (gs_u S) (gs_made S) := by
    have := gs_sum_upd (U := gs_u S) (U' := gs_u (gs_halfS S k a b)) hk.1 hun
    rw [gs_halfS_uk hk.1] at this
    rw [show gs_made S + 2 = gs_made S + 1 + 1 from rfl, gs_sum, gs_sum, show gs_u (gs_halfS S k a b) (gs_made S) = 1 from gs_halfS_0 0 (by omega), show gs_u (gs_halfS S k a b) (gs_made S + 1) = 1 from gs_halfS_1 0 (by omega)]
    omega
  have cla : ∀ x n y, gs_alive S x → x ≠ k → gs_pos S x n = some y → gm_near y a = false := fun x n y hx he hp => gs_mt_no (gs_mtR_no h1 (by omega) ra (Nat.zero_le n)) hx (fun z => he (Option.some.inj z).symm) (by simp) hp
  have clb : ∀ x n y, gs_alive S x → x ≠ k → gs_pos S x n = some y → gm_near y b = false := fun x n y hx he hp => gs_mt_no (gs_mtR_no h1 (by omega) rb (Nat.zero_le n)) hx (fun z => he (Option.some.inj z).symm) (by simp) hp
  have hpk := h3 k hk
  refine ⟨fun x hx => ?_, ⟨by rw [gs_halfS_made, hcn]; omega, by rw [gs_halfS_made]; omega⟩, fun x hx => ?_, fun x c n hx hp => ?_, fun x1 x2 hx1 hx2 hne hia hib n y1 y2 hpa hpb => ?_, fun x hx hi => ?_, ?_, ?_⟩
  · rcases (gs_halfS_alive hk).mp hx with ⟨q1, q2⟩ | rfl | rfl
    · exact ⟨(hat x q1 q2).way (h1 x q1).1, by rw [show gs_l _ x = gs_l S x from (hat x q1 q2).1 3]; exact (h1 x q1).2⟩
    · refine ⟨fun j hj => ?_, by rw [show gs_l _ _ = 0 from gs_halfS_0 3 (by omega)]; omega⟩
      rw [show gs_l _ _ = 0 from gs_halfS_0 3 (by omega)] at hj
      rw [show gs_c _ _ = a from gs_halfS_0 1 (by omega), show j = 0 by omega]
      exact ⟨a, ha, rfl⟩
    · refine ⟨fun j hj => ?_, by rw [show gs_l _ _ = 0 from gs_halfS_1 3 (by omega)]; omega⟩
      rw [show gs_l _ _ = 0 from gs_halfS_1 3 (by omega)] at hj
      rw [show gs_c _ _ = b from gs_halfS_1 1 (by omega), show j = 0 by omega]
      exact ⟨b, hb, rfl⟩
  · rw [gs_halfS_made, hcn]
    rcases (gs_halfS_alive hk).mp hx with ⟨q1, q2⟩ | rfl | rfl
    · have := h3 x q1
      rw [show gs_c _ x = gs_c S x from (hat x q1 q2).1 1, show gs_u _ x = gs_u S x from (hat x q1 q2).1 0, show gs_p _ x = gs_p S x from (hat x q1 q2).1 2]
      omega
    · rw [show gs_c _ _ = a from gs_halfS_0 1 (by omega), show gs_u _ _ = 1 from gs_halfS_0 0 (by omega), show gs_p _ _ = gs_p S k from gs_halfS_0 2 (by omega)]
      omega
    · rw [show gs_c _ _ = b from gs_halfS_1 1 (by omega), show gs_u _ _ = 1 from gs_halfS_1 0 (by omega), show gs_p _ _ = gs_p S k from gs_halfS_1 2 (by omega)]
      omega
  · show gs_k S c ≠ 1
    rcases (gs_halfS_alive hk).mp hx with ⟨q1, q2⟩ | rfl | rfl
    · rw [(hat x q1 q2).pos] at hp
      exact h4 x c n q1 hp
    · rw [hp0] at hp; cases hp; exact ka
    · rw [hp1] at hp; cases hp; exact kb
  · rcases (gs_halfS_alive hk).mp hx1 with ⟨q1, q2⟩ | rfl | rfl <;> rcases (gs_halfS_alive hk).mp hx2 with ⟨s1, s2⟩ | rfl | rfl
    · rw [(hat _ q1 q2).pos] at hpa
      rw [(hat _ s1 s2).pos] at hpb
      rw [show gs_i _ x1 = gs_i S x1 from (hat _ q1 q2).1 4] at hia
      rw [show gs_i _ x2 = gs_i S x2 from (hat _ s1 s2).1 4] at hib
      exact h5 x1 x2 q1 s1 hne hia hib n y1 y2 hpa hpb
    · rw [hp0] at hpb; cases hpb
      rw [(hat _ q1 q2).pos] at hpa
      exact cla x1 n y1 q1 q2 hpa
    · rw [hp1] at hpb; cases hpb
      rw [(hat _ q1 q2).pos] at hpa
      exact clb x1 n y1 q1 q2 hpa
    · rw [hp0] at hpa; cases hpa
      rw [(hat _ s1 s2).pos] at hpb
      rw [gm_near_comm]
      exact cla x2 n y2 s1 s2 hpb
    · omega
    · rw [hp0] at hpa; cases hpa
      rw [hp1] at hpb; cases hpb
      exact hab
    · rw [hp1] at hpa; cases hpa
      rw [(hat _ s1 s2).pos] at hpb
      rw [gm_near_comm]
      exact clb x2 n y2 s1 s2 hpb
    · rw [hp1] at hpa; cases hpa
      rw [hp0] at hpb; cases hpb
      rw [gm_near_comm]
      exact hab
    · omega
  · rcases (gs_halfS_alive hk).mp hx with ⟨q1, q2⟩ | rfl | rfl
    · rw [show gs_i _ x = gs_i S x from (hat x q1 q2).1 4] at hi ⊢
      obtain ⟨a1, a2, a3, a4, a5, a6, a7, a8⟩ := h6 x q1 hi
      have e2 : gs_i S x - 1 ≠ k := fun z => hawk x q1 (by omega)
      have e3 := hat _ a1 e2
      refine ⟨(gs_halfS_alive hk).mpr (Or.inl ⟨a1, e2⟩), a2, (e3.1 4).trans a3, (e3.1 3).trans a4, ((hat x q1 q2).1 0).trans a5, (e3.1 0).trans a6, by rw [show gs_l _ x = gs_l S x from (hat x q1 q2).1 3]; exact a7, fun k' hk' he => ?_⟩
      rcases (gs_halfS_alive hk).mp hk' with ⟨s1, s2⟩ | rfl | rfl
      · exact a8 k' s1 (((hat k' s1 s2).1 4).symm.trans he)
      · rw [show gs_i _ _ = 0 from gs_halfS_0 4 (by omega)] at he; omega
      · rw [show gs_i _ _ = 0 from gs_halfS_1 4 (by omega)] at he; omega
    · rw [show gs_i _ _ = 0 from gs_halfS_0 4 (by omega)] at hi; omega
    · rw [show gs_i _ _ = 0 from gs_halfS_1 4 (by omega)] at hi; omega
  · rw [gs_halfS_made, hsm]
    exact h7
  · show gs_out S ≤ gs_made S + 2
    omega
end HS
theorem gs_Good_half2 {S : gs_T} (h : gs_Good S) {k : Nat} (hk : gs_alive S k) {x y : Option Nat} (hx : ∀ a b, x = some a → y = some b → a < 64 ∧ b < 64 ∧ gm_near a b = false) : gs_Good (gs_half2 S k x y).2.2 := by
  unfold gs_half2
  split
  · rename_i a b
    obtain ⟨q1, q2, q3⟩ := hx a b rfl rfl
    split
    · rename_i hok
      exact gs_Good_halfS h hk q1 q2 q3 hok
    · exact h
  · exact h
theorem gs_Good_halve {S : gs_T} (h : gs_Good S) (d : Int32) (up : Bool) : gs_Good (gs_halve S d up).2.2 := by
  unfold gs_halve
  split
  · exact h
  · rename_i h1
    have hd : gs_isd S d = true := by simpa using h1
    obtain ⟨hk, -⟩ := gs_isd_al h.2.1.2 hd
    have hc := (h.2.2.1 _ hk).1
    refine gs_Good_half2 h hk fun a b ha hb => ⟨gm_mv_lt hc ha, gm_mv_lt hc hb, ?_⟩
    cases up with
    | true => exact (gm_half_near _ hc).1 a b ha hb
    | false => exact (gm_half_near _ hc).2 a b ha hb
theorem gs_wk_shift {c c' : Nat} {ms : Nat → Nat} (h : gm_mv c (ms 0) = some c') : ∀ n, gs_wk c ms (n + 1) = gs_wk c' (fun j => ms (j + 1)) n
  | 0 => by rw [gs_wk, gs_wk, gs_wk]; exact h
  | n + 1 => by rw [gs_wk, gs_wk_shift h n]; rfl
section ST
variable {S : gs_T}
theorem gs_s1_u (b : Nat) : gs_u (gs_s1 S) b = gs_u S b := gs_adv_f (gs_tm S (gs_time S + 1)) _ b (Or.inl rfl)
theorem gs_s1_p (b : Nat) : gs_p (gs_s1 S) b = gs_p S b := gs_adv_f (gs_tm S (gs_time S + 1)) _ b (Or.inr (Or.inl rfl))
theorem gs_s1_i (b : Nat) : gs_i (gs_s1 S) b = gs_i S b := gs_adv_f (gs_tm S (gs_time S + 1)) _ b (Or.inr (Or.inr rfl))
theorem gs_s1_made : gs_made (gs_s1 S) = gs_made S := rfl
theorem gs_s1_alive (b : Nat) : gs_alive (gs_s1 S) b ↔ gs_alive S b := by unfold gs_alive; rw [gs_s1_u, gs_s1_made]
theorem gs_s1_rest {b : Nat} (hl : gs_l S b = 0) : gs_c (gs_s1 S) b = gs_c S b ∧ gs_l (gs_s1 S) b = 0 := by
  refine ⟨?_, ?_⟩
  · rw [gs_adv_c]; exact if_neg (fun z => by have := z.2.2; change 0 < gs_l S b at this; omega)
  · rw [gs_adv_l, if_neg (fun z => by have := z.2.2; change 0 < gs_l S b at this; omega)]; exact hl
theorem gs_s1_go {b : Nat} (hb : gs_alive S b) (hl : 0 < gs_l S b) (hw : gv_way S b) : ∃ c', c' < 64 ∧ gm_mv (gs_c S b) (gs_m S b 0) = some c' ∧ gs_c (gs_s1 S) b = c' ∧ gs_l (gs_s1 S) b = gs_l S b - 1 ∧ gs_m (gs_s1 S) b = fun j => gs_m S b (j + 1) := by
  obtain ⟨c', h1, h2⟩ := hw 1 (by omega)
  have h3 : gm_mv (gs_c S b) (gs_m S b 0) = some c' := h2
  have hc : b < gs_made S ∧ 0 < gs_u (gs_tm S (gs_time S + 1)) b ∧ 0 < gs_l (gs_tm S (gs_time S + 1)) b := ⟨hb.1, hb.2, hl⟩
  refine ⟨c', h1, h3, ?_, ?_, funext fun j => ?_⟩
  · rw [gs_adv_c, if_pos hc]
    show (gm_mv (gs_c S b) (gs_m S b 0)).getD 0 = c'
    rw [h3]; rfl
  · rw [gs_adv_l, if_pos hc]; rfl
  · rw [gs_adv_m, if_pos hc]; rfl
theorem gs_s1_pos (hG : gs_Good S) {b : Nat} (hb : gs_alive S b) (n : Nat) : gs_pos (gs_s1 S) b n = gs_pos S b (n + 1) := by
  by_cases hl : 0 < gs_l S b
  · obtain ⟨c', -, h3, h4, h5, h6⟩ := gs_s1_go hb hl (hG.1 b hb).1
    unfold gs_pos
    rw [h4, h5, h6, gs_s1_i]
    by_cases hc : 0 < gs_i S b ∧ gs_l S b ≤ n + 1
    · rw [if_pos hc, if_pos ⟨hc.1, by omega⟩]
    · rw [if_neg hc, if_neg (fun z => hc ⟨z.1, by omega⟩), show min (n + 1) (gs_l S b) = min n (gs_l S b - 1) + 1 by omega, gs_wk_shift h3]
  · have hl0 : gs_l S b = 0 := by omega
    have hi : gs_i S b = 0 := by
      by_cases hi : 0 < gs_i S b
      · have := (hG.into hb hi).2.2.2.2.2.2.1; omega
      · omega
    obtain ⟨q1, q2⟩ := gs_s1_rest hl0
    rw [gs_pos_rest q2 (by rw [gs_s1_i]; exact hi), gs_pos_rest hl0 hi, q1]
theorem gs_s1_Go (hG : gs_Good S) : gs_Go (gs_s1 S) := by
  have hin := fun x hx hi => hG.into (k := x) hx hi
  have hpos := fun (b : Nat) (hb : gs_alive S b) (n : Nat) => gs_s1_pos hG hb n
  obtain ⟨h1, h2, h3, h4, h5, h6, h7, h8⟩ := hG
  have eU : gs_u (gs_s1 S) = gs_u S := funext gs_s1_u
  refine ⟨fun x hx => ?_, by rw [eU]; exact h2, fun x hx => ?_, fun x c n hx hp => ?_, fun a b ha hb hab hia hib n x y hpa hpb => ?_, fun x hx hi => ?_, ?_, h8⟩
  · have hx := (gs_s1_alive x).mp hx
    obtain ⟨w1, w2⟩ := h1 x hx
    by_cases hl : 0 < gs_l S x
    · obtain ⟨c', q1, q3, q4, q5, q6⟩ := gs_s1_go hx hl w1
      refine ⟨fun j hj => ?_, by rw [q5]; omega⟩
      rw [q5] at hj
      rw [q4, q6, ← gs_wk_shift q3]
      exact w1 (j + 1) (by omega)
    · obtain ⟨q1, q2⟩ := gs_s1_rest (show gs_l S x = 0 by omega)
      refine ⟨fun j hj => ?_, by rw [q2]; omega⟩
      rw [q2] at hj
      rw [q1, show j = 0 by omega]
      exact ⟨gs_c S x, (h3 x hx).1, rfl⟩
  · have hx := (gs_s1_alive x).mp hx
    have := h3 x hx
    rw [eU, gs_s1_made, gs_s1_p]
    refine ⟨?_, this.2⟩
    by_cases hl : 0 < gs_l S x
    · obtain ⟨c', q1, -, q4, -⟩ := gs_s1_go hx hl (h1 x hx).1
      rw [q4]; exact q1
    · rw [(gs_s1_rest (show gs_l S x = 0 by omega)).1]; exact this.1
  · have hx := (gs_s1_alive x).mp hx
    rw [hpos x hx] at hp
    exact h4 x c (n + 1) hx hp
  · have ha := (gs_s1_alive a).mp ha
    have hb := (gs_s1_alive b).mp hb
    rw [hpos a ha] at hpa
    rw [hpos b hb] at hpb
    rw [gs_s1_i] at hia hib
    exact h5 a b ha hb hab hia hib (n + 1) x y hpa hpb
  · have hx := (gs_s1_alive x).mp hx
    rw [gs_s1_i] at hi ⊢
    obtain ⟨a1, a2, a3, a4, a5, a6, a7, a8⟩ := hin x hx hi
    refine ⟨(gs_s1_alive _).mpr a1, a2, by rw [gs_s1_i]; exact a3, (gs_s1_rest a4).2, by rw [gs_s1_u]; exact a5, by rw [gs_s1_u]; exact a6, fun k' hk' he => ?_⟩
    rw [gs_s1_i] at he
    exact a8 k' ((gs_s1_alive k').mp hk') he
  · rw [eU]; exact h7
/-! one goes into another -/
theorem gs_Go.into (h : gs_Go S) {k : Nat} (hk : gs_alive S k) (hi : 0 < gs_i S k) : gs_alive S (gs_i S k - 1) ∧ gs_i S k - 1 ≠ k ∧ gs_i S (gs_i S k - 1) = 0 ∧ gs_l S (gs_i S k - 1) = 0 ∧ gs_u S k = 1 ∧ gs_u S (gs_i S k - 1) = 1 ∧ ∀ k', gs_alive S k' → gs_i S k' = gs_i S k → k' = k := h.2.2.2.2.2.1 k hk hi
theorem gs_unS_f {k e a b : Nat} : (gs_unS S k e).2.1 a b = if a = 0 ∧ b = k then 0 else if a = 0 ∧ b = e then 2 else if a = 4 ∧ b = k then 0 else if a = 2 ∧ b = e then (gs_unP S k e).1 else S.2.1 a b := rfl
theorem gs_unS_Go (h : gs_Go S) {k e : Nat} (hk : gs_alive S k) (hi : gs_i S k = e + 1) : gs_Go (gs_unS S k e) := by
  obtain ⟨z1, z2, z3, z4, z5, z6, z7⟩ := h.into hk (by omega)
  rw [show gs_i S k - 1 = e by omega] at z1 z2 z3 z4 z6
  obtain ⟨h1, h2, h3, h4, h5, h6, h7, h8⟩ := h
  have uk : gs_u (gs_unS S k e) k = 0 := by rw [gs_u, gs_unS_f, if_pos ⟨rfl, rfl⟩]
  have ue : gs_u (gs_unS S k e) e = 2 := by rw [gs_u, gs_unS_f, if_neg (fun z => z2 z.2), if_pos ⟨rfl, rfl⟩]
  have hf : ∀ a b, b ≠ k → (a ≠ 0 ∧ a ≠ 2 ∨ b ≠ e) → (gs_unS S k e).2.1 a b = S.2.1 a b := fun a b hb hae => by
    rw [gs_unS_f, if_neg (fun z => hb z.2), if_neg (fun z => by omega), if_neg (fun z => hb z.2), if_neg (fun z => by omega)]
  have hal : ∀ x, gs_alive (gs_unS S k e) x ↔ gs_alive S x ∧ x ≠ k := fun x => by
    by_cases e1 : x = k
    · subst e1; exact ⟨fun z => by have := z.2; rw [uk] at this; omega, fun z => absurd rfl z.2⟩
    · by_cases e2 : x = e
      · subst e2; exact ⟨fun _ => ⟨z1, e1⟩, fun _ => ⟨z1.1, by rw [ue]; omega⟩⟩
      · unfold gs_alive
        rw [show gs_u (gs_unS S k e) x = gs_u S x from hf 0 x e1 (Or.inr e2)]
        exact ⟨fun z => ⟨z, e1⟩, fun z => z.1⟩
  have hm : ∀ x, x ≠ k → gs_m (gs_unS S k e) x = gs_m S x := fun x hx => funext fun j => hf (5 + j) x hx (Or.inl ⟨by omega, by omega⟩)
  have hL : ∀ x, x ≠ k → gs_l (gs_unS S k e) x = gs_l S x := fun x hx => hf 3 x hx (Or.inl ⟨by omega, by omega⟩)
  have hI : ∀ x, x ≠ k → gs_i (gs_unS S k e) x = gs_i S x := fun x hx => hf 4 x hx (Or.inl ⟨by omega, by omega⟩)
  have hc : ∀ x, x ≠ k → gs_c (gs_unS S k e) x = gs_c S x := fun x hx => hf 1 x hx (Or.inl ⟨by omega, by omega⟩)
  have hpos : ∀ x n, x ≠ k → gs_pos (gs_unS S k e) x n = gs_pos S x n := fun x n hx => by
    unfold gs_pos
    rw [hm x hx, hL x hx, hI x hx, hc x hx]
  have hcn : gs_cnt (gs_u (gs_unS S k e)) (gs_made S) + 1 = gs_cnt (gs_u S) (gs_made S) := by
    have q1 := gs_cnt_upd (U := gs_u S) (U' := fun x => if x = k then 0 else gs_u S x) hk.1 (fun x _ hx => if_neg hx)
    have q2 := gs_cnt_upd (U := fun x => if x = k then 0 else gs_u S x) (U' := gs_u (gs_unS S k e)) z1.1 (fun x _ hx => by
      by_cases e1 : x = k
      · subst e1; rw [uk, if_pos rfl]
      · rw [if_neg e1]; exact hf 0 x e1 (Or.inr hx))
    rw [ue, if_neg z2, z6] at q2
    rw [if_pos rfl, z5] at q1
    simp only [Nat.lt_irrefl, if_false, Nat.zero_lt_one, if_true, Nat.zero_lt_two] at q1 q2
    omega
  have hsm : gs_sum (gs_u (gs_unS S k e)) (gs_made S) = gs_sum (gs_u S) (gs_made S) := by
    have q1 := gs_sum_upd (U := gs_u S) (U' := fun x => if x = k then 0 else gs_u S x) hk.1 (fun x _ hx => if_neg hx)
    have q2 := gs_sum_upd (U := fun x => if x = k then 0 else gs_u S x) (U' := gs_u (gs_unS S k e)) z1.1 (fun x _ hx => by
      by_cases e1 : x = k
      · subst e1; rw [uk, if_pos rfl]
      · rw [if_neg e1]; exact hf 0 x e1 (Or.inr hx))
    rw [ue, if_neg z2, z6] at q2
    rw [if_pos rfl, z5] at q1
    omega
  have em : gs_made (gs_unS S k e) = gs_made S := rfl
  refine ⟨fun x hx => ?_, ⟨by rw [em]; omega, h2.2⟩, fun x hx => ?_, fun x c n hx hp => ?_, fun a b ha hb hab hia hib n x y hpa hpb => ?_, fun x hx hix => ?_, ?_, h8⟩
  · obtain ⟨q1, q2⟩ := (hal x).mp hx
    obtain ⟨w1, w2⟩ := h1 x q1
    unfold gv_way
    rw [hL x q2, hc x q2, hm x q2]
    exact ⟨w1, w2⟩
  · obtain ⟨q1, q2⟩ := (hal x).mp hx
    have := h3 x q1
    rw [em, hc x q2]
    by_cases e2 : x = e
    · subst e2
      have hk3 := h3 k hk
      have hle : gs_p (gs_unS S k x) x ≤ max (gs_p S k) (gs_p S x) + 1 := by
        rw [gs_p, gs_unS_f, if_neg (fun z => by omega), if_neg (fun z => by omega), if_neg (fun z => by omega), if_pos ⟨rfl, rfl⟩]
        exact gs_nrm_le _ _
      rw [ue]
      omega
    · rw [show gs_u (gs_unS S k e) x = gs_u S x from hf 0 x q2 (Or.inr e2), show gs_p (gs_unS S k e) x = gs_p S x from hf 2 x q2 (Or.inr e2)]
      omega
  · obtain ⟨q1, q2⟩ := (hal x).mp hx
    rw [hpos x n q2] at hp
    exact h4 x c n q1 hp
  · obtain ⟨a1, a2⟩ := (hal a).mp ha
    obtain ⟨b1, b2⟩ := (hal b).mp hb
    rw [hpos a n a2] at hpa
    rw [hpos b n b2] at hpb
    rw [hI a a2] at hia
    rw [hI b b2] at hib
    exact h5 a b a1 b1 hab hia hib n x y hpa hpb
  · obtain ⟨q1, q2⟩ := (hal x).mp hx
    rw [hI x q2] at hix ⊢
    obtain ⟨a1, a2, a3, a4, a5, a6, a8⟩ := h6 x q1 hix
    have e1 : gs_i S x - 1 ≠ k := fun z => by rw [z] at a3; omega
    have e2 : gs_i S x - 1 ≠ e := fun z => q2 (z7 x q1 (by omega))
    have e3 : x ≠ e := fun z => by subst z; omega
    refine ⟨(hal _).mpr ⟨a1, e1⟩, a2, by rw [hI _ e1]; exact a3, by rw [hL _ e1]; exact a4, by rw [show gs_u (gs_unS S k e) x = gs_u S x from hf 0 x q2 (Or.inr e3)]; exact a5, by rw [show gs_u (gs_unS S k e) _ = gs_u S _ from hf 0 _ e1 (Or.inr e2)]; exact a6, fun k' hk' he => ?_⟩
    obtain ⟨c1, c2⟩ := (hal k').mp hk'
    rw [hI k' c2] at he
    exact a8 k' c1 he
  · rw [em, hsm]; exact h7
theorem gs_un2_Go (h : gs_Go S) : ∀ n, n ≤ gs_made S → gs_Go (gs_un2 S n) ∧ ∀ b, b < n → gs_alive (gs_un2 S n) b → 0 < gs_i (gs_un2 S n) b → 0 < gs_l (gs_un2 S n) b
  | 0, _ => ⟨h, fun b hb => by omega⟩
  | n + 1, hn => by
    obtain ⟨g1, g2⟩ := gs_un2_Go h n (by omega)
    have em : gs_made (gs_un2 S n) = gs_made S := by show (gs_un2 S n).2.2.2.1 0 = _; rw [(gs_un2_same S n).2.1]
    rw [gs_un2]
    split
    · rename_i hc
      obtain ⟨c1, c2, c3⟩ := hc
      have hal : gs_alive (gs_un2 S n) n := ⟨by rw [em]; omega, c1⟩
      obtain ⟨e, he⟩ : ∃ e, gs_i (gs_un2 S n) n = e + 1 := ⟨gs_i (gs_un2 S n) n - 1, by omega⟩
      rw [he, show e + 1 - 1 = e by omega]
      refine ⟨gs_unS_Go g1 hal he, fun b hb hb2 hb3 => ?_⟩
      have hbn : b ≠ n := fun z => by
        subst z
        have := hb2.2
        rw [gs_u, gs_unS_f, if_pos ⟨rfl, rfl⟩] at this
        omega
      have hI : gs_i (gs_unS (gs_un2 S n) n e) b = gs_i (gs_un2 S n) b := by rw [gs_i, gs_unS_f, if_neg (fun z => by omega), if_neg (fun z => by omega), if_neg (fun z => hbn z.2), if_neg (fun z => by omega)]
      rw [hI] at hb3
      have hu : gs_alive (gs_un2 S n) b := by
        refine ⟨hb2.1, ?_⟩
        by_cases e2 : b = e
        · have := g1.into hal (by omega)
          rw [show gs_i (gs_un2 S n) n - 1 = e by omega] at this
          rw [e2, this.2.2.2.2.2.1]; omega
        · have := hb2.2
          rw [gs_u, gs_unS_f, if_neg (fun z => hbn z.2), if_neg (fun z => e2 z.2), if_neg (fun z => by omega), if_neg (fun z => by omega)] at this
          exact this
      exact g2 b (by omega) hu hb3
    · rename_i hc
      refine ⟨g1, fun b hb hb2 hb3 => ?_⟩
      by_cases e : b = n
      · subst e
        by_cases hl : gs_l (gs_un2 S b) b = 0
        · exact absurd ⟨hb2.2, hb3, hl⟩ hc
        · omega
      · exact g2 b (by omega) hb2 hb3
theorem gs_Good_step (h : gs_Good S) : gs_Good (gs_step S) := by
  obtain ⟨g1, g2⟩ := gs_un2_Go (gs_s1_Go h) (gs_made S) (Nat.le_refl _)
  have em : gs_made (gs_s2 S) = gs_made S := by show (gs_un2 (gs_s1 S) (gs_made S)).2.2.2.1 0 = _; rw [(gs_un2_same (gs_s1 S) _).2.1]; rfl
  exact gs_Go.good (S := gs_s2 S) g1 (fun k hk hi => g2 k (by rw [← em]; exact hk.1) hk hi)
theorem gs_Good_okS (h : gs_Good S) : gs_okS S := by
  refine ⟨fun k hk => (h.1 k hk).1, fun k hk hu hi hl => ?_⟩
  obtain ⟨g1, -⟩ := gs_un2_Go (gs_s1_Go h) k (Nat.le_of_lt hk)
  have em : gs_made (gs_un2 (gs_s1 S) k) = gs_made S := by show (gs_un2 (gs_s1 S) k).2.2.2.1 0 = _; rw [(gs_un2_same (gs_s1 S) _).2.1]; rfl
  have hk' : k < gs_made S := hk
  have hal : gs_alive (gs_un2 (gs_s1 S) k) k := ⟨by rw [em]; exact hk', hu⟩
  obtain ⟨a1, a2, a3, a4, a5, a6, -⟩ := g1.into hal hi
  have h2 := g1.2.1
  have b1 := g1.2.2.1 k hal
  have b2 := g1.2.2.1 _ a1
  have c2 := gs_cnt_two hal.1 a1.1 (fun z => a2 z.symm) hal.2 a1.2
  have := a1.1
  refine ⟨by omega, a2, by omega, by omega⟩
theorem gs_Good_it (h : gs_Good S) : ∀ n, gs_Good (gs_it S n)
  | 0 => h
  | n + 1 => gs_Good_step (gs_Good_it h n)
theorem gs_Good_run (h : gs_Good S) (n : Int32) : gs_Good (gs_run S n).2.2 := by
  unfold gs_run
  split
  · exact h
  · exact gs_Good_it h _
theorem gs_Good_thr (h : gs_Good S) : ∀ d, d < gs_made S → gs_thr S + gs_u S d ≤ 60 := by
  intro d hd
  have h1 := gs_sum_upd (U := gs_u S) (U' := fun x => if x = d then 0 else gs_u S x) hd (fun x _ hx => if_neg hx)
  rw [if_pos rfl] at h1
  have := h.2.2.2.2.2.2
  have := h.2.1.2
  omega
end ST
/-! All that have come go into those that await them: in closed form, for a set of those that were dealt with. -/
/-- k has come, and has been dealt with -/
def gs_unB (S : gs_T) (P : Nat → Bool) (k : Nat) : Bool := P k && decide (k < gs_made S ∧ 0 < gs_u S k ∧ 0 < gs_i S k ∧ gs_l S k = 0)
/-- the one that has gone into d, if it has been dealt with -/
def gs_unK (S : gs_T) (P : Nat → Bool) (d : Nat) : Option Nat := match gs_aw S d with
  | some k => if gs_unB S P k then some k else none
  | none => none
def gs_unC (S : gs_T) (P : Nat → Bool) : gs_T := (S.1, fun a b => if gs_unB S P b then (if a = 0 ∨ a = 4 then 0 else S.2.1 a b) else match gs_unK S P b with
  | some k => if a = 0 then 2 else if a = 2 then (gs_unP S k b).1 else S.2.1 a b
  | none => S.2.1 a b, fun a b => match gs_unK S P a with
  | some k => if b < 4 then (gs_unP S k a).2 b else S.2.2.1 a b
  | none => S.2.2.1 a b, S.2.2.2)
section UC
variable {S : gs_T} {P Q : Nat → Bool}
theorem gs_unB_iff {k : Nat} : gs_unB S P k = true ↔ P k = true ∧ gs_alive S k ∧ 0 < gs_i S k ∧ gs_l S k = 0 := by
  unfold gs_unB gs_alive
  rw [Bool.and_eq_true, decide_eq_true_iff]
  exact ⟨fun h => ⟨h.1, ⟨h.2.1, h.2.2.1⟩, h.2.2.2⟩, fun h => ⟨h.1, h.2.1.1, h.2.1.2, h.2.2⟩⟩
theorem gs_Go.aw (h : gs_Go S) {k : Nat} (hk : gs_alive S k) {e : Nat} (hi : gs_i S k = e + 1) : gs_aw S e = some k := by
  cases ha : gs_aw S e with
  | none => exact absurd hi (gs_aw_none.mp ha k hk)
  | some k' =>
    obtain ⟨q1, q2⟩ := gs_aw_some ha
    rw [(h.into hk (by omega)).2.2.2.2.2.2 k' q1 (by omega)]
theorem gs_Go.aw_i (h : gs_Go S) {e : Nat} (hi : 0 < gs_i S e) : gs_aw S e = none := by
  cases ha : gs_aw S e with
  | none => rfl
  | some k' =>
    obtain ⟨q1, q2⟩ := gs_aw_some ha
    have := (h.into q1 (by omega)).2.2.1
    rw [show gs_i S k' - 1 = e by omega] at this
    omega
theorem gs_unK_some {d k : Nat} (h : gs_unK S P d = some k) : gs_aw S d = some k ∧ gs_unB S P k = true := by
  unfold gs_unK at h
  split at h
  · rename_i k' ha
    split at h
    · cases h; rename_i hb; exact ⟨ha, hb⟩
    · cases h
  · cases h
theorem gs_unK_of {d k : Nat} (h : gs_aw S d = some k) (hb : gs_unB S P k = true) : gs_unK S P d = some k := by
  unfold gs_unK
  rw [h]
  exact if_pos hb
theorem gs_unK_no {d k : Nat} (h : gs_aw S d = some k) (hb : gs_unB S P k = false) : gs_unK S P d = none := by
  unfold gs_unK
  rw [h]
  exact if_neg (by rw [hb]; decide)
theorem gs_unK_none {d : Nat} (h : gs_aw S d = none) : gs_unK S P d = none := by
  unfold gs_unK
  rw [h]
theorem gs_unC_f {a b : Nat} : (gs_unC S P).2.1 a b = if gs_unB S P b then (if a = 0 ∨ a = 4 then 0 else S.2.1 a b) else match gs_unK S P b with
  | some k => if a = 0 then 2 else if a = 2 then (gs_unP S k b).1 else S.2.1 a b
  | none => S.2.1 a b := rfl
theorem gs_unC_s {a b : Nat} : (gs_unC S P).2.2.1 a b = match gs_unK S P a with
  | some k => if b < 4 then (gs_unP S k a).2 b else S.2.2.1 a b
  | none => S.2.2.1 a b := rfl
/-- what was not dealt with is as it was -/
theorem gs_unC_at {d : Nat} (h1 : gs_unB S P d = false) (h2 : gs_unK S P d = none) : gs_at S (gs_unC S P) d :=
  ⟨fun f => by rw [gs_unC_f, h1, h2]; rfl, fun j _ => by rw [gs_unC_s, h2]⟩
theorem gs_unC_congr (h : ∀ k, gs_unB S P k = gs_unB S Q k) : gs_unC S P = gs_unC S Q := by
  have hK : ∀ d, gs_unK S P d = gs_unK S Q d := fun d => by unfold gs_unK; simp only [h]
  unfold gs_unC
  simp only [h, hK]
theorem gs_unC_none (h : ∀ k, gs_unB S P k = false) : gs_unC S P = S := by
  have hK : ∀ d, gs_unK S P d = none := fun d => by
    cases hh : gs_unK S P d with
    | none => rfl
    | some k => have := (gs_unK_some hh).2; rw [h k] at this; cases this
  unfold gs_unC
  simp only [h, hK]
  rfl
/-- one more -/
theorem gs_unC_step (hG : gs_Go S) {k e : Nat} (hk : gs_alive S k) (hi : gs_i S k = e + 1) (hl : gs_l S k = 0) (hP : P k = false) (hQ : ∀ x, Q x = (P x || decide (x = k))) : gs_unS (gs_unC S P) k e = gs_unC S Q := by
  obtain ⟨z1, z2, z3, z4, z5, z6, z7⟩ := hG.into hk (by omega)
  rw [show gs_i S k - 1 = e by omega] at z1 z2 z3 z4 z6
  have hae := hG.aw hk hi
  have hak := hG.aw_i (e := k) (by omega)
  have Bk : gs_unB S P k = false := by unfold gs_unB; rw [hP]; rfl
  have Be : gs_unB S P e = false := by
    cases hh : gs_unB S P e with
    | false => rfl
    | true => have := (gs_unB_iff.mp hh).2.2.1; omega
  have Ke : gs_unK S P e = none := gs_unK_no hae Bk
  have Kk : gs_unK S P k = none := gs_unK_none hak
  have ak := gs_unC_at Bk Kk
  have ae := gs_unC_at Be Ke
  have QB : ∀ x, gs_unB S Q x = (gs_unB S P x || decide (x = k)) := fun x => by
    by_cases ex : x = k
    · subst ex
      rw [Bk, decide_eq_true rfl]
      exact gs_unB_iff.mpr ⟨by rw [hQ, decide_eq_true rfl, Bool.or_true], hk, by omega, hl⟩
    · rw [decide_eq_false ex, Bool.or_false]
      unfold gs_unB
      rw [hQ, decide_eq_false ex, Bool.or_false]
  have QK : ∀ x, x ≠ e → gs_unK S Q x = gs_unK S P x := fun x hx => by
    cases ha : gs_aw S x with
    | none => rw [gs_unK_none ha, gs_unK_none ha]
    | some k' =>
      have hne : k' ≠ k := fun z => by
        subst z
        have := (gs_aw_some ha).2
        omega
      unfold gs_unK
      rw [ha]
      simp only [QB, decide_eq_false hne, Bool.or_false]
  have QKe : gs_unK S Q e = some k := gs_unK_of hae (by rw [QB, decide_eq_true rfl, Bool.or_true])
  have hPP : gs_unP (gs_unC S P) k e = gs_unP S k e := by
    unfold gs_unP
    rw [show gs_p (gs_unC S P) k = gs_p S k from ak.1 2, show gs_p (gs_unC S P) e = gs_p S e from ae.1 2]
    have s1 : gs_sh (gs_unC S P) k = gs_sh S k := funext fun j => by rw [gs_sh, gs_unC_s, Kk]
    have s2 : gs_sh (gs_unC S P) e = gs_sh S e := funext fun j => by rw [gs_sh, gs_unC_s, Ke]
    rw [s1, s2]
  have r1 : ∀ a b, (gs_unS (gs_unC S P) k e).2.1 a b = (gs_unC S Q).2.1 a b := fun a b => by
    rw [gs_unS_f, hPP]
    by_cases ek : b = k
    · subst ek
      rw [gs_unC_f (P := Q), QB, decide_eq_true rfl, Bool.or_true, if_pos rfl, ak.1 a]
      by_cases a0 : a = 0
      · rw [if_pos ⟨a0, rfl⟩, if_pos (Or.inl a0)]
      · by_cases a4 : a = 4
        · rw [if_neg (fun z => a0 z.1), if_neg (fun z => a0 z.1), if_pos ⟨a4, rfl⟩, if_pos (Or.inr a4)]
        · rw [if_neg (fun z => a0 z.1), if_neg (fun z => a0 z.1), if_neg (fun z => a4 z.1), if_neg (fun z => z2 z.2.symm), if_neg (by omega)]
    · rw [if_neg (fun z => ek z.2)]
      by_cases ee : b = e
      · subst ee
        rw [gs_unC_f (P := Q), QB, Be, decide_eq_false ek, QKe, ae.1 a]
        by_cases a0 : a = 0
        · rw [if_pos ⟨a0, rfl⟩]; simp [a0]
        · rw [if_neg (fun z => a0 z.1), if_neg (fun z => ek z.2)]
          simp [a0]
      · rw [if_neg (fun z => ee z.2), if_neg (fun z => ek z.2), if_neg (fun z => ee z.2), gs_unC_f, gs_unC_f, QB, decide_eq_false ek, Bool.or_false, QK b ee]
  have r2 : ∀ a b, (gs_unS (gs_unC S P) k e).2.2.1 a b = (gs_unC S Q).2.2.1 a b := fun a b => by
    show (if a = e ∧ b < 4 then (gs_unP (gs_unC S P) k e).2 b else (gs_unC S P).2.2.1 a b) = _
    rw [hPP]
    by_cases ee : a = e
    · subst ee
      rw [gs_unC_s (P := Q), QKe, gs_unC_s, Ke]
      by_cases b4 : b < 4
      · rw [if_pos ⟨rfl, b4⟩]; simp [b4]
      · rw [if_neg (fun z => b4 z.2)]; simp [b4]
    · rw [if_neg (fun z => ee z.1), gs_unC_s, gs_unC_s, QK a ee]
  have e1 : (gs_unS (gs_unC S P) k e).2.1 = (gs_unC S Q).2.1 := funext fun a => funext fun b => r1 a b
  have e2 : (gs_unS (gs_unC S P) k e).2.2.1 = (gs_unC S Q).2.2.1 := funext fun a => funext fun b => r2 a b
  show ((gs_unS (gs_unC S P) k e).1, (gs_unS (gs_unC S P) k e).2.1, (gs_unS (gs_unC S P) k e).2.2.1, (gs_unS (gs_unC S P) k e).2.2.2) = _
  rw [e1, e2]
  rfl
theorem gs_un2_C (hG : gs_Go S) : ∀ n, n ≤ gs_made S → gs_un2 S n = gs_unC S (fun x => decide (x < n))
  | 0, _ => by
    rw [gs_un2, gs_unC_none]
    intro k
    unfold gs_unB
    rfl
  | n + 1, hn => by
    rw [gs_un2, gs_un2_C hG n (by omega)]
    have hBn : gs_unB S (fun x => decide (x < n)) n = false := by
      unfold gs_unB
      rw [show (fun x => decide (x < n)) n = false from decide_eq_false (Nat.lt_irrefl n)]
      rfl
    have hL : gs_l (gs_unC S (fun x => decide (x < n))) n = gs_l S n := by
      rw [gs_l, gs_unC_f, hBn]
      split
      · rename_i h; cases h
      · split <;> rfl
    have hI : gs_i (gs_unC S (fun x => decide (x < n))) n = gs_i S n := by
      rw [gs_i, gs_unC_f, hBn]
      split
      · rename_i h; cases h
      · split <;> rfl
    rw [hL, hI]
    by_cases hc : 0 < gs_u S n ∧ 0 < gs_i S n ∧ gs_l S n = 0
    · obtain ⟨e, he⟩ : ∃ e, gs_i S n = e + 1 := ⟨gs_i S n - 1, by omega⟩
      have hU : gs_u (gs_unC S (fun x => decide (x < n))) n = gs_u S n := (gs_unC_at hBn (gs_unK_none (hG.aw_i hc.2.1))).1 0
      rw [hU, if_pos hc, he, show e + 1 - 1 = e by omega]
      refine gs_unC_step hG ⟨by omega, hc.1⟩ he hc.2.2 (decide_eq_false (Nat.lt_irrefl n)) (fun x => ?_)
      rw [Bool.eq_iff_iff]
      simp only [Bool.or_eq_true, decide_eq_true_eq]
      omega
    · rw [if_neg]
      · refine gs_unC_congr fun k => ?_
        unfold gs_unB
        by_cases e : k = n
        · subst e
          rw [decide_eq_false (show ¬ (k < gs_made S ∧ 0 < gs_u S k ∧ 0 < gs_i S k ∧ gs_l S k = 0) from fun z => hc z.2), Bool.and_false, Bool.and_false]
        · rw [Bool.eq_iff_iff]
          simp only [Bool.and_eq_true, decide_eq_true_eq]
          constructor
          · rintro ⟨q1, q2⟩; exact ⟨by omega, q2⟩
          · rintro ⟨q1, q2⟩; exact ⟨by omega, q2⟩
      · rintro ⟨q1, q2, q3⟩
        have hU : gs_u (gs_unC S (fun x => decide (x < n))) n = gs_u S n := (gs_unC_at hBn (gs_unK_none (hG.aw_i q2))).1 0
        rw [hU] at q1
        exact hc ⟨q1, q2, q3⟩
theorem gs_un2_all (hG : gs_Go S) : gs_un2 S (gs_made S) = gs_unC S (fun _ => true) := by
  rw [gs_un2_C hG _ (Nat.le_refl _)]
  refine gs_unC_congr fun k => ?_
  unfold gs_unB
  rw [Bool.eq_iff_iff]
  simp only [Bool.and_eq_true, decide_eq_true_eq]
  exact ⟨fun h => ⟨trivial, h.2⟩, fun h => ⟨h.2.1, h.2⟩⟩
end UC
