/-! The list of droplets, as droplets come and go. -/
/-- both states say the same of droplet d -/
def gs_at (S S' : gs_T) (d : Nat) : Prop := (∀ f, S'.2.1 f d = S.2.1 f d) ∧ ∀ k, k < 4 → S'.2.2.1 d k = S.2.2.1 d k
theorem gs_at.refl (S : gs_T) (d : Nat) : gs_at S S d := ⟨fun _ => rfl, fun _ _ => rfl⟩
theorem gs_at.trans {a b c : gs_T} {d : Nat} (h : gs_at a b d) (k : gs_at b c d) : gs_at a c d := ⟨fun f => (k.1 f).trans (h.1 f), fun j hj => (k.2 j hj).trans (h.2 j hj)⟩
theorem gs_at.symm {a b : gs_T} {d : Nat} (h : gs_at a b d) : gs_at b a d := ⟨fun f => (h.1 f).symm, fun j hj => (h.2 j hj).symm⟩
theorem gr_E.s {w : gd_W} {S S' : gs_T} {A A' : Nat → Option Nat} {q d E : Nat} (h : gr_E w S A q d E) (ha : gs_at S S' d) (hA : A' d = A d) : gr_E w S' A' q d E := by
  obtain ⟨h1, h2, h3, h4, h5, h6, h7, h8, h9, h10⟩ := h
  have e : ∀ f, S'.2.1 f d = S.2.1 f d := ha.1
  refine ⟨h1, ?_, ?_, ?_, ?_, h6, ?_, ?_, ?_, ?_⟩
  · show w.1 (4 + 3 * q) 3 = nI (S'.2.1 1 d) ∧ S'.2.1 1 d < 64; rw [e]; exact h2
  · show w.1 (4 + 3 * q) 4 = nI (S'.2.1 0 d) ∧ S'.2.1 0 d ≤ 2; rw [e]; exact h3
  · show w.1 (4 + 3 * q) 5 = nI (S'.2.1 2 d) ∧ S'.2.1 2 d ≤ 60; rw [e]; exact h4
  · show w.1 (4 + 3 * q) 6 = nI (E + S'.2.1 3 d) ∧ E + S'.2.1 3 d ≤ 60; rw [e]; exact h5
  · show w.1 (4 + 3 * q) 8 = gs_pr (S'.2.1 4 d) ∧ S'.2.1 4 d ≤ 60; rw [e]; exact h7
  · rw [hA]; exact h8
  · show ∀ k, k < S'.2.1 3 d → w.1 (5 + 3 * q) (E + k) = nI (S'.2.1 (5 + k) d) ∧ S'.2.1 (5 + k) d < 5
    intro k hk
    rw [e] at hk ⊢
    exact h9 k hk
  · intro k hk
    show _ = S'.2.2.1 d k
    rw [ha.2 k hk]
    exact h10 k hk
theorem gc_L.s {w : gd_W} {S S' : gs_T} {A A' : Nat → Option Nat} {l : List Nat} {o : Nat → Nat} (h : gc_L w S A l o) (ha : ∀ d, d ∈ l → gs_at S S' d ∧ A' d = A d) : gc_L w S' A' l o :=
  ⟨h.1, h.2.1, h.2.2.1, fun i d hi => (h.2.2.2 i d hi).elim fun E hE => ⟨E, hE.s (ha d (List.mem_of_getElem? hi)).1 (ha d (List.mem_of_getElem? hi)).2⟩⟩
/-- the others' objects are not touched -/
theorem gc_L.off {w : gd_W} {S : gs_T} {A : Nat → Option Nat} {l : List Nat} {o : Nat → Nat} (h : gc_L w S A l o) {i j : Nat} (hi : i < 6) (hj : j < 6) (hne : i ≠ j) : o i ≠ o j := fun e => hne (h.2.2.1 i j hi hj e)
/-- one more droplet, in the first object that waits -/
theorem gc_L.push {w w' : gd_W} {S S' : gs_T} {A A' : Nat → Option Nat} {l : List Nat} {o : Nat → Nat} (h : gc_L w S A l o) (h6 : l.length < 6) {n E : Nat} (hn : gr_E w' S' A' (o l.length) n E) (hs : ∀ d, d ∈ l → gs_at S S' d ∧ A' d = A d)
    (h1 : ∀ a, a ≠ 4 + 3 * o l.length → 3 < a → a < 22 → w'.1 a = w.1 a) (h2 : ∀ a, a ≠ 6 + 3 * o l.length → 3 < a → a < 22 → w'.2.1 a = w.2.1 a) (h3 : w'.2.2 3 = w.2.2 3) (hc : w'.1 2 1 = nI (l.length + 1)) : gc_L w' S' A' (l ++ [n]) o := by
  refine ⟨⟨by rw [hc, List.length_append]; rfl, by rw [List.length_append]; simp only [List.length_singleton]; omega⟩, by rw [h3]; exact h.2.1, h.2.2.1, fun i d hi => ?_⟩
  by_cases hl : i < l.length
  · rw [List.getElem?_append_left hl] at hi
    obtain ⟨E0, hE⟩ := h.2.2.2 i d hi
    have hne := h.off (show i < 6 by omega) h6 (show i ≠ l.length by omega)
    have ho := (h.2.1 i (by omega)).2
    exact ⟨E0, (hE.s (hs d (List.mem_of_getElem? hi)).1 (hs d (List.mem_of_getElem? hi)).2).m (h1 _ (by omega) (by omega) (by omega)) (h1 _ (by omega) (by omega) (by omega)) (h2 _ (by omega) (by omega) (by omega))⟩
  · rw [List.getElem?_append_right (by omega)] at hi
    have hz : i - l.length < 1 := (List.getElem?_eq_some_iff.mp hi).1
    have hi2 : i = l.length := by omega
    subst hi2
    rw [Nat.sub_self] at hi
    cases hi
    exact ⟨E, hn⟩
theorem gc_rot_lt {o : Nat → Nat} {j0 n : Nat} (hn : n ≤ 6) (hj : j0 < n) (h : ∀ i, i < 6 → o i < 6) {i : Nat} (hi : i < 6) : gc_rot o j0 n i < 6 := by
  unfold gc_rot
  split
  · exact h i hi
  · split
    · exact h _ (by omega)
    · split
      · exact h _ (by omega)
      · exact h i hi
theorem gc_rot_inj {o : Nat → Nat} {j0 n : Nat} (hn : n ≤ 6) (hj : j0 < n) (h : ∀ i j, i < 6 → j < 6 → o i = o j → i = j) {i j : Nat} (hi : i < 6) (hj6 : j < 6) (he : gc_rot o j0 n i = gc_rot o j0 n j) : i = j := by
  have key : ∀ i, i < 6 → ∃ k, k < 6 ∧ gc_rot o j0 n i = o k ∧ k = if i < j0 then i else if i + 1 < n then i + 1 else if i + 1 = n then j0 else i := by
    intro i hi
    unfold gc_rot
    by_cases e1 : i < j0
    · exact ⟨i, hi, by rw [if_pos e1], by rw [if_pos e1]⟩
    · by_cases e2 : i + 1 < n
      · exact ⟨i + 1, by omega, by rw [if_neg e1, if_pos e2], by rw [if_neg e1, if_pos e2]⟩
      · by_cases e3 : i + 1 = n
        · exact ⟨j0, by omega, by rw [if_neg e1, if_neg e2, if_pos e3], by rw [if_neg e1, if_neg e2, if_pos e3]⟩
        · exact ⟨i, hi, by rw [if_neg e1, if_neg e2, if_neg e3], by rw [if_neg e1, if_neg e2, if_neg e3]⟩
  obtain ⟨k1, a1, a2, a3⟩ := key i hi
  obtain ⟨k2, b1, b2, b3⟩ := key j hj6
  rw [a2, b2] at he
  have := h k1 k2 a1 b1 he
  subst this
  rw [a3] at b3
  revert b3
  repeat' split
  all_goals (intro b3; omega)
/-- a droplet goes -/
theorem gc_L.del {w w' : gd_W} {S : gs_T} {A : Nat → Option Nat} {l : List Nat} {o : Nat → Nat} (h : gc_L w S A l o) {j0 : Nat} (hj : j0 < l.length) (h1 : w'.1 = (gd_rI w 2 (upd (w.1 2) 1 (nI (l.length - 1)))).1) (h2 : w'.2.1 = w.2.1) (h3 : ∀ i, i < 6 → w'.2.2 3 i = some (4 + 3 * gc_rot o j0 l.length i)) : gc_L w' S A (l.eraseIdx j0) (gc_rot o j0 l.length) := by
  have h6 := h.1.2
  have hlen : (l.eraseIdx j0).length = l.length - 1 := by rw [List.length_eraseIdx, if_pos hj]
  refine ⟨⟨by rw [h1, gd_rI_s, gd_u_s, hlen], by omega⟩, fun i hi => ⟨h3 i hi, gc_rot_lt h6 hj (fun i hi => (h.2.1 i hi).2) hi⟩, fun i j hi hj2 he => gc_rot_inj h6 hj h.2.2.1 hi hj2 he, fun i d hi => ?_⟩
  have row : ∀ a, a ≠ 2 → w'.1 a = w.1 a := fun a ha => by rw [h1, gd_rI_n ha]
  rw [List.getElem?_eraseIdx] at hi
  split at hi
  · rename_i hlt
    have e1 : gc_rot o j0 l.length i = o i := by unfold gc_rot; rw [if_pos hlt]
    obtain ⟨E, hE⟩ := h.2.2.2 i d hi
    rw [e1]
    exact ⟨E, hE.m (row _ (by omega)) (row _ (by omega)) (by rw [h2])⟩
  · rename_i hlt
    have hl : i + 1 < l.length := (List.getElem?_eq_some_iff.mp hi).1
    have e1 : gc_rot o j0 l.length i = o (i + 1) := by unfold gc_rot; rw [if_neg hlt, if_pos hl]
    obtain ⟨E, hE⟩ := h.2.2.2 (i + 1) d hi
    rw [e1]
    exact ⟨E, hE.m (row _ (by omega)) (row _ (by omega)) (by rw [h2])⟩
theorem gs_srt_ext : ∀ {l m : List Nat}, l.Pairwise (· < ·) → m.Pairwise (· < ·) → (∀ x, x ∈ l ↔ x ∈ m) → l = m
  | [], [], _, _, _ => rfl
  | [], b :: m, _, _, h => by have := (h b).mpr List.mem_cons_self; cases this
  | a :: l, [], _, _, h => by have := (h a).mp List.mem_cons_self; cases this
  | a :: l, b :: m, hl, hm, h => by
    rw [List.pairwise_cons] at hl hm
    have hab : a = b := by
      rcases List.mem_cons.mp ((h a).mp List.mem_cons_self) with e | e
      · exact e
      · rcases List.mem_cons.mp ((h b).mpr List.mem_cons_self) with f | f
        · exact f.symm
        · have := hm.1 a e; have := hl.1 b f; omega
    subst hab
    rw [gs_srt_ext hl.2 hm.2 (fun x => ?_)]
    constructor
    · intro hx
      rcases List.mem_cons.mp ((h x).mp (List.mem_cons_of_mem _ hx)) with e | e
      · have := hl.1 x hx; omega
      · exact e
    · intro hx
      rcases List.mem_cons.mp ((h x).mpr (List.mem_cons_of_mem _ hx)) with e | e
      · have := hm.1 x hx; omega
      · exact e
theorem gs_al_eq {S : gs_T} {l : List Nat} (hp : l.Pairwise (· < ·)) (h : ∀ x, x ∈ l ↔ gs_alive S x) : l = gs_al S := gs_srt_ext hp (gs_ot_pair _ _ _ _) (fun x => (h x).trans gs_al_mem.symm)
theorem gs_al_pair (S : gs_T) : (gs_al S).Pairwise (· < ·) := gs_ot_pair _ _ _ _
theorem gs_al_push {S S' : gs_T} (h : ∀ x, gs_alive S' x ↔ gs_alive S x ∨ x = gs_made S) : gs_al S' = gs_al S ++ [gs_made S] := by
  refine (gs_al_eq ?_ fun x => ?_).symm
  · rw [List.pairwise_append]
    refine ⟨gs_al_pair S, by simp, fun a ha b hb => ?_⟩
    rw [List.mem_singleton] at hb
    have := (gs_al_mem.mp ha).1
    omega
  · rw [List.mem_append, List.mem_singleton, gs_al_mem, h]
theorem gs_mem_erase {l : List Nat} (hp : l.Pairwise (· < ·)) {i d : Nat} (hi : l[i]? = some d) (x : Nat) : x ∈ l.eraseIdx i ↔ x ∈ l ∧ x ≠ d := by
  obtain ⟨hl, he⟩ := List.getElem?_eq_some_iff.mp hi
  rw [List.mem_eraseIdx_iff_getElem]
  constructor
  · rintro ⟨j, hj, hne, hx⟩
    refine ⟨by rw [← hx]; exact List.getElem_mem hj, fun hd => ?_⟩
    rcases Nat.lt_or_gt_of_ne hne with h | h
    · have := List.pairwise_iff_getElem.mp hp j i hj hl h; omega
    · have := List.pairwise_iff_getElem.mp hp i j hl hj h; omega
  · rintro ⟨hx, hne⟩
    obtain ⟨j, hj, e⟩ := List.getElem_of_mem hx
    exact ⟨j, hj, fun h => hne (by subst h; rw [← e, he]), e⟩
theorem gs_al_del {S S' : gs_T} {i d : Nat} (hi : (gs_al S)[i]? = some d) (h : ∀ x, gs_alive S' x ↔ gs_alive S x ∧ x ≠ d) : gs_al S' = (gs_al S).eraseIdx i :=
  (gs_al_eq (List.Pairwise.sublist (List.eraseIdx_sublist _ _) (gs_al_pair S)) fun x => by rw [gs_mem_erase (gs_al_pair S) hi, gs_al_mem, h]).symm
