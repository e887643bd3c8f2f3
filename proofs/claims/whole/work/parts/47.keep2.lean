/-! Who awaits whom, and what is read, behind the calls. -/
theorem gs_aw_congr {S S' : gs_T} (hm : gs_made S' = gs_made S) (h : ∀ x, x < gs_made S → gs_u S' x = gs_u S x ∧ gs_i S' x = gs_i S x) (d : Nat) : gs_aw S' d = gs_aw S d := by
  unfold gs_aw
  rw [hm]
  exact gs_com_congr h
theorem gs_route_aw {S : gs_T} {k en : Nat} {mv : Nat → Nat} (d : Nat) : gs_aw (gs_route S k en mv) d = gs_aw S d := by
  refine gs_aw_congr (S := S) (S' := gs_route S k en mv) rfl (fun x _ => ?_) d
  by_cases e : x = k
  · subst e; exact ⟨gs_route_f (a := 0) (by decide) (by decide), gs_route_f (a := 4) (by decide) (by decide)⟩
  · exact ⟨(gs_route_at e).1 0, (gs_route_at e).1 4⟩
/-- by the ones that are there -/
theorem gs_aw_iff {S : gs_T} (hG : gs_Go S) {d k : Nat} : gs_aw S d = some k ↔ gs_alive S k ∧ gs_i S k = d + 1 :=
  ⟨gs_aw_some, fun h => hG.aw h.1 h.2⟩
theorem gs_aw_ext {S S' : gs_T} (hG : gs_Go S) (hG' : gs_Go S') {d : Nat} (h : ∀ k, (gs_alive S' k ∧ gs_i S' k = d + 1) ↔ (gs_alive S k ∧ gs_i S k = d + 1)) : gs_aw S' d = gs_aw S d := by
  cases ha : gs_aw S d with
  | none => exact gs_aw_none.mpr fun k hk he => gs_aw_none.mp ha k ((h k).mp ⟨hk, he⟩).1 ((h k).mp ⟨hk, he⟩).2
  | some k => exact (gs_aw_iff hG').mpr ((h k).mpr ((gs_aw_iff hG).mp ha))
theorem gs_s1_aw {S : gs_T} (d : Nat) : gs_aw (gs_s1 S) d = gs_aw S d := gs_aw_congr (S := S) (S' := gs_s1 S) rfl (fun x _ => ⟨gs_s1_u x, gs_s1_i x⟩) d
/-- the readings, by the list -/
def gs_rdl (S : gs_T) (X : Nat → Nat) (l : List Nat) : List gs_rt := l.foldl (fun r d => if gs_sens S X d then gs_push r (d, gs_time S, gs_c S d, gs_u S d) else r) (gs_rd S)
def gs_rcl (S : gs_T) (X : Nat → Nat) (l : List Nat) : Nat := l.foldl (fun r d => if gs_sens S X d then r + 1 else r) 0
theorem gs_sens_no {S : gs_T} {X : Nat → Nat} {d : Nat} (h : ¬ 0 < gs_u S d) : gs_sens S X d = false := by
  unfold gs_sens
  exact decide_eq_false (fun z => h z.1)
theorem gs_rdl_snoc {S : gs_T} {X : Nat → Nat} (l : List Nat) (d : Nat) : gs_rdl S X (l ++ [d]) = if gs_sens S X d then gs_push (gs_rdl S X l) (d, gs_time S, gs_c S d, gs_u S d) else gs_rdl S X l := by
  unfold gs_rdl
  rw [List.foldl_append]
  rfl
theorem gs_rcl_snoc {S : gs_T} {X : Nat → Nat} (l : List Nat) (d : Nat) : gs_rcl S X (l ++ [d]) = if gs_sens S X d then gs_rcl S X l + 1 else gs_rcl S X l := by
  unfold gs_rcl
  rw [List.foldl_append]
  rfl
theorem gs_rdn_l {S : gs_T} {X : Nat → Nat} : ∀ n, gs_rdn S X n = gs_rdl S X (gs_ot (gs_u S) none none n) ∧ gs_rcn S X n = gs_rcl S X (gs_ot (gs_u S) none none n)
  | 0 => ⟨rfl, rfl⟩
  | n + 1 => by
    obtain ⟨h1, h2⟩ := gs_rdn_l (S := S) (X := X) n
    rw [gs_rdn, gs_rcn, h1, h2]
    by_cases hu : 0 < gs_u S n
    · rw [show gs_ot (gs_u S) none none (n + 1) = gs_ot (gs_u S) none none n ++ [n] by rw [gs_ot, if_pos ⟨hu, by simp, by simp⟩], gs_rdl_snoc, gs_rcl_snoc]
      exact ⟨rfl, rfl⟩
    · rw [show gs_ot (gs_u S) none none (n + 1) = gs_ot (gs_u S) none none n by rw [gs_ot, if_neg (fun z => hu z.1)], gs_sens_no hu]
      exact ⟨rfl, rfl⟩
theorem gm_mv_ne : ∀ c, c < 64 → ∀ m, m < 5 → (gm_mv c m = some c ↔ m = 0) := by decide
/-- a droplet has moved -/
theorem gs_sX_iff {S : gs_T} (hG : gs_Good S) {d : Nat} (hd : gs_alive S d) (h5 : 0 < gs_l S d → gs_m S d 0 < 5) : 63 < gs_sX S d ↔ 0 < gs_l S d ∧ gs_m S d 0 ≠ 0 := by
  have hc := (hG.2.2.1 d hd).1
  unfold gs_sX gs_advX
  by_cases hl : 0 < gs_l S d
  · obtain ⟨c', h1, h2⟩ := (hG.1 d hd).1 1 (by omega)
    have h3 : gm_mv (gs_c S d) (gs_m S d 0) = some c' := h2
    have h4 := gm_mv_ne (gs_c S d) hc (gs_m S d 0) (h5 hl)
    rw [h3] at h4 ⊢
    rw [Option.getD_some]
    by_cases e : c' = gs_c S d
    · rw [if_neg (fun z => z.2 e)]
      have := h4.mp (by rw [e])
      omega
    · rw [if_pos ⟨⟨hd.1, hd.2, hl⟩, e⟩]
      refine ⟨fun _ => ⟨hl, fun z => e (Option.some.inj (h4.mpr z))⟩, fun _ => by omega⟩
  · rw [if_neg (fun z => hl z.1.2.2)]
    omega
/-! What uniting does to one that stays. -/
section UA
variable {S : gs_T}
theorem gs_unS_al (hG : gs_Go S) {k e : Nat} (hk : gs_alive S k) (hi : gs_i S k = e + 1) (x : Nat) : gs_alive (gs_unS S k e) x ↔ gs_alive S x ∧ x ≠ k := by
  obtain ⟨z1, z2, z3, z4, z5, z6, z7⟩ := hG.into hk (by omega)
  rw [show gs_i S k - 1 = e by omega] at z1 z2
  unfold gs_alive
  rw [gs_u, gs_unS_f]
  by_cases e1 : x = k
  · subst e1
    rw [if_pos ⟨rfl, rfl⟩]
    exact ⟨fun z => by have := z.2; omega, fun z => absurd rfl z.2⟩
  · rw [if_neg (fun z => e1 z.2)]
    by_cases e2 : x = e
    · subst e2
      rw [if_pos ⟨rfl, rfl⟩]
      exact ⟨fun _ => ⟨z1, e1⟩, fun _ => ⟨z1.1, by omega⟩⟩
    · rw [if_neg (fun z => e2 z.2), if_neg (fun z => e1 z.2), if_neg (fun z => e2 z.2)]
      exact ⟨fun z => ⟨z, e1⟩, fun z => z.1⟩
theorem gs_unS_at {k e x : Nat} (h1 : x ≠ k) (h2 : x ≠ e) : gs_at S (gs_unS S k e) x :=
  ⟨fun f => by rw [gs_unS_f, if_neg (fun z => h1 z.2), if_neg (fun z => h2 z.2), if_neg (fun z => h1 z.2), if_neg (fun z => h2 z.2)], fun j _ => by show (if x = e ∧ j < 4 then _ else _) = _; rw [if_neg (fun z => h2 z.1)]⟩
theorem gs_unS_aw (hG : gs_Go S) {k e : Nat} (hk : gs_alive S k) (hi : gs_i S k = e + 1) {x : Nat} : gs_aw (gs_unS S k e) x = if x = e then none else gs_aw S x := by
  have hG' := gs_unS_Go hG hk hi
  have hal := gs_unS_al hG hk hi
  have hI : ∀ y, y ≠ k → gs_i (gs_unS S k e) y = gs_i S y := fun y hy => by rw [gs_i, gs_unS_f, if_neg (fun z => by omega), if_neg (fun z => by omega), if_neg (fun z => hy z.2), if_neg (fun z => by omega)]
  split
  · rename_i hx
    subst hx
    refine gs_aw_none.mpr fun y hy he => ?_
    obtain ⟨q1, q2⟩ := (hal y).mp hy
    rw [hI y q2] at he
    exact q2 ((hG.into hk (by omega)).2.2.2.2.2.2 y q1 (by omega))
  · rename_i hx
    refine gs_aw_ext hG hG' fun y => ?_
    constructor
    · rintro ⟨a, b⟩
      obtain ⟨q1, q2⟩ := (hal y).mp a
      rw [hI y q2] at b
      exact ⟨q1, b⟩
    · rintro ⟨a, b⟩
      have q2 : y ≠ k := fun z => by subst z; omega
      exact ⟨(hal y).mpr ⟨a, q2⟩, by rw [hI y q2]; exact b⟩
end UA
theorem gs_join_aw {S : gs_T} (hG : gs_Good S) {k e en : Nat} (hk : gs_alive S k) (hf : gs_free S k = true) (he : gs_alive S e) (hfe : gs_free S e = true) (hke : k ≠ e) (uk : gs_u S k = 1) (ue : gs_u S e = 1) (hway : gs_W S k (some e) (gs_c S e) true = some en) (d : Nat) : gs_aw (gs_fd (gs_route S k en (gs_V S k (some e) (gs_c S e) en)) 4 k (e + 1)) d = if d = e then some k else gs_aw S d := by
  have hG' := gs_Good_joinS hG hk hf he hfe hke uk ue hway
  have hu : ∀ x, gs_u (gs_fd (gs_route S k en (gs_V S k (some e) (gs_c S e) en)) 4 k (e + 1)) x = gs_u S x := fun x => by
    show (if (0 : Nat) = 4 ∧ x = k then e + 1 else (gs_route S k en (gs_V S k (some e) (gs_c S e) en)).2.1 0 x) = _
    rw [if_neg (fun z => by omega)]
    by_cases ex : x = k
    · subst ex; exact gs_route_f (by decide) (by decide)
    · exact (gs_route_at ex).1 0
  have hal : ∀ x, gs_alive (gs_fd (gs_route S k en (gs_V S k (some e) (gs_c S e) en)) 4 k (e + 1)) x ↔ gs_alive S x := fun x => by unfold gs_alive; rw [hu]; exact Iff.rfl
  have hik : gs_i (gs_fd (gs_route S k en (gs_V S k (some e) (gs_c S e) en)) 4 k (e + 1)) k = e + 1 := by
    show (if (4 : Nat) = 4 ∧ k = k then e + 1 else _) = _
    rw [if_pos ⟨rfl, rfl⟩]
  have hI : ∀ x, x ≠ k → gs_i (gs_fd (gs_route S k en (gs_V S k (some e) (gs_c S e) en)) 4 k (e + 1)) x = gs_i S x := fun x hx => by
    show (if (4 : Nat) = 4 ∧ x = k then e + 1 else (gs_route S k en (gs_V S k (some e) (gs_c S e) en)).2.1 4 x) = _
    rw [if_neg (fun z => hx z.2)]
    exact (gs_route_at hx).1 4
  split
  · rename_i hd
    subst hd
    exact hG'.go.aw ((hal k).mpr hk) hik
  · rename_i hd
    refine gs_aw_ext hG.go hG'.go fun y => ?_
    rw [hal]
    by_cases ey : y = k
    · subst ey
      rw [hik, (hG.free hk hf).2.1]
      exact ⟨fun z => by omega, fun z => by omega⟩
    · rw [hI y ey]
theorem gs_disc_aw {S : gs_T} {k t : Nat} (hi : gs_i S k = 0) (d : Nat) : gs_aw (gs_fd (gs_sc S 2 t) 0 k 0) d = gs_aw S d := by
  have key : ∀ n, gs_com (gs_u (gs_fd (gs_sc S 2 t) 0 k 0)) (gs_i (gs_fd (gs_sc S 2 t) 0 k 0)) d n = gs_com (gs_u S) (gs_i S) d n := by
    intro n
    induction n with
    | zero => rfl
    | succ n ih =>
      rw [gs_com, gs_com, ih]
      have h4 : gs_i (gs_fd (gs_sc S 2 t) 0 k 0) n = gs_i S n := by show (if (4 : Nat) = 0 ∧ n = k then 0 else S.2.1 4 n) = _; rw [if_neg (fun z => by omega)]
      rw [h4]
      by_cases e : n = k
      · subst e
        rw [if_neg (by rw [hi]; omega), if_neg (by rw [hi]; omega)]
      · have h0 : gs_u (gs_fd (gs_sc S 2 t) 0 k 0) n = gs_u S n := by show (if (0 : Nat) = 0 ∧ n = k then 0 else S.2.1 0 n) = _; rw [if_neg (fun z => e z.2)]
        rw [h0]
  exact key (gs_made S)
theorem gs_half_aw {S : gs_T} {k a b : Nat} (hk : gs_alive S k) (hi : gs_i S k = 0) (d : Nat) : gs_aw (gs_halfS S k a b) d = gs_aw S d := by
  unfold gs_aw
  rw [gs_halfS_made, show gs_made S + 2 = gs_made S + 1 + 1 from rfl, gs_com, gs_com, if_neg (by rw [show gs_i (gs_halfS S k a b) (gs_made S + 1) = 0 from gs_halfS_1 4 (by omega)]; omega), if_neg (by rw [show gs_i (gs_halfS S k a b) (gs_made S) = 0 from gs_halfS_0 4 (by omega)]; omega)]
  have key : ∀ n, n ≤ gs_made S → gs_com (gs_u (gs_halfS S k a b)) (gs_i (gs_halfS S k a b)) d n = gs_com (gs_u S) (gs_i S) d n := by
    intro n
    induction n with
    | zero => intro _; rfl
    | succ n ih =>
      intro hn
      rw [gs_com, gs_com, ih (by omega)]
      by_cases e : n = k
      · subst e
        rw [if_neg (by rw [gs_halfS_uk hk.1]; omega), if_neg (by rw [hi]; omega)]
      · have hat := gs_halfS_at (S := S) (k := k) (a := a) (b := b) (x := n) (by omega) (by omega) e
        rw [show gs_u (gs_halfS S k a b) n = gs_u S n from hat.1 0, show gs_i (gs_halfS S k a b) n = gs_i S n from hat.1 4]
  exact key _ (Nat.le_refl _)
