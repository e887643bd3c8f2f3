/-! The reference's arrays behind a write. -/
def gs_fd (S : gs_T) (f d v : Nat) : gs_T := (S.1, fun a b => if a = f ∧ b = d then v else S.2.1 a b, S.2.2)
def gs_kset (S : gs_T) (c k : Nat) : gs_T := (fun x => if x = c then k else S.1 x, S.2)
def gs_sset (S : gs_T) (d k : Nat) (v : Int64) : gs_T := (S.1, S.2.1, fun a b => if a = d ∧ b = k then v else S.2.2.1 a b, S.2.2.2)
def gs_sc (S : gs_T) (j v : Nat) : gs_T := (S.1, S.2.1, S.2.2.1, fun a => if a = j then v else S.2.2.2.1 a, S.2.2.2.2)
def gs_tm (S : gs_T) (t : Int32) : gs_T := (S.1, S.2.1, S.2.2.1, S.2.2.2.1, t, S.2.2.2.2.2)
def gs_rset (S : gs_T) (r : List (Nat × Int32 × Nat × Nat)) : gs_T := (S.1, S.2.1, S.2.2.1, S.2.2.2.1, S.2.2.2.2.1, r)
/-- a way of en moves for droplet d -/
def gs_route (S : gs_T) (d en : Nat) (mv : Nat → Nat) : gs_T := (S.1, fun a b => if b = d then (if a = 3 then en else if 5 ≤ a then mv (a - 5) else S.2.1 a b) else S.2.1 a b, S.2.2)
/-- a new droplet -/
def gs_add (S : gs_T) (c u : Nat) : gs_T := gs_sc (gs_fd (gs_fd (gs_fd (gs_fd S 0 (gs_made S) u) 1 (gs_made S) c) 3 (gs_made S) 0) 4 (gs_made S) 0) 0 (gs_made S + 1)
def gs_sh4 (S : gs_T) (d : Nat) (f : Nat → Int64) : gs_T := gs_sset (gs_sset (gs_sset (gs_sset S d 0 (f 0)) d 1 (f 1)) d 2 (f 2)) d 3 (f 3)
section UPD
variable {w : gd_W} {S : gs_T} {G : Nat → Nat}
theorem gr_M.f0 (k : gr_M w S G) (d v : Nat) (hv : v ≤ 2) : gr_M (gd_rI w 29 (upd (w.1 29) d (nI v))) (gs_fd S 0 d v) G := by
  obtain ⟨h1, h2, h3, h4, h5, h6, h7, h8, h9, h10, h11, h12, h13, h14⟩ := k
  have h5x : ∀ x, x < 60 → ∀ i, i < gs_l S x → w.1 33 (60 * x + G x + i) = nI (if 5 + i = 0 ∧ x = d then v else S.2.1 (5 + i) x) ∧ (if 5 + i = 0 ∧ x = d then v else S.2.1 (5 + i) x) < 5 := fun x hx i hi => by rw [if_neg (fun z => by omega)]; exact h5 x hx i hi
  refine ⟨h1, fun x hx => ?_, h3, h4, h5x, h6, h7, h8, h9, h10, h11, h12, h13, h14⟩
  show upd (w.1 29) d (nI v) x = nI (if (0 : Nat) = 0 ∧ x = d then v else S.2.1 0 x) ∧ (if (0 : Nat) = 0 ∧ x = d then v else S.2.1 0 x) ≤ 2
  by_cases e : x = d
  · subst e; rw [gd_u_s, if_pos ⟨rfl, rfl⟩]; exact ⟨rfl, hv⟩
  · rw [gd_u_n e, if_neg (fun z => e z.2)]; exact h2 x hx
theorem gr_M.f1 (k : gr_M w S G) (d v : Nat) (hv : v < 64) : gr_M (gd_rI w 30 (upd (w.1 30) d (nI v))) (gs_fd S 1 d v) G := by
  obtain ⟨h1, h2, h3, h4, h5, h6, h7, h8, h9, h10, h11, h12, h13, h14⟩ := k
  have h5x : ∀ x, x < 60 → ∀ i, i < gs_l S x → w.1 33 (60 * x + G x + i) = nI (if 5 + i = 1 ∧ x = d then v else S.2.1 (5 + i) x) ∧ (if 5 + i = 1 ∧ x = d then v else S.2.1 (5 + i) x) < 5 := fun x hx i hi => by rw [if_neg (fun z => by omega)]; exact h5 x hx i hi
  refine ⟨h1, h2, fun x hx => ?_, h4, h5x, h6, h7, h8, h9, h10, h11, h12, h13, h14⟩
  show upd (w.1 30) d (nI v) x = nI (if (1 : Nat) = 1 ∧ x = d then v else S.2.1 1 x) ∧ (if (1 : Nat) = 1 ∧ x = d then v else S.2.1 1 x) < 64
  by_cases e : x = d
  · subst e; rw [gd_u_s, if_pos ⟨rfl, rfl⟩]; exact ⟨rfl, hv⟩
  · rw [gd_u_n e, if_neg (fun z => e z.2)]; exact h3 x hx
theorem gr_M.f2 (k : gr_M w S G) (d v : Nat) (hv : v ≤ 60) : gr_M (gd_rI w 32 (upd (w.1 32) d (nI v))) (gs_fd S 2 d v) G := by
  obtain ⟨h1, h2, h3, h4, h5, h6, h7, h8, h9, h10, h11, h12, h13, h14⟩ := k
  have h5x : ∀ x, x < 60 → ∀ i, i < gs_l S x → w.1 33 (60 * x + G x + i) = nI (if 5 + i = 2 ∧ x = d then v else S.2.1 (5 + i) x) ∧ (if 5 + i = 2 ∧ x = d then v else S.2.1 (5 + i) x) < 5 := fun x hx i hi => by rw [if_neg (fun z => by omega)]; exact h5 x hx i hi
  refine ⟨h1, h2, h3, h4, h5x, h6, h7, h8, fun x hx => ?_, h10, h11, h12, h13, h14⟩
  show upd (w.1 32) d (nI v) x = nI (if (2 : Nat) = 2 ∧ x = d then v else S.2.1 2 x) ∧ (if (2 : Nat) = 2 ∧ x = d then v else S.2.1 2 x) ≤ 60
  by_cases e : x = d
  · subst e; rw [gd_u_s, if_pos ⟨rfl, rfl⟩]; exact ⟨rfl, hv⟩
  · rw [gd_u_n e, if_neg (fun z => e z.2)]; exact h9 x hx
theorem gr_M.f4 (k : gr_M w S G) (d v : Nat) (hv : v ≤ 60) : gr_M (gd_rI w 36 (upd (w.1 36) d (nI v))) (gs_fd S 4 d v) G := by
  obtain ⟨h1, h2, h3, h4, h5, h6, h7, h8, h9, h10, h11, h12, h13, h14⟩ := k
  have h5x : ∀ x, x < 60 → ∀ i, i < gs_l S x → w.1 33 (60 * x + G x + i) = nI (if 5 + i = 4 ∧ x = d then v else S.2.1 (5 + i) x) ∧ (if 5 + i = 4 ∧ x = d then v else S.2.1 (5 + i) x) < 5 := fun x hx i hi => by rw [if_neg (fun z => by omega)]; exact h5 x hx i hi
  refine ⟨h1, h2, h3, h4, h5x, fun x hx => ?_, h7, h8, h9, h10, h11, h12, h13, h14⟩
  show upd (w.1 36) d (nI v) x = nI (if (4 : Nat) = 4 ∧ x = d then v else S.2.1 4 x) ∧ (if (4 : Nat) = 4 ∧ x = d then v else S.2.1 4 x) ≤ 60
  by_cases e : x = d
  · subst e; rw [gd_u_s, if_pos ⟨rfl, rfl⟩]; exact ⟨rfl, hv⟩
  · rw [gd_u_n e, if_neg (fun z => e z.2)]; exact h6 x hx
theorem gr_M.kset (k : gr_M w S G) (c v : Nat) (hv : v < 8) : gr_M (gd_rI w 28 (upd (w.1 28) c (nI v))) (gs_kset S c v) G := by
  obtain ⟨h1, h2, h3, h4, h5, h6, h7, h8, h9, h10, h11, h12, h13, h14⟩ := k
  refine ⟨h1, h2, h3, h4, h5, h6, fun x hx => ?_, h8, h9, h10, h11, h12, h13, h14⟩
  show upd (w.1 28) c (nI v) x = nI (if x = c then v else S.1 x) ∧ (if x = c then v else S.1 x) < 8
  by_cases e : x = c
  · subst e; rw [gd_u_s, if_pos rfl]; exact ⟨rfl, hv⟩
  · rw [gd_u_n e, if_neg e]; exact h7 x hx
theorem gr_M.out (k : gr_M w S G) (v : Nat) (hv : v ≤ 60) : gr_M (gd_rI w 27 (upd (w.1 27) 12 (nI v))) (gs_sc S 1 v) G := by
  obtain ⟨h1, h2, h3, h4, h5, h6, h7, h8, h9, h10, h11, h12, h13, h14⟩ := k
  exact ⟨h1, h2, h3, h4, h5, h6, h7, h8, h9, h10, ⟨rfl, hv⟩, h12, h13, h14⟩
theorem gr_M.thr (k : gr_M w S G) (v : Nat) (hv : v ≤ 60) : gr_M (gd_rI w 27 (upd (w.1 27) 13 (nI v))) (gs_sc S 2 v) G := by
  obtain ⟨h1, h2, h3, h4, h5, h6, h7, h8, h9, h10, h11, h12, h13, h14⟩ := k
  exact ⟨h1, h2, h3, h4, h5, h6, h7, h8, h9, h10, h11, ⟨rfl, hv⟩, h13, h14⟩
theorem gr_M.time (k : gr_M w S G) (v : Int32) : gr_M (gd_rI w 27 (upd (w.1 27) 1 v)) (gs_tm S v) G := by
  obtain ⟨h1, h2, h3, h4, h5, h6, h7, h8, h9, h10, h11, h12, h13, h14⟩ := k
  exact ⟨h1, h2, h3, h4, h5, h6, h7, h8, h9, rfl, h11, h12, h13, h14⟩
theorem gr_M.sset (k : gr_M w S G) (d j : Nat) (v : Int64) (hj : j < 4) : gr_M (gd_rL w 31 (vp_updL (w.2.1 31) (4 * d + j) v)) (gs_sset S d j v) G := by
  obtain ⟨h1, h2, h3, h4, h5, h6, h7, h8, h9, h10, h11, h12, h13, h14⟩ := k
  refine ⟨h1, h2, h3, h4, h5, h6, h7, fun x hx i hi => ?_, h9, h10, h11, h12, h13, h14⟩
  show vp_updL (w.2.1 31) (4 * d + j) v (4 * x + i) = if x = d ∧ i = j then v else S.2.2.1 x i
  by_cases e : x = d ∧ i = j
  · rw [if_pos e, e.1, e.2, gd_ul_s]
  · rw [if_neg e, gd_ul_n (by omega)]; exact h8 x hx i hi
theorem gr_M.laid (k : gr_M w S G) {w' : gd_W} {d en : Nat} {mv : Nat → Nat} (h : gs_laid w w' d en mv) (hen : en ≤ 60) (hmv : ∀ i, i < en → mv i < 5) (hd : d < 60) : gr_M w' (gs_route S d en mv) (fun x => if x = d then 0 else G x) := by
  obtain ⟨q1, q2, q3, q4, q5, q6⟩ := h
  have e27 := q1 27 (by decide) (by decide) (by decide) (by decide) (by decide)
  have e28 := q1 28 (by decide) (by decide) (by decide) (by decide) (by decide)
  have e29 := q1 29 (by decide) (by decide) (by decide) (by decide) (by decide)
  have e30 := q1 30 (by decide) (by decide) (by decide) (by decide) (by decide)
  have e32 := q1 32 (by decide) (by decide) (by decide) (by decide) (by decide)
  have e36 := q1 36 (by decide) (by decide) (by decide) (by decide) (by decide)
  have e37 := q1 37 (by decide) (by decide) (by decide) (by decide) (by decide)
  have e38 := q1 38 (by decide) (by decide) (by decide) (by decide) (by decide)
  have e39 := q1 39 (by decide) (by decide) (by decide) (by decide) (by decide)
  have e40 := q1 40 (by decide) (by decide) (by decide) (by decide) (by decide)
  have fld : ∀ a x, a ≠ 3 → a < 5 → (gs_route S d en mv).2.1 a x = S.2.1 a x := by
    intro a x h1 h2
    show (if x = d then (if a = 3 then en else if 5 ≤ a then mv (a - 5) else S.2.1 a x) else S.2.1 a x) = _
    by_cases e : x = d
    · rw [if_pos e, if_neg h1, if_neg (by omega)]
    · rw [if_neg e]
  obtain ⟨h1, h2, h3, h4, h5, h6, h7, h8, h9, h10, h11, h12, h13, h14⟩ := k
  refine ⟨by rw [e27]; exact h1, fun x hx => ?_, fun x hx => ?_, fun x hx => ?_, fun x hx i hi => ?_, fun x hx => ?_, by rw [e28]; exact h7, by rw [q2]; exact h8, fun x hx => ?_, by rw [e27]; exact h10, by rw [e27]; exact h11, by rw [e27]; exact h12, by rw [e27]; exact h13, by rw [e37, e38, e39, e40]; exact h14⟩
  · rw [e29, gs_u, fld 0 x (by decide) (by decide)]; exact h2 x hx
  · rw [e30, gs_c, fld 1 x (by decide) (by decide)]; exact h3 x hx
  · rw [q5, q6]
    show upd (w.1 34) d (nI en) x = nI ((if x = d then 0 else G x) + (if x = d then (if (3 : Nat) = 3 then en else if 5 ≤ 3 then mv (3 - 5) else S.2.1 3 x) else S.2.1 3 x)) ∧ upd (w.1 35) d 0 x = nI (if x = d then 0 else G x) ∧ (if x = d then 0 else G x) + (if x = d then (if (3 : Nat) = 3 then en else if 5 ≤ 3 then mv (3 - 5) else S.2.1 3 x) else S.2.1 3 x) ≤ 60
    by_cases e : x = d
    · subst e
      rw [gd_u_s, gd_u_s, if_pos rfl, if_pos rfl, if_pos rfl, Nat.zero_add]
      exact ⟨rfl, rfl, hen⟩
    · rw [gd_u_n e, gd_u_n e, if_neg e, if_neg e]
      exact h4 x hx
  · have hi' : i < (if x = d then (if (3 : Nat) = 3 then en else if 5 ≤ 3 then mv (3 - 5) else S.2.1 3 x) else S.2.1 3 x) := hi
    show w'.1 33 (60 * x + (if x = d then 0 else G x) + i) = nI (if x = d then (if 5 + i = 3 then en else if 5 ≤ 5 + i then mv (5 + i - 5) else S.2.1 (5 + i) x) else S.2.1 (5 + i) x) ∧ (if x = d then (if 5 + i = 3 then en else if 5 ≤ 5 + i then mv (5 + i - 5) else S.2.1 (5 + i) x) else S.2.1 (5 + i) x) < 5
    by_cases e : x = d
    · subst e
      rw [if_pos rfl, if_pos rfl] at hi'
      rw [if_pos rfl, if_pos rfl, if_neg (by omega), if_pos (by omega), show 5 + i - 5 = i by omega, Nat.add_zero]
      exact ⟨q3 i hi', hmv i hi'⟩
    · rw [if_neg e] at hi'
      rw [if_neg e, if_neg e]
      have h4x := (h4 x hx).2.2
      have hl : gs_l S x = S.2.1 3 x := rfl
      rw [q4 (60 * x + G x + i) (by omega)]
      exact h5 x hx i hi'
  · rw [e36, gs_i, fld 4 x (by decide) (by decide)]; exact h6 x hx
  · rw [e32, gs_p, fld 2 x (by decide) (by decide)]; exact h9 x hx
theorem gr_M.made (k : gr_M w S G) (v : Nat) (hv : v ≤ 60) : gr_M (gd_rI w 27 (upd (w.1 27) 3 (nI v))) (gs_sc S 0 v) G := by
  obtain ⟨h1, h2, h3, h4, h5, h6, h7, h8, h9, h10, h11, h12, h13, h14⟩ := k
  exact ⟨⟨rfl, hv⟩, h2, h3, h4, h5, h6, h7, h8, h9, h10, h11, h12, h13, h14⟩
theorem gr_M.lg (k : gr_M w S G) (d : Nat) : gr_M (gd_rI (gd_rI w 34 (upd (w.1 34) d 0)) 35 (upd (w.1 35) d 0)) (gs_fd S 3 d 0) (fun x => if x = d then 0 else G x) := by
  obtain ⟨h1, h2, h3, h4, h5, h6, h7, h8, h9, h10, h11, h12, h13, h14⟩ := k
  refine ⟨h1, h2, h3, fun x hx => ?_, fun x hx i hi => ?_, h6, h7, h8, h9, h10, h11, h12, h13, h14⟩
  · show upd (w.1 34) d 0 x = nI ((if x = d then 0 else G x) + (if (3 : Nat) = 3 ∧ x = d then 0 else S.2.1 3 x)) ∧ upd (w.1 35) d 0 x = nI (if x = d then 0 else G x) ∧ (if x = d then 0 else G x) + (if (3 : Nat) = 3 ∧ x = d then 0 else S.2.1 3 x) ≤ 60
    by_cases e : x = d
    · subst e; rw [gd_u_s, gd_u_s, if_pos rfl, if_pos ⟨rfl, rfl⟩]; exact ⟨rfl, rfl, by omega⟩
    · rw [gd_u_n e, gd_u_n e, if_neg e, if_neg (fun z => e z.2)]; exact h4 x hx
  · have hi' : i < (if (3 : Nat) = 3 ∧ x = d then 0 else S.2.1 3 x) := hi
    show w.1 33 (60 * x + (if x = d then 0 else G x) + i) = nI (if 5 + i = 3 ∧ x = d then 0 else S.2.1 (5 + i) x) ∧ (if 5 + i = 3 ∧ x = d then 0 else S.2.1 (5 + i) x) < 5
    by_cases e : x = d
    · subst e; rw [if_pos ⟨rfl, rfl⟩] at hi'; omega
    · rw [if_neg (fun z => e z.2)] at hi'
      rw [if_neg e, if_neg (fun z => e z.2)]
      exact h5 x hx i hi'
end UPD
