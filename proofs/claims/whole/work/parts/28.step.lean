/-! One step of time, in the abstract state. -/
def gs_adv (S : gs_T) (n : Nat) : gs_T := (S.1, fun a b => if b < n ∧ 0 < gs_u S b ∧ 0 < gs_l S b then (if a = 1 then (gm_mv (gs_c S b) (gs_m S b 0)).getD 0 else if a = 3 then gs_l S b - 1 else if 5 ≤ a then S.2.1 (a + 1) b else S.2.1 a b) else S.2.1 a b, S.2.2)
def gs_advG (S : gs_T) (G : Nat → Nat) (n b : Nat) : Nat := if b < n ∧ 0 < gs_u S b ∧ 0 < gs_l S b then G b + 1 else G b
def gs_advX (S : gs_T) (n b : Nat) : Nat := if (b < n ∧ 0 < gs_u S b ∧ 0 < gs_l S b) ∧ (gm_mv (gs_c S b) (gs_m S b 0)).getD 0 ≠ gs_c S b then (gm_mv (gs_c S b) (gs_m S b 0)).getD 0 + 64 else gs_c S b
theorem gs_adv_c (S : gs_T) (n b : Nat) : gs_c (gs_adv S n) b = if b < n ∧ 0 < gs_u S b ∧ 0 < gs_l S b then (gm_mv (gs_c S b) (gs_m S b 0)).getD 0 else gs_c S b := rfl
theorem gs_adv_l (S : gs_T) (n b : Nat) : gs_l (gs_adv S n) b = if b < n ∧ 0 < gs_u S b ∧ 0 < gs_l S b then gs_l S b - 1 else gs_l S b := rfl
theorem gs_adv_f (S : gs_T) (n b : Nat) {a : Nat} (h : a = 0 ∨ a = 2 ∨ a = 4) : (gs_adv S n).2.1 a b = S.2.1 a b := by
  show (if b < n ∧ 0 < gs_u S b ∧ 0 < gs_l S b then (if a = 1 then (gm_mv (gs_c S b) (gs_m S b 0)).getD 0 else if a = 3 then gs_l S b - 1 else if 5 ≤ a then S.2.1 (a + 1) b else S.2.1 a b) else S.2.1 a b) = S.2.1 a b
  split
  · rw [if_neg (by omega), if_neg (by omega), if_neg (by omega)]
  · rfl
theorem gs_adv_m (S : gs_T) (n b k : Nat) : gs_m (gs_adv S n) b k = if b < n ∧ 0 < gs_u S b ∧ 0 < gs_l S b then gs_m S b (k + 1) else gs_m S b k := by
  show (if b < n ∧ 0 < gs_u S b ∧ 0 < gs_l S b then (if 5 + k = 1 then (gm_mv (gs_c S b) (gs_m S b 0)).getD 0 else if 5 + k = 3 then gs_l S b - 1 else if 5 ≤ 5 + k then S.2.1 (5 + k + 1) b else S.2.1 (5 + k) b) else S.2.1 (5 + k) b) = _
  split
  · rw [if_neg (by omega), if_neg (by omega), if_pos (by omega)]; rfl
  · rfl
/-- where a cell's number and its mark stand for it -/
theorem gs_advX_c (S : gs_T) (n b : Nat) : gs_advX S n b = gs_c (gs_adv S n) b ∨ gs_advX S n b = gs_c (gs_adv S n) b + 64 := by
  rw [gs_adv_c, gs_advX]
  by_cases h : b < n ∧ 0 < gs_u S b ∧ 0 < gs_l S b
  · by_cases e : (gm_mv (gs_c S b) (gs_m S b 0)).getD 0 = gs_c S b
    · rw [if_neg (fun z => z.2 e), if_pos h, e]; exact Or.inl rfl
    · rw [if_pos ⟨h, e⟩, if_pos h]; exact Or.inr rfl
  · rw [if_neg (fun z => h z.1), if_neg h]; exact Or.inl rfl
/-- the reference's arrays, but for the marks in the cells -/
def gr_X (w : gd_W) (S : gs_T) (G X : Nat → Nat) : Prop := gr_M (gd_rI w 30 (fun d => nI (gs_c S d))) S G ∧ ∀ d, d < 60 → w.1 30 d = nI (X d)
def gs_i1 (S : gs_T) (G : Nat → Nat) (w w1 : gd_W) (n : Nat) : Prop := (∀ a, a ≠ 30 → a ≠ 35 → w1.1 a = w.1 a) ∧ w1.2 = w.2 ∧ (∀ d, d < 60 → w1.1 30 d = nI (gs_advX S n d)) ∧ ∀ d, d < 60 → w1.1 35 d = nI (gs_advG S G n d)
theorem gs_i1_0 {w : gd_W} {S : gs_T} {G : Nat → Nat} (k : gr_M w S G) : gs_i1 S G w w 0 := by
  refine ⟨fun _ _ _ => rfl, rfl, fun d hd => ?_, fun d hd => ?_⟩
  · rw [gs_advX, if_neg (fun z => by omega)]; exact (k.2.2.1 d hd).1
  · rw [gs_advG, if_neg (fun z => by omega)]; exact (k.2.2.2.1 d hd).2.1
theorem gs_i1_skip {w w1 : gd_W} {S : gs_T} {G : Nat → Nat} {n : Nat} (h : gs_i1 S G w w1 n) (hn : ¬ (0 < gs_u S n ∧ 0 < gs_l S n)) : gs_i1 S G w w1 (n + 1) := by
  have e : ∀ d, (d < n + 1 ∧ 0 < gs_u S d ∧ 0 < gs_l S d) ↔ (d < n ∧ 0 < gs_u S d ∧ 0 < gs_l S d) := fun d => by
    by_cases hd : d = n
    · subst hd; exact ⟨fun z => absurd z.2 hn, fun z => by omega⟩
    · exact ⟨fun z => ⟨by omega, z.2⟩, fun z => ⟨by omega, z.2⟩⟩
  refine ⟨h.1, h.2.1, fun d hd => ?_, fun d hd => ?_⟩
  · rw [h.2.2.1 d hd, gs_advX, gs_advX]; simp only [e d]
  · rw [h.2.2.2 d hd, gs_advG, gs_advG]; simp only [e d]
theorem gs_i1_move {w w1 : gd_W} {S : gs_T} {G : Nat → Nat} {n : Nat} (h : gs_i1 S G w w1 n) (hn : 0 < gs_u S n ∧ 0 < gs_l S n) {v : Int32} (hv : v = nI (gs_advX S (n + 1) n)) : gs_i1 S G w (gd_rI (gd_rI w1 30 (upd (w1.1 30) n v)) 35 (upd (w1.1 35) n (nI (G n) + 1))) (n + 1) := by
  have e : ∀ d, d ≠ n → ((d < n + 1 ∧ 0 < gs_u S d ∧ 0 < gs_l S d) ↔ (d < n ∧ 0 < gs_u S d ∧ 0 < gs_l S d)) := fun d hd => ⟨fun z => ⟨by omega, z.2⟩, fun z => ⟨by omega, z.2⟩⟩
  refine ⟨fun a h1 h2 => by rw [gd_rI_n h2, gd_rI_n h1]; exact h.1 a h1 h2, h.2.1, fun d hd => ?_, fun d hd => ?_⟩
  · rw [gd_rI_n (by decide), gd_rI_s]
    by_cases e0 : d = n
    · subst e0; rw [gd_u_s, hv]
    · rw [gd_u_n e0, h.2.2.1 d hd, gs_advX, gs_advX]; simp only [e d e0]
  · rw [gd_rI_s]
    by_cases e0 : d = n
    · subst e0; rw [gd_u_s, nI_1, gs_advG, if_pos ⟨by omega, hn⟩]
    · rw [gd_u_n e0, h.2.2.2 d hd, gs_advG, gs_advG]; simp only [e d e0]
theorem gs_i1_end {w w1 : gd_W} {S : gs_T} {G : Nat → Nat} (k : gr_M w S G) (hv : ∀ d, gs_alive S d → gv_way S d) (h : gs_i1 S G w w1 (gs_made S)) : gr_X w1 (gs_adv S (gs_made S)) (gs_advG S G (gs_made S)) (gs_advX S (gs_made S)) := by
  obtain ⟨a1, a2, a3, a4⟩ := h
  refine ⟨?_, a3⟩
  obtain ⟨h1, h2, h3, h4, h5, h6, h7, h8, h9, h10, h11, h12, h13, h14⟩ := k
  have e : ∀ a, a ≠ 30 → a ≠ 35 → (gd_rI w1 30 (fun d => nI (gs_c (gs_adv S (gs_made S)) d))).1 a = w.1 a := fun a q1 q2 => by rw [gd_rI_n q1]; exact a1 a q1 q2
  have e2 : (gd_rI w1 30 (fun d => nI (gs_c (gs_adv S (gs_made S)) d))).2.1 = w.2.1 := by
    show w1.2.1 = w.2.1
    rw [a2]
  refine ⟨by rw [e 27 (by decide) (by decide)]; exact h1, fun d hd => ?_, fun d hd => ?_, fun d hd => ?_, fun d hd i hi => ?_, fun d hd => ?_, by rw [e 28 (by decide) (by decide)]; exact h7, by rw [e2]; exact h8, fun d hd => ?_, by rw [e 27 (by decide) (by decide)]; exact h10, by rw [e 27 (by decide) (by decide)]; exact h11, by rw [e 27 (by decide) (by decide)]; exact h12, by rw [e 27 (by decide) (by decide)]; exact h13, by rw [e 37 (by decide) (by decide), e 38 (by decide) (by decide), e 39 (by decide) (by decide), e 40 (by decide) (by decide)]; exact h14⟩
  · rw [e 29 (by decide) (by decide), gs_u, gs_adv_f S _ d (Or.inl rfl)]; exact h2 d hd
  · refine ⟨by rw [gd_rI_s], ?_⟩
    rw [gs_adv_c]
    by_cases c : d < gs_made S ∧ 0 < gs_u S d ∧ 0 < gs_l S d
    · rw [if_pos c]
      obtain ⟨x, hx, hw⟩ := hv d ⟨c.1, c.2.1⟩ 1 (by omega)
      have hw2 : gm_mv (gs_c S d) (gs_m S d 0) = some x := hw
      rw [hw2]
      exact hx
    · rw [if_neg c]; exact (h3 d hd).2
  · rw [e 34 (by decide) (by decide), gd_rI_n (by decide), a4 d hd, gs_adv_l, gs_advG]
    obtain ⟨g1, g2, g3⟩ := h4 d hd
    by_cases c : d < gs_made S ∧ 0 < gs_u S d ∧ 0 < gs_l S d
    · rw [if_pos c, if_pos c]
      exact ⟨by rw [g1]; congr 1; omega, rfl, by omega⟩
    · rw [if_neg c, if_neg c]; exact ⟨g1, rfl, g3⟩
  · rw [gs_adv_l] at hi
    rw [e 33 (by decide) (by decide), gs_adv_m, gs_advG]
    by_cases c : d < gs_made S ∧ 0 < gs_u S d ∧ 0 < gs_l S d
    · rw [if_pos c] at hi
      rw [if_pos c, if_pos c, show 60 * d + (G d + 1) + i = 60 * d + G d + (i + 1) by omega]
      exact h5 d hd (i + 1) (by omega)
    · rw [if_neg c] at hi
      rw [if_neg c, if_neg c]
      exact h5 d hd i hi
  · rw [e 36 (by decide) (by decide), gs_i, gs_adv_f S _ d (Or.inr (Or.inr rfl))]; exact h6 d hd
  · rw [e 32 (by decide) (by decide), gs_p, gs_adv_f S _ d (Or.inr (Or.inl rfl))]; exact h9 d hd
/-- k has gone into e -/
def gs_unP (S : gs_T) (k e : Nat) : Nat × (Nat → Int64) := gs_nrm (max (gs_p S k) (gs_p S e) + 1) (fun j => gs_sh S k j * gs_pw (gs_p S e - gs_p S k) + gs_sh S e j * gs_pw (gs_p S k - gs_p S e))
def gs_unS (S : gs_T) (k e : Nat) : gs_T := (S.1, fun a b => if a = 0 ∧ b = k then 0 else if a = 0 ∧ b = e then 2 else if a = 4 ∧ b = k then 0 else if a = 2 ∧ b = e then (gs_unP S k e).1 else S.2.1 a b, fun a b => if a = e ∧ b < 4 then (gs_unP S k e).2 b else S.2.2.1 a b, S.2.2.2)
theorem gs_nrm_le : ∀ (p : Nat) (f : Nat → Int64), (gs_nrm p f).1 ≤ p
  | 0, f => Nat.le_refl _
  | p + 1, f => by
    rw [gs_nrm]
    split
    · exact Nat.le_succ_of_le (gs_nrm_le p _)
    · exact Nat.le_refl _
theorem gr_X.un {w : gd_W} {S : gs_T} {G X : Nat → Nat} (h : gr_X w S G X) {k e : Nat} (hke : k ≠ e) (hp : max (gs_p S k) (gs_p S e) + 1 ≤ 60) {w1 : gd_W} (hu : gs_ui w w1 e (gs_unP S k e).1 (gs_unP S k e).2) :
    gr_X (gd_rI (gd_rI (gd_rI w1 29 (upd (w1.1 29) e (nI 2))) 29 (upd ((gd_rI w1 29 (upd (w1.1 29) e (nI 2))).1 29) k (nI 0))) 36 (upd ((gd_rI (gd_rI w1 29 (upd (w1.1 29) e (nI 2))) 29 (upd ((gd_rI w1 29 (upd (w1.1 29) e (nI 2))).1 29) k (nI 0))).1 36) k (nI 0))) (gs_unS S k e) G X := by
  obtain ⟨hk, hx⟩ := h
  obtain ⟨u1, u2, u3, u4, u5, u6⟩ := hu
  refine ⟨?_, fun d hd => ?_⟩
  · obtain ⟨h1, h2, h3, h4, h5, h6, h7, h8, h9, h10, h11, h12, h13, h14⟩ := hk
    have E27 : w1.1 27 = w.1 27 := u1 27 (by decide)
    have E28 : w1.1 28 = w.1 28 := u1 28 (by decide)
    have E33 : w1.1 33 = w.1 33 := u1 33 (by decide)
    have E34 : w1.1 34 = w.1 34 := u1 34 (by decide)
    have E35 : w1.1 35 = w.1 35 := u1 35 (by decide)
    have E37 : w1.1 37 = w.1 37 := u1 37 (by decide)
    have E38 : w1.1 38 = w.1 38 := u1 38 (by decide)
    have E39 : w1.1 39 = w.1 39 := u1 39 (by decide)
    have E40 : w1.1 40 = w.1 40 := u1 40 (by decide)
    refine ⟨?_, fun d hd => ?_, fun d hd => h3 d hd, fun d hd => ?_, fun d hd i hi => ?_, fun d hd => ?_, ?_, fun d hd i hi => ?_, fun d hd => ?_, ?_, ?_, ?_, ?_, ?_⟩
    · show w1.1 27 3 = _ ∧ _
      rw [E27]; exact h1
    · show upd (upd (w1.1 29) e (nI 2)) k (nI 0) d = nI (if (0 : Nat) = 0 ∧ d = k then 0 else if (0 : Nat) = 0 ∧ d = e then 2 else if (0 : Nat) = 4 ∧ d = k then 0 else if (0 : Nat) = 2 ∧ d = e then (gs_unP S k e).1 else S.2.1 0 d) ∧ (if (0 : Nat) = 0 ∧ d = k then 0 else if (0 : Nat) = 0 ∧ d = e then 2 else if (0 : Nat) = 4 ∧ d = k then 0 else if (0 : Nat) = 2 ∧ d = e then (gs_unP S k e).1 else S.2.1 0 d) ≤ 2
      by_cases ek : d = k
      · subst ek; rw [gd_u_s, if_pos ⟨rfl, rfl⟩]; exact ⟨rfl, by omega⟩
      · rw [gd_u_n ek, if_neg (fun z => ek z.2)]
        by_cases ee : d = e
        · subst ee; rw [gd_u_s, if_pos ⟨rfl, rfl⟩]; exact ⟨rfl, by omega⟩
        · rw [gd_u_n ee, if_neg (fun z => ee z.2), if_neg (fun z => by omega), if_neg (fun z => by omega), u1 29 (by decide)]
          exact h2 d hd
    · show w1.1 34 d = nI (G d + gs_l S d) ∧ w1.1 35 d = nI (G d) ∧ G d + gs_l S d ≤ 60
      rw [E34, E35]; exact h4 d hd
    · show w1.1 33 (60 * d + G d + i) = nI (if 5 + i = 0 ∧ d = k then 0 else if 5 + i = 0 ∧ d = e then 2 else if 5 + i = 4 ∧ d = k then 0 else if 5 + i = 2 ∧ d = e then (gs_unP S k e).1 else S.2.1 (5 + i) d) ∧ (if 5 + i = 0 ∧ d = k then 0 else if 5 + i = 0 ∧ d = e then 2 else if 5 + i = 4 ∧ d = k then 0 else if 5 + i = 2 ∧ d = e then (gs_unP S k e).1 else S.2.1 (5 + i) d) < 5
      rw [if_neg (fun z => by omega), if_neg (fun z => by omega), if_neg (fun z => by omega), if_neg (fun z => by omega), E33]
      exact h5 d hd i hi
    · show upd (w1.1 36) k (nI 0) d = nI (if (4 : Nat) = 0 ∧ d = k then 0 else if (4 : Nat) = 0 ∧ d = e then 2 else if (4 : Nat) = 4 ∧ d = k then 0 else if (4 : Nat) = 2 ∧ d = e then (gs_unP S k e).1 else S.2.1 4 d) ∧ (if (4 : Nat) = 0 ∧ d = k then 0 else if (4 : Nat) = 0 ∧ d = e then 2 else if (4 : Nat) = 4 ∧ d = k then 0 else if (4 : Nat) = 2 ∧ d = e then (gs_unP S k e).1 else S.2.1 4 d) ≤ 60
      rw [if_neg (fun z => by omega), if_neg (fun z => by omega)]
      by_cases ek : d = k
      · subst ek; rw [gd_u_s, if_pos ⟨rfl, rfl⟩]; exact ⟨rfl, by omega⟩
      · rw [gd_u_n ek, if_neg (fun z => ek z.2), if_neg (fun z => by omega), u1 36 (by decide)]
        exact h6 d hd
    · show ∀ c, c < 64 → w1.1 28 c = nI (gs_k S c) ∧ gs_k S c < 8
      rw [E28]; exact h7
    · show w1.2.1 31 (4 * d + i) = if d = e ∧ i < 4 then (gs_unP S k e).2 i else S.2.2.1 d i
      by_cases ee : d = e
      · subst ee; rw [if_pos ⟨rfl, hi⟩]; exact u5 i hi
      · rw [if_neg (fun z => ee z.1), u6 (4 * d + i) (by omega)]
        exact h8 d hd i hi
    · show w1.1 32 d = nI (if (2 : Nat) = 0 ∧ d = k then 0 else if (2 : Nat) = 0 ∧ d = e then 2 else if (2 : Nat) = 4 ∧ d = k then 0 else if (2 : Nat) = 2 ∧ d = e then (gs_unP S k e).1 else S.2.1 2 d) ∧ (if (2 : Nat) = 0 ∧ d = k then 0 else if (2 : Nat) = 0 ∧ d = e then 2 else if (2 : Nat) = 4 ∧ d = k then 0 else if (2 : Nat) = 2 ∧ d = e then (gs_unP S k e).1 else S.2.1 2 d) ≤ 60
      rw [if_neg (fun z => by omega), if_neg (fun z => by omega), if_neg (fun z => by omega), u2]
      by_cases ee : d = e
      · subst ee
        rw [gd_u_s, if_pos ⟨rfl, rfl⟩]
        exact ⟨rfl, Nat.le_trans (gs_nrm_le _ _) hp⟩
      · rw [gd_u_n ee, if_neg (fun z => ee z.2)]; exact h9 d hd
    · show w1.1 27 1 = _
      rw [E27]; exact h10
    · show w1.1 27 12 = _ ∧ _
      rw [E27]; exact h11
    · show w1.1 27 13 = _ ∧ _
      rw [E27]; exact h12
    · show w1.1 27 14 = _ ∧ _
      rw [E27]; exact h13
    · show ∀ j r, (gs_rd S)[j]? = some r → w1.1 37 j = nI r.1 ∧ w1.1 38 j = r.2.1 ∧ w1.1 39 j = nI r.2.2.1 ∧ w1.1 40 j = nI r.2.2.2
      rw [E37, E38, E39, E40]; exact h14
  · show w1.1 30 d = nI (X d)
    rw [u1 30 (by decide)]; exact hx d hd
