/-! The class's cells, behind the calls. -/
theorem gc_L.one {w w' : gd_W} {S S' : gs_T} {A A' : Nat → Option Nat} {l : List Nat} {o : Nat → Nat} (h : gc_L w S A l o) (hl : l.Pairwise (· < ·)) {j e E : Nat} (hj : l[j]? = some e) (hE : gr_E w' S' A' (o j) e E) (hs : ∀ d, d ∈ l → d ≠ e → gs_at S S' d ∧ A' d = A d)
    (h1 : ∀ a, a ≠ 4 + 3 * o j → a ≠ 5 + 3 * o j → 1 < a → a < 22 → w'.1 a = w.1 a) (h2 : ∀ a, a ≠ 6 + 3 * o j → 3 < a → a < 22 → w'.2.1 a = w.2.1 a) (h3 : w'.2.2 3 = w.2.2 3) : gc_L w' S' A' l o := by
  refine ⟨by rw [h1 2 (by omega) (by omega) (by omega) (by omega)]; exact h.1, by rw [h3]; exact h.2.1, h.2.2.1, fun i d hi => ?_⟩
  obtain ⟨i1, i2, i3, -, E0, hE0⟩ := h.got hi
  obtain ⟨j1, j2, j3, -⟩ := h.got hj
  by_cases e0 : i = j
  · subst e0
    rw [hi] at hj
    cases hj
    exact ⟨E, hE⟩
  · have hd : d ≠ e := fun z => by
      subst z
      obtain ⟨q1, r1⟩ := List.getElem?_eq_some_iff.mp hi
      obtain ⟨q2, r2⟩ := List.getElem?_eq_some_iff.mp hj
      rcases Nat.lt_or_gt_of_ne e0 with hh | hh
      · have := List.pairwise_iff_getElem.mp hl i j q1 q2 hh; omega
      · have := List.pairwise_iff_getElem.mp hl j i q2 q1 hh; omega
    have hne := h.off i2 j2 e0
    obtain ⟨s1, s2⟩ := hs d (List.mem_of_getElem? hi) hd
    exact ⟨E0, (hE0.s s1 s2).m (h1 _ (by omega) (by omega) (by omega) (by omega)) (h1 _ (by omega) (by omega) (by omega) (by omega)) (h2 _ (by omega) (by omega) (by omega))⟩
theorem gr_C.of {w w' : gd_W} {S S' : gs_T} {o o' : Nat → Nat} (h : gr_C w S o) (hL : gc_L w' S' (gs_aw S') (gs_al S') o') (hk : S'.1 = S.1) (hm : w'.1 2 2 = nI (gs_made S') ∧ gs_made S' ≤ 60) (h1 : w'.1 1 = w.1 1) (h0 : w'.2.1 0 = w.2.1 0) (ht : w'.1 0 5 = gs_time S') (h6 : w'.1 0 6 = nI (gs_out S')) (h7 : w'.1 0 7 = nI (gs_thr S')) (hr : gc_ring w' (gs_rd S')) : gr_C w' S' o' := by
  obtain ⟨-, -, c3, c4, -⟩ := h
  refine ⟨hL, hm, ?_, ?_, ht, h6, h7, hr⟩
  · show ∀ c, c < 64 → w'.1 1 c = nI (S'.1 c) ∧ S'.1 c < 8
    rw [h1, hk]; exact c3
  · show ∀ c, c < 64 → (gm_bit (w'.2.1 0 4) c = true ↔ S'.1 c = 1)
    rw [h0, hk]; exact c4
theorem gc_ring.keep {w w' : gd_W} {r : List gs_rt} (h : gc_ring w r) (h1 : w'.1 25 = w.1 25) (h2 : w'.1 26 = w.1 26) : gc_ring w' r := by
  unfold gc_ring at h ⊢
  rw [h1, h2]
  exact h
/-- .. where the scalars are the same -/
theorem gr_C.of2 {w w' : gd_W} {S S' : gs_T} {o o' : Nat → Nat} (h : gr_C w S o) (hL : gc_L w' S' (gs_aw S') (gs_al S') o') (hk : S'.1 = S.1) (hS : S'.2.2.2 = S.2.2.2) (h1 : ∀ a, a ≠ 3 → (a < 4 ∨ 24 < a) → a ≠ 2 → w'.1 a = w.1 a) (h22 : w'.1 2 2 = w.1 2 2) (h0 : w'.2.1 0 = w.2.1 0) : gr_C w' S' o' := by
  have h' := h
  obtain ⟨-, c2, -, -, c5, c6, c7, c8⟩ := h'
  refine h.of hL hk ⟨?_, ?_⟩ (h1 1 (by decide) (by decide) (by decide)) h0 ?_ ?_ ?_ ?_
  · rw [h22, gs_made, hS]; exact c2.1
  · rw [gs_made, hS]; exact c2.2
  · rw [h1 0 (by decide) (by decide) (by decide), gs_time, hS]; exact c5
  · rw [h1 0 (by decide) (by decide) (by decide), gs_out, hS]; exact c6
  · rw [h1 0 (by decide) (by decide) (by decide), gs_thr, hS]; exact c7
  · rw [gs_rd, hS]; exact c8.keep (h1 25 (by decide) (by decide) (by decide)) (h1 26 (by decide) (by decide) (by decide))
/-- a way was traced -/
theorem gr_E.route {w w' : gd_W} {S : gs_T} {A A' : Nat → Option Nat} {q k E en : Nat} {mv : Nat → Nat} (h : gr_E w S A q k E) (hen : en ≤ 60) (hmv : ∀ i, i < en → mv i < 5) (hA : A' k = A k) (h1 : w'.1 (4 + 3 * q) = upd (upd (w.1 (4 + 3 * q)) 6 (nI en)) 7 0) (h2 : ∀ i, i < en → w'.1 (5 + 3 * q) i = nI (mv i)) (h3 : w'.2.1 (6 + 3 * q) = w.2.1 (6 + 3 * q)) : gr_E w' (gs_route S k en mv) A' q k 0 := by
  obtain ⟨a1, a2, a3, a4, a5, a6, a7, a8, a9, a10⟩ := h
  have r : ∀ j, j ≠ 6 → j ≠ 7 → w'.1 (4 + 3 * q) j = w.1 (4 + 3 * q) j := fun j e6 e7 => by rw [h1, gd_u_n e7, gd_u_n e6]
  have f : ∀ a, a ≠ 3 → a < 5 → (gs_route S k en mv).2.1 a k = S.2.1 a k := fun a b c => gs_route_f b c
  refine ⟨by rw [r 2 (by decide) (by decide)]; exact a1, ?_, ?_, ?_, ?_, ?_, ?_, ?_, fun i hi => ?_, ?_⟩
  · rw [r 3 (by decide) (by decide), gs_c, f 1 (by decide) (by decide)]; exact a2
  · rw [r 4 (by decide) (by decide), gs_u, f 0 (by decide) (by decide)]; exact a3
  · rw [r 5 (by decide) (by decide), gs_p, f 2 (by decide) (by decide)]; exact a4
  · rw [gs_route_l, h1, gd_u_n (by decide), gd_u_s, Nat.zero_add]; exact ⟨rfl, hen⟩
  · rw [h1, gd_u_s]; rfl
  · rw [r 8 (by decide) (by decide), gs_i, f 4 (by decide) (by decide)]; exact a7
  · rw [r 9 (by decide) (by decide), hA]; exact a8
  · rw [gs_route_l] at hi
    rw [gs_route_m, Nat.zero_add]
    exact ⟨h2 i hi, hmv i hi⟩
  · rw [h3]; exact a10
theorem gs_route_al {S : gs_T} {k en : Nat} {mv : Nat → Nat} : gs_al (gs_route S k en mv) = gs_al S := by
  refine (gs_al_eq (gs_al_pair S) fun x => ?_).symm
  rw [gs_al_mem]
  unfold gs_alive
  by_cases e : x = k
  · subst e; rw [show gs_u (gs_route S x en mv) x = gs_u S x from gs_route_f (a := 0) (by decide) (by decide)]; exact Iff.rfl
  · rw [show gs_u (gs_route S k en mv) x = gs_u S x from (gs_route_at e).1 0]; exact Iff.rfl
theorem gr_C.route {w w' : gd_W} {S : gs_T} {o : Nat → Nat} (h : gr_C w S o) {ix k en : Nat} {mv : Nat → Nat} (hi : (gs_al S)[ix]? = some k) (hen : en ≤ 60) (hmv : ∀ i, i < en → mv i < 5) (h1 : w'.1 (4 + 3 * o ix) = upd (upd (w.1 (4 + 3 * o ix)) 6 (nI en)) 7 0) (h2 : ∀ i, i < en → w'.1 (5 + 3 * o ix) i = nI (mv i)) (h3 : ∀ a, a ≠ 4 + 3 * o ix → a ≠ 5 + 3 * o ix → w'.1 a = w.1 a) (h4 : ∀ a, a ≠ 24 → w'.2.1 a = w.2.1 a) (h5 : w'.2.2 = w.2.2) : gr_C w' (gs_route S k en mv) o := by
  obtain ⟨j1, j2, j3, j4, E, hE⟩ := h.1.got hi
  refine h.of2 ?_ rfl rfl (fun a b c d => h3 a (by omega) (by omega)) (by rw [h3 2 (by omega) (by omega)]) (h4 0 (by decide))
  rw [gs_route_al]
  exact h.1.one (gs_al_pair S) hi (hE.route hen hmv (gs_route_aw k) h1 h2 (h4 _ (by omega))) (fun d _ hd => ⟨gs_route_at hd, gs_route_aw d⟩) (fun a b c _ _ => h3 a b c) (fun a b _ _ => h4 a (by omega)) (by rw [h5])
/-- one goes to the other, which awaits it -/
theorem gr_C.join {w w' : gd_W} {S : gs_T} {o : Nat → Nat} {k e en ix iy : Nat} {mv : Nat → Nat} (h : gr_C w (gs_route S k en mv) o) (hi : (gs_al S)[ix]? = some k) (hy : (gs_al S)[iy]? = some e) (hke : k ≠ e) (haw : ∀ d, gs_aw (gs_fd (gs_route S k en mv) 4 k (e + 1)) d = if d = e then some k else gs_aw S d)
    (hw : w' = gd_rI (gd_rI w (4 + 3 * o ix) (upd (w.1 (4 + 3 * o ix)) 8 (nI e))) (4 + 3 * o iy) (upd ((gd_rI w (4 + 3 * o ix) (upd (w.1 (4 + 3 * o ix)) 8 (nI e))).1 (4 + 3 * o iy)) 9 (nI k))) : gr_C w' (gs_fd (gs_route S k en mv) 4 k (e + 1)) o := by
  have hi' : (gs_al (gs_route S k en mv))[ix]? = some k := by rw [gs_route_al]; exact hi
  have hy' : (gs_al (gs_route S k en mv))[iy]? = some e := by rw [gs_route_al]; exact hy
  obtain ⟨x1, x2, x3, x4, Ex, hEx⟩ := h.1.got hi'
  obtain ⟨y1, y2, y3, y4, Ey, hEy⟩ := h.1.got hy'
  have hxy : ix ≠ iy := fun z => by subst z; rw [hi] at hy; cases hy; exact hke rfl
  have hoo := h.1.off x2 y2 hxy
  have hke60 : k < 60 ∧ e < 60 := ⟨hEx.1.2, hEy.1.2⟩
  have hfat : ∀ x, x ≠ k → gs_at (gs_route S k en mv) (gs_fd (gs_route S k en mv) 4 k (e + 1)) x := fun x hx => ⟨fun f => by show (if f = 4 ∧ x = k then e + 1 else _) = _; rw [if_neg (fun z => hx z.2)], fun _ _ => rfl⟩
  have hff : ∀ a, a ≠ 4 → (gs_fd (gs_route S k en mv) 4 k (e + 1)).2.1 a k = (gs_route S k en mv).2.1 a k := fun a ha => by show (if a = 4 ∧ k = k then e + 1 else _) = _; rw [if_neg (fun z => ha z.1)]
  have hfi : gs_i (gs_fd (gs_route S k en mv) 4 k (e + 1)) k = e + 1 := by show (if (4 : Nat) = 4 ∧ k = k then e + 1 else _) = _; rw [if_pos ⟨rfl, rfl⟩]
  -- the comer
  have L1 : gc_L (gd_rI w (4 + 3 * o ix) (upd (w.1 (4 + 3 * o ix)) 8 (nI e))) (gs_fd (gs_route S k en mv) 4 k (e + 1)) (gs_aw (gs_route S k en mv)) (gs_al (gs_route S k en mv)) o := by
    refine h.1.one (gs_al_pair _) hi' (E := Ex) ?_ (fun d _ hd => ⟨hfat d hd, rfl⟩) (fun a b c _ _ => gd_rI_n b) (fun a b _ _ => rfl) rfl
    obtain ⟨a1, a2, a3, a4, a5, a6, a7, a8, a9, a10⟩ := hEx
    have r : ∀ j, j ≠ 8 → (gd_rI w (4 + 3 * o ix) (upd (w.1 (4 + 3 * o ix)) 8 (nI e))).1 (4 + 3 * o ix) j = w.1 (4 + 3 * o ix) j := fun j hj => by rw [gd_rI_s, gd_u_n hj]
    refine ⟨by rw [r 2 (by decide)]; exact a1, ?_, ?_, ?_, ?_, by rw [r 7 (by decide)]; exact a6, ?_, by rw [r 9 (by decide)]; exact a8, fun i hii => ?_, a10⟩
    · rw [r 3 (by decide), gs_c, hff 1 (by decide)]; exact a2
    · rw [r 4 (by decide), gs_u, hff 0 (by decide)]; exact a3
    · rw [r 5 (by decide), gs_p, hff 2 (by decide)]; exact a4
    · rw [r 6 (by decide), gs_l, hff 3 (by decide)]; exact a5
    · rw [hfi, gd_rI_s, gd_u_s]; exact ⟨rfl, by omega⟩
    · rw [gs_l, hff 3 (by decide)] at hii
      rw [gd_rI_n (by omega), gs_m, hff (5 + i) (by omega)]
      exact a9 i hii
  have hal : gs_al (gs_fd (gs_route S k en mv) 4 k (e + 1)) = gs_al (gs_route S k en mv) := by
    refine (gs_al_eq (gs_al_pair _) fun x => ?_).symm
    rw [gs_al_mem]
    have hux : gs_u (gs_fd (gs_route S k en mv) 4 k (e + 1)) x = gs_u (gs_route S k en mv) x := by
      show (if (0 : Nat) = 4 ∧ x = k then e + 1 else (gs_route S k en mv).2.1 0 x) = _
      rw [if_neg (fun z => by omega)]
    unfold gs_alive
    rw [hux]
    exact Iff.rfl
  refine h.of2 ?_ rfl rfl (fun a b c d => by rw [hw, gd_rI_n (by omega), gd_rI_n (by omega)]) (by rw [hw, gd_rI_n (by omega), gd_rI_n (by omega)]) (by rw [hw]; rfl)
  rw [hal]
  refine L1.one (gs_al_pair _) hy' (E := Ey) ?_ (fun d _ hd => ⟨gs_at.refl _ d, by rw [haw, if_neg hd, gs_route_aw]⟩) (fun a b c _ _ => by rw [hw]; exact gd_rI_n b) (fun a b _ _ => by rw [hw]; rfl) (by rw [hw]; rfl)
  obtain ⟨E1, hE1⟩ := (L1.got hy').2.2.2.2
  obtain ⟨a1, a2, a3, a4, a5, a6, a7, a8, a9, a10⟩ := hEy.s (hfat e (fun z => hke z.symm)) (A' := gs_aw (gs_route S k en mv)) rfl
  have r : ∀ j, j ≠ 9 → w'.1 (4 + 3 * o iy) j = w.1 (4 + 3 * o iy) j := fun j hj => by rw [hw, gd_rI_s, gd_u_n hj, gd_rI_n (by omega)]
  refine ⟨by rw [r 2 (by decide)]; exact a1, by rw [r 3 (by decide)]; exact a2, by rw [r 4 (by decide)]; exact a3, by rw [r 5 (by decide)]; exact a4, by rw [r 6 (by decide)]; exact a5, by rw [r 7 (by decide)]; exact a6, by rw [r 8 (by decide)]; exact a7, ?_, fun i hii => by rw [hw, gd_rI_n (by omega), gd_rI_n (by omega)]; exact a9 i hii, by rw [hw]; exact a10⟩
  rw [haw, if_pos rfl, hw, gd_rI_s, gd_u_s]
  exact ⟨rfl, fun x hx => by cases hx; exact hke60.1⟩
/-- a droplet is thrown away -/
theorem gr_C.disc {w w' : gd_W} {S : gs_T} {o : Nat → Nat} {k ix t : Nat} (h : gr_C w S o) (hi : (gs_al S)[ix]? = some k) (hik : gs_i S k = 0) (h0 : w'.1 = (gd_rI (gd_rI w 0 (upd (w.1 0) 7 (nI t))) 2 (upd ((gd_rI w 0 (upd (w.1 0) 7 (nI t))).1 2) 1 (nI ((gs_al S).length - 1)))).1) (h1 : w'.2.1 = w.2.1) (h2 : ∀ i, i < 6 → w'.2.2 3 i = some (4 + 3 * gc_rot o ix (gs_al S).length i)) : gr_C w' (gs_fd (gs_sc S 2 t) 0 k 0) (gc_rot o ix (gs_al S).length) := by
  have hal := gs_al_at hi
  have hl := (h.1.got hi).1
  have hat : ∀ x, x ≠ k → gs_at S (gs_fd (gs_sc S 2 t) 0 k 0) x := fun x hx => ⟨fun f => by show (if f = 0 ∧ x = k then 0 else S.2.1 f x) = _; rw [if_neg (fun z => hx z.2)], fun _ _ => rfl⟩
  have hu : gs_u (gs_fd (gs_sc S 2 t) 0 k 0) k = 0 := by show (if (0 : Nat) = 0 ∧ k = k then 0 else S.2.1 0 k) = _; rw [if_pos ⟨rfl, rfl⟩]
  have hdel : gs_al (gs_fd (gs_sc S 2 t) 0 k 0) = (gs_al S).eraseIdx ix := gs_al_del hi fun x => by
    by_cases e : x = k
    · subst e; exact ⟨fun z => by have := z.2; rw [hu] at this; omega, fun z => absurd rfl z.2⟩
    · unfold gs_alive
      rw [show gs_u (gs_fd (gs_sc S 2 t) 0 k 0) x = gs_u S x from (hat x e).1 0]
      exact ⟨fun z => ⟨z, e⟩, fun z => z.1⟩
  have hd := h.1
  have L : gc_L w' S (gs_aw S) ((gs_al S).eraseIdx ix) (gc_rot o ix (gs_al S).length) := by
    have L0 : gc_L (gd_rI w 0 (upd (w.1 0) 7 (nI t))) S (gs_aw S) (gs_al S) o :=
      ⟨by rw [gd_rI_n (by decide)]; exact hd.1, hd.2.1, hd.2.2.1, fun i d hi => (hd.2.2.2 i d hi).elim fun E hE => ⟨E, hE.m (gd_rI_n (by omega)) (gd_rI_n (by omega)) rfl⟩⟩
    exact L0.del hl h0 h1 h2
  have h' := h
  obtain ⟨-, c2, -, -, c5, c6, c7, c8⟩ := h'
  have r : ∀ a, a ≠ 0 → a ≠ 2 → w'.1 a = w.1 a := fun a e0 e2 => by rw [h0, gd_rI_n e2, gd_rI_n e0]
  have r0 : ∀ j, j ≠ 7 → w'.1 0 j = w.1 0 j := fun j hj => by rw [h0, gd_rI_n (by decide), gd_rI_s, gd_u_n hj]
  refine h.of ?_ rfl ⟨?_, c2.2⟩ (r 1 (by decide) (by decide)) (by rw [h1]) (by rw [r0 5 (by decide)]; exact c5) (by rw [r0 6 (by decide)]; exact c6) ?_ (c8.keep (r 25 (by decide) (by decide)) (r 26 (by decide) (by decide)))
  · rw [hdel]
    exact L.s fun d hdd => ⟨hat d ((gs_mem_erase (gs_al_pair S) hi d).mp hdd).2, gs_disc_aw hik d⟩
  · rw [h0, gd_rI_s, gd_u_n (by decide), gd_rI_n (by decide)]; exact c2.1
  · rw [h0, gd_rI_n (by decide), gd_rI_s, gd_u_s]; rfl
/-- what Living.add does -/
def gc_la (w w' : gd_W) (n q mk : Nat) (c0 : Int32) : Prop := (∀ a, a ≠ 2 → a ≠ 4 + 3 * q → w'.1 a = w.1 a) ∧ w'.1 (4 + 3 * q) = gc_new (w.1 (4 + 3 * q)) (nI mk) c0 ∧ (∀ j, j ≠ 1 → j ≠ 2 → w'.1 2 j = w.1 2 j) ∧ w'.1 2 1 = nI (n + 1) ∧ w'.1 2 2 = nI (mk + 1) ∧ w'.2 = w.2
/-- what Living.remove does -/
def gc_rm (w w' : gd_W) (n j0 : Nat) (o : Nat → Nat) : Prop := w'.1 = (gd_rI w 2 (upd (w.1 2) 1 (nI (n - 1)))).1 ∧ w'.2.1 = w.2.1 ∧ (∀ a, a ≠ 3 → w'.2.2 a = w.2.2 a) ∧ ∀ i, i < 6 → w'.2.2 3 i = some (4 + 3 * gc_rot o j0 n i)
theorem gc_L.add {w w1 w2 : gd_W} {S S' : gs_T} {A A' : Nat → Option Nat} {l : List Nat} {o : Nat → Nat} (h : gc_L w S A l o) (h6 : l.length < 6) {mk c p : Nat} {f : Nat → Int64} (hmk : mk < 60) (hc : c < 64) (hp : p ≤ 60) (a1 : gc_la w w1 l.length (o l.length) mk (nI c)) (n1 : gc_num (o l.length) w1 w2 p f)
    (s0 : gs_u S' mk = 1) (s1 : gs_c S' mk = c) (s2 : gs_p S' mk = p) (s3 : gs_l S' mk = 0) (s4 : gs_i S' mk = 0) (s5 : ∀ j, j < 4 → gs_sh S' mk j = f j) (hA : A' mk = none) (hs : ∀ d, d ∈ l → gs_at S S' d ∧ A' d = A d) : gc_L w2 S' A' (l ++ [mk]) o := by
  obtain ⟨b1, b2, b3, b4, b5, b6⟩ := a1
  refine h.push h6 (E := 0) (gr_E.new (f0 := w.1 (4 + 3 * o l.length)) hmk hc hp (fun j hj => by rw [n1.2.1 j hj, b2]) n1.2.2.1 (fun j hj => by rw [s5 j hj]; exact n1.2.2.2.2.2 j hj) s0 s1 s2 s3 s4 hA) hs (fun a q1 q2 q3 => ?_) (fun a q1 q2 q3 => ?_) ?_ ?_
  · rw [n1.1 a q1, b1 a (by omega) q1]
  · rw [n1.2.2.2.1 a q1, b6]
  · rw [n1.2.2.2.2.1, b6]
  · rw [n1.1 2 (by omega), b4]
theorem gc_L.rm {w w' : gd_W} {S : gs_T} {A : Nat → Option Nat} {l : List Nat} {o : Nat → Nat} (h : gc_L w S A l o) {j0 : Nat} (hj : j0 < l.length) (r : gc_rm w w' l.length j0 o) : gc_L w' S A (l.eraseIdx j0) (gc_rot o j0 l.length) := h.del hj r.1 r.2.1 r.2.2.2
/-- the two halves -/
theorem gr_C.half1 {w w1 w2 w3 w4 w5 : gd_W} {S H : gs_T} {o : Nat → Nat} {k a b ix n : Nat} (h : gr_C w S o) (hG : gs_Good S) (hi : (gs_al S)[ix]? = some k) (hn : (gs_al S).length = n) (h6 : n < 6) (hm : gs_made S < 59) (ha : a < 64) (hb : b < 64)
    (e1 : H.1 = S.1) (em : gs_made H = gs_made S + 2) (et : H.2.2.2.2 = S.2.2.2.2) (eo : gs_out H = gs_out S) (eh : gs_thr H = gs_thr S) (hN0 : ∀ f, f < 5 → H.2.1 f (gs_made S) = if f = 0 then 1 else if f = 1 then a else if f = 2 then gs_p S k else 0) (hN1 : ∀ f, f < 5 → H.2.1 f (gs_made S + 1) = if f = 0 then 1 else if f = 1 then b else if f = 2 then gs_p S k else 0)
    (hNs : ∀ j, j < 4 → gs_sh H (gs_made S) j = gs_sh S k j ∧ gs_sh H (gs_made S + 1) j = gs_sh S k j) (hawS : ∀ d, gs_aw H d = gs_aw S d) (hat : ∀ x, x < gs_made S → x ≠ k → gs_at S H x) (hali : ∀ x, gs_alive H x ↔ (gs_alive S x ∧ x ≠ k) ∨ x = gs_made S ∨ x = gs_made S + 1)
    (a1 : gc_la w w1 n (o n) (gs_made S) (nI a)) (n1 : gc_num (o n) w1 w2 (gs_p S k) (gs_sh S k)) (r : gc_rm w2 w3 (n + 1) ix o) (a2 : gc_la w3 w4 n (gc_rot o ix (n + 1) n) (gs_made S + 1) (nI b)) (n2 : gc_num (gc_rot o ix (n + 1) n) w4 w5 (gs_p S k) (gs_sh S k)) : gr_C w5 H (gc_rot o ix (n + 1)) := by
  have hal := gs_al_at hi
  obtain ⟨i1, i2, i3, i4, E, hE⟩ := h.1.got hi
  have hkm : k < gs_made S := hal.1
  have hpk : gs_p S k ≤ 60 := hE.2.2.2.1.2
  have haw0 : ∀ d, gs_made S ≤ d → gs_aw S d = none := fun d hd => hG.aw_dead (fun z => by have := z.1; omega)
  have hlen : (gs_al S ++ [gs_made S]).length = n + 1 := by rw [List.length_append, hn]; rfl
  have hlen2 : ((gs_al S ++ [gs_made S]).eraseIdx ix).length = n := by rw [List.length_eraseIdx, if_pos (by omega), hlen]; rfl
  obtain ⟨S1, hS1⟩ : ∃ S1 : gs_T, S1 = (H.1, fun f x => if x = k then S.2.1 f x else H.2.1 f x, fun x j => if x = k then S.2.2.1 x j else H.2.2.1 x j, H.2.2.2) := ⟨_, rfl⟩
  have q1 : ∀ f x, x ≠ k → S1.2.1 f x = H.2.1 f x := fun f x hx => by rw [hS1]; exact if_neg hx
  have q2 : ∀ x j, x ≠ k → S1.2.2.1 x j = H.2.2.1 x j := fun x j hx => by rw [hS1]; exact if_neg hx
  have hk1 : gs_at S S1 k := ⟨fun f => by rw [hS1]; exact if_pos rfl, fun j _ => by rw [hS1]; exact if_pos rfl⟩
  have h1H : ∀ x, x ≠ k → gs_at S1 H x := fun x hx => ⟨fun f => (q1 f x hx).symm, fun j _ => (q2 x j hx).symm⟩
  have hS1at : ∀ x, x < gs_made S → gs_at S S1 x := fun x hx => by
    by_cases e : x = k
    · subst e; exact hk1
    · exact (hat x hx e).trans (h1H x e).symm
  have hmk : gs_made S ≠ k := by omega
  have a1' : gc_la w w1 (gs_al S).length (o (gs_al S).length) (gs_made S) (nI a) := by rw [hn]; exact a1
  have n1' : gc_num (o (gs_al S).length) w1 w2 (gs_p S k) (gs_sh S k) := by rw [hn]; exact n1
  have L1 : gc_L w2 S1 (gs_aw S) (gs_al S ++ [gs_made S]) o := h.1.add (by omega) (by omega) ha hpk a1' n1' ((q1 0 _ hmk).trans (hN0 0 (by omega))) ((q1 1 _ hmk).trans (hN0 1 (by omega))) ((q1 2 _ hmk).trans (hN0 2 (by omega))) ((q1 3 _ hmk).trans (hN0 3 (by omega))) ((q1 4 _ hmk).trans (hN0 4 (by omega))) (fun j hj => (q2 _ j hmk).trans (hNs j hj).1) (haw0 _ (Nat.le_refl _)) (fun d hd => ⟨hS1at d (gs_al_mem.mp hd).1, rfl⟩)
  have L2 : gc_L w3 S1 (gs_aw S) ((gs_al S ++ [gs_made S]).eraseIdx ix) (gc_rot o ix (n + 1)) := by
    have := L1.rm (j0 := ix) (by omega) (by rw [hlen]; exact r)
    rw [hlen] at this
    exact this
  have hpw : (gs_al S ++ [gs_made S]).Pairwise (· < ·) := by
    rw [List.pairwise_append]
    refine ⟨gs_al_pair S, by simp, fun x hx y hy => ?_⟩
    rw [List.mem_singleton] at hy
    have := (gs_al_mem.mp hx).1
    omega
  have hi' : (gs_al S ++ [gs_made S])[ix]? = some k := by rw [List.getElem?_append_left (by omega)]; exact hi
  have hmem : ∀ x, x ∈ (gs_al S ++ [gs_made S]).eraseIdx ix ↔ (gs_alive S x ∨ x = gs_made S) ∧ x ≠ k := fun x => by
    rw [gs_mem_erase hpw hi', List.mem_append, List.mem_singleton, gs_al_mem]
  have L3 : gc_L w5 H (gs_aw H) ((gs_al S ++ [gs_made S]).eraseIdx ix ++ [gs_made S + 1]) (gc_rot o ix (n + 1)) := by
    refine L2.add (by omega) (by omega) hb hpk (by rw [hlen2]; exact a2) (by rw [hlen2]; exact n2) (hN1 0 (by omega)) (hN1 1 (by omega)) (hN1 2 (by omega)) (hN1 3 (by omega)) (hN1 4 (by omega)) (fun j hj => (hNs j hj).2) (by rw [hawS]; exact haw0 _ (by omega)) (fun d hd => ⟨h1H d ((hmem d).mp hd).2, hawS d⟩)
  have hfin : (gs_al S ++ [gs_made S]).eraseIdx ix ++ [gs_made S + 1] = gs_al H := by
    refine gs_al_eq ?_ fun x => ?_
    · rw [List.pairwise_append]
      refine ⟨List.Pairwise.sublist (List.eraseIdx_sublist _ _) hpw, by simp, fun x hx y hy => ?_⟩
      rw [List.mem_singleton] at hy
      rcases ((hmem x).mp hx).1 with z | z
      · have := z.1; omega
      · omega
    · rw [List.mem_append, List.mem_singleton, hmem, hali]
      constructor
      · rintro (⟨z | z, e⟩ | z)
        · exact Or.inl ⟨z, e⟩
        · exact Or.inr (Or.inl z)
        · exact Or.inr (Or.inr z)
      · rintro (⟨z, e⟩ | z | z)
        · exact Or.inl ⟨Or.inl z, e⟩
        · exact Or.inl ⟨Or.inr z, by omega⟩
        · exact Or.inr z
  rw [hfin] at L3
  obtain ⟨b1, b2, b3, b4, b5, b6⟩ := a1
  obtain ⟨d1, d2, d3, d4, d5, d6⟩ := a2
  have ho1 : o n < 6 := (h.1.2.1 n h6).2
  have ho2 : gc_rot o ix (n + 1) n < 6 := (L2.2.1 n h6).2
  have row : ∀ x, x ≠ 2 → (x < 4 ∨ 21 < x) → w5.1 x = w.1 x := fun x e2 e => by
    rw [n2.1 x (by omega), d1 x e2 (by omega), r.1, gd_rI_n e2, n1.1 x (by omega), b1 x e2 (by omega)]
  have lon : w5.2.1 0 = w.2.1 0 := by rw [n2.2.2.2.1 0 (by omega), d6, r.2.1, n1.2.2.2.1 0 (by omega), b6]
  have h' := h
  obtain ⟨-, c2, -, -, c5, c6, c7, c8⟩ := h'
  refine h.of L3 e1 ⟨by rw [n2.1 2 (by omega), d5, em], by rw [em]; omega⟩ (row 1 (by decide) (by decide)) lon (by rw [row 0 (by decide) (by decide), gs_time, et]; exact c5) (by rw [row 0 (by decide) (by decide), eo]; exact c6) (by rw [row 0 (by decide) (by decide), eh]; exact c7) ?_
  rw [gs_rd, et]
  exact c8.keep (row 25 (by decide) (by decide)) (row 26 (by decide) (by decide))
theorem gs_halfS_keep {S : gs_T} {k a b : Nat} : (gs_halfS S k a b).1 = S.1 ∧ gs_made (gs_halfS S k a b) = gs_made S + 2 ∧ (gs_halfS S k a b).2.2.2.2 = S.2.2.2.2 ∧ gs_out (gs_halfS S k a b) = gs_out S ∧ gs_thr (gs_halfS S k a b) = gs_thr S := by
  refine ⟨?_, gs_halfS_made, ?_, ?_, ?_⟩
  · simp only [gs_halfS, gs_fd, gs_sh4, gs_sset, gs_add, gs_sc]
  · rw [gs_halfS_sc]
  · rw [gs_out, gs_halfS_sc]; rfl
  · rw [gs_thr, gs_halfS_sc]; rfl
theorem gr_C.half {w w1 w2 w3 w4 w5 : gd_W} {S : gs_T} {o : Nat → Nat} {k a b ix n : Nat} (h : gr_C w S o) (hG : gs_Good S) (hi : (gs_al S)[ix]? = some k) (hn : (gs_al S).length = n) (h6 : n < 6) (hm : gs_made S < 59) (ha : a < 64) (hb : b < 64) (hik : gs_i S k = 0)
    (a1 : gc_la w w1 n (o n) (gs_made S) (nI a)) (n1 : gc_num (o n) w1 w2 (gs_p S k) (gs_sh S k)) (r : gc_rm w2 w3 (n + 1) ix o) (a2 : gc_la w3 w4 n (gc_rot o ix (n + 1) n) (gs_made S + 1) (nI b)) (n2 : gc_num (gc_rot o ix (n + 1) n) w4 w5 (gs_p S k) (gs_sh S k)) : gr_C w5 (gs_halfS S k a b) (gc_rot o ix (n + 1)) :=
  have hh := gs_halfS_keep (S := S) (k := k) (a := a) (b := b)
  gr_C.half1 (H := gs_halfS S k a b) (a := a) (b := b) h hG hi hn h6 hm ha hb hh.1 hh.2.1 hh.2.2.1 hh.2.2.2.1 hh.2.2.2.2 (fun f hf => gs_halfS_0 f hf) (fun f hf => gs_halfS_1 f hf) (fun j hj => gs_halfS_sh j hj) (fun d => gs_half_aw (gs_al_at hi) hik d) (fun x hx he => gs_halfS_at (by omega) (by omega) he) (fun x => gs_halfS_alive (gs_al_at hi)) a1 n1 r a2 n2
/-! One step. -/
def gc_mf (w w' : gd_W) : Prop := (∀ a, a < 4 ∨ 21 < a → w'.1 a = w.1 a) ∧ w'.2 = w.2
def gs_mvd (S : gs_T) (d : Nat) : Bool := decide (0 < gs_l S d ∧ gs_m S d 0 ≠ 0)
/-- the objects' marks of having moved -/
def gc_fl (w : gd_W) (o : Nat → Nat) (l : List Nat) (F : Nat → Bool) : Prop := ∀ j d, l[j]? = some d → w.1 (4 + 3 * o j) 10 = gs_b (F d)
/-- what makeMove does -/
def gc_mk (w w' : gd_W) (S : gs_T) (q d E : Nat) : Prop := (∀ a, a ≠ 4 + 3 * q → w'.1 a = w.1 a) ∧ w'.2 = w.2 ∧ (∀ j, j ≠ 3 → j ≠ 7 → j ≠ 10 → w'.1 (4 + 3 * q) j = w.1 (4 + 3 * q) j) ∧ w'.1 (4 + 3 * q) 3 = nI (if 0 < gs_l S d then (gm_mv (gs_c S d) (gs_m S d 0)).getD 0 else gs_c S d) ∧ w'.1 (4 + 3 * q) 7 = nI (if 0 < gs_l S d then E + 1 else E) ∧ w'.1 (4 + 3 * q) 10 = gs_b (decide (0 < gs_l S d ∧ gs_m S d 0 ≠ 0))
theorem gr_E.moved {w w' : gd_W} {S : gs_T} {A : Nat → Option Nat} {q d E : Nat} (h : gr_E w S A q d E) (hd : gs_alive S d) (hw : gv_way S d) (hm : gc_mk w w' S q d E) : gr_E w' (gs_s1 S) A q d (if 0 < gs_l S d then E + 1 else E) := by
  obtain ⟨a1, a2, a3, a4, a5, a6, a7, a8, a9, a10⟩ := h
  obtain ⟨m1, m2, m3, m4, m5, m6⟩ := hm
  have hc : gs_c (gs_s1 S) d = (if 0 < gs_l S d then (gm_mv (gs_c S d) (gs_m S d 0)).getD 0 else gs_c S d) ∧ gs_c (gs_s1 S) d < 64 ∧ gs_l (gs_s1 S) d = gs_l S d - 1 ∧ ∀ k, k < gs_l S d - 1 → gs_m (gs_s1 S) d k = gs_m S d (k + 1) := by
    by_cases hl : 0 < gs_l S d
    · obtain ⟨c', q1, q2, q3, q4, q5⟩ := gs_s1_go hd hl hw
      rw [if_pos hl, q3, q2, q4, q5]
      exact ⟨rfl, q1, rfl, fun k _ => rfl⟩
    · obtain ⟨q1, q2⟩ := gs_s1_rest (show gs_l S d = 0 by omega)
      rw [if_neg hl, q1, q2]
      exact ⟨rfl, a2.2, by omega, fun k hk => by omega⟩
  obtain ⟨hc1, hc2, hc3, hc4⟩ := hc
  refine ⟨by rw [m3 2 (by decide) (by decide) (by decide)]; exact a1, ⟨by rw [m4, hc1], hc2⟩, by rw [m3 4 (by decide) (by decide) (by decide), gs_s1_u]; exact a3, by rw [m3 5 (by decide) (by decide) (by decide), gs_s1_p]; exact a4, ?_, m5, by rw [m3 8 (by decide) (by decide) (by decide), gs_s1_i]; exact a7, by rw [m3 9 (by decide) (by decide) (by decide)]; exact a8, fun k hk => ?_, ?_⟩
  · rw [m3 6 (by decide) (by decide) (by decide), hc3]
    split
    · rename_i hl
      rw [show E + 1 + (gs_l S d - 1) = E + gs_l S d by omega]; exact a5
    · rename_i hl
      rw [show E + (gs_l S d - 1) = E + gs_l S d by omega]; exact a5
  · rw [hc3] at hk
    rw [m1 _ (by omega), hc4 k hk, if_pos (by omega), show E + 1 + k = E + (k + 1) by omega]
    exact a9 (k + 1) (by omega)
  · intro k hk
    rw [m2]
    exact a10 k hk
def gc_mi (S : gs_T) (o : Nat → Nat) (w0 w : gd_W) (i : Nat) : Prop := gc_mf w0 w ∧ ∀ j d, (gs_al S)[j]? = some d → (j < i → (∃ E, gr_E w (gs_s1 S) (gs_aw S) (o j) d E) ∧ w.1 (4 + 3 * o j) 10 = gs_b (gs_mvd S d)) ∧ (i ≤ j → ∃ E, gr_E w S (gs_aw S) (o j) d E)
theorem gc_mi.zero {S : gs_T} {o : Nat → Nat} {w : gd_W} (h : gc_L w S (gs_aw S) (gs_al S) o) : gc_mi S o w w 0 :=
  ⟨⟨fun _ _ => rfl, rfl⟩, fun j d hj => ⟨fun z => by omega, fun _ => h.2.2.2 j d hj⟩⟩
theorem gc_mi.step {S : gs_T} {o : Nat → Nat} {w0 w w' : gd_W} {i d E : Nat} (h : gc_mi S o w0 w i) (hL : gc_L w0 S (gs_aw S) (gs_al S) o) (hi : (gs_al S)[i]? = some d) (hE : gr_E w S (gs_aw S) (o i) d E) (hw : gv_way S d) (hm : gc_mk w w' S (o i) d E) : gc_mi S o w0 w' (i + 1) := by
  obtain ⟨i1, i2, i3, -⟩ := hL.got hi
  refine ⟨⟨fun a ha => by rw [hm.1 a (by omega)]; exact h.1.1 a ha, hm.2.1.trans h.1.2⟩, fun j x hj => ?_⟩
  obtain ⟨j1, j2, j3, -⟩ := hL.got hj
  by_cases e : j = i
  · subst e
    rw [hi] at hj
    cases hj
    exact ⟨fun _ => ⟨⟨_, hE.moved (gs_al_at hi) hw hm⟩, hm.2.2.2.2.2⟩, fun z => by omega⟩
  · have hne := hL.off j2 i2 e
    have r1 : w'.1 (4 + 3 * o j) = w.1 (4 + 3 * o j) := hm.1 _ (by omega)
    have r2 : w'.1 (5 + 3 * o j) = w.1 (5 + 3 * o j) := hm.1 _ (by omega)
    have r3 : w'.2.1 (6 + 3 * o j) = w.2.1 (6 + 3 * o j) := by rw [hm.2.1]
    refine ⟨fun z => ?_, fun z => ?_⟩
    · obtain ⟨⟨E1, hE1⟩, hf⟩ := (h.2 j x hj).1 (by omega)
      exact ⟨⟨E1, hE1.m r1 r2 r3⟩, by rw [r1]; exact hf⟩
    · obtain ⟨E1, hE1⟩ := (h.2 j x hj).2 (by omega)
      exact ⟨E1, hE1.m r1 r2 r3⟩
theorem gs_s1_al {S : gs_T} : gs_al (gs_s1 S) = gs_al S := (gs_al_eq (gs_al_pair S) fun x => by rw [gs_al_mem, gs_s1_alive]).symm
theorem gc_mi.done {S : gs_T} {o : Nat → Nat} {w0 w : gd_W} {i : Nat} (h : gc_mi S o w0 w i) (hL : gc_L w0 S (gs_aw S) (gs_al S) o) (hi : (gs_al S).length ≤ i) : gc_L w (gs_s1 S) (gs_aw (gs_s1 S)) (gs_al (gs_s1 S)) o ∧ gc_fl w o (gs_al (gs_s1 S)) (gs_mvd S) := by
  rw [gs_s1_al, show gs_aw (gs_s1 S) = gs_aw S from funext gs_s1_aw]
  refine ⟨⟨by rw [h.1.1 2 (by decide)]; exact hL.1, by rw [h.1.2]; exact hL.2.1, hL.2.2.1, fun j d hj => ?_⟩, fun j d hj => ?_⟩
  · exact ((h.2 j d hj).1 (by have := (hL.got hj).1; omega)).1
  · exact ((h.2 j d hj).1 (by have := (hL.got hj).1; omega)).2
/-! Those that have come. -/
theorem gc_fl.rm {w w' : gd_W} {o : Nat → Nat} {l : List Nat} {F : Nat → Bool} (h : gc_fl w o l F) {j0 : Nat} (r : gc_rm w w' l.length j0 o) (_ : j0 < l.length) : gc_fl w' (gc_rot o j0 l.length) (l.eraseIdx j0) F := by
  intro i d hi
  have row : ∀ a, a ≠ 2 → w'.1 a = w.1 a := fun a ha => by rw [r.1, gd_rI_n ha]
  rw [row _ (by omega)]
  rw [List.getElem?_eraseIdx] at hi
  split at hi
  · rename_i hlt
    rw [show gc_rot o j0 l.length i = o i by unfold gc_rot; rw [if_pos hlt]]
    exact h i d hi
  · rename_i hlt
    have hl : i + 1 < l.length := (List.getElem?_eq_some_iff.mp hi).1
    rw [show gc_rot o j0 l.length i = o (i + 1) by unfold gc_rot; rw [if_neg hlt, if_pos hl]]
    exact h (i + 1) d hi
/-- k has gone into e -/
theorem gr_C.unite {w w1 w2 w3 : gd_W} {S : gs_T} {o : Nat → Nat} {k e ix iy : Nat} {F : Nat → Bool} (h : gr_C w S o) (hG : gs_Go S) (hf : gc_fl w o (gs_al S) F) (hi : (gs_al S)[ix]? = some k) (hy : (gs_al S)[iy]? = some e) (hie : gs_i S k = e + 1) (t : gc_num (o iy) w w1 (gs_unP S k e).1 (gs_unP S k e).2)
    (t2 : w2 = gd_rI w1 (4 + 3 * o iy) (upd (upd (w1.1 (4 + 3 * o iy)) 4 (nI 2)) 9 (-1))) (r : gc_rm w2 w3 (gs_al S).length ix o) : gr_C w3 (gs_unS S k e) (gc_rot o ix (gs_al S).length) ∧ gc_fl w3 (gc_rot o ix (gs_al S).length) (gs_al (gs_unS S k e)) F ∧ gs_al (gs_unS S k e) = (gs_al S).eraseIdx ix := by
  have hk := gs_al_at hi
  have he := gs_al_at hy
  obtain ⟨z1, z2, z3, z4, z5, z6, z7⟩ := hG.into hk (by omega)
  rw [show gs_i S k - 1 = e by omega] at z1 z2 z3 z4 z6
  obtain ⟨x1, x2, x3, x4, Ex, hEx⟩ := h.1.got hi
  obtain ⟨y1, y2, y3, y4, Ey, hEy⟩ := h.1.got hy
  have hG' := gs_unS_Go hG hk hie
  have hal : gs_al (gs_unS S k e) = (gs_al S).eraseIdx ix := gs_al_del hi (gs_unS_al hG hk hie)
  have haw := fun x => gs_unS_aw hG hk hie (x := x)
  obtain ⟨S1, hS1⟩ : ∃ S1 : gs_T, S1 = (S.1, fun f x => if x = k then S.2.1 f x else (gs_unS S k e).2.1 f x, fun x j => if x = k then S.2.2.1 x j else (gs_unS S k e).2.2.1 x j, S.2.2.2) := ⟨_, rfl⟩
  have q1 : ∀ f x, x ≠ k → S1.2.1 f x = (gs_unS S k e).2.1 f x := fun f x hx => by rw [hS1]; exact if_neg hx
  have q2 : ∀ x j, x ≠ k → S1.2.2.1 x j = (gs_unS S k e).2.2.1 x j := fun x j hx => by rw [hS1]; exact if_neg hx
  have hk1 : gs_at S S1 k := ⟨fun f => by rw [hS1]; exact if_pos rfl, fun j _ => by rw [hS1]; exact if_pos rfl⟩
  have h1U : ∀ x, x ≠ k → gs_at S1 (gs_unS S k e) x := fun x hx => ⟨fun f => (q1 f x hx).symm, fun j _ => (q2 x j hx).symm⟩
  have hp' : gs_p (gs_unS S k e) e ≤ 60 := by
    have := hG'.2.2.1 e ((gs_unS_al hG hk hie e).mpr ⟨he, z2⟩)
    have := hG'.2.1
    omega
  have u0 : S1.2.1 0 e = 2 := by rw [q1 0 e z2, gs_unS_f, if_neg (fun z => z2 z.2), if_pos ⟨rfl, rfl⟩]
  have u2 : S1.2.1 2 e = (gs_unP S k e).1 := by rw [q1 2 e z2, gs_unS_f, if_neg (fun z => by omega), if_neg (fun z => by omega), if_neg (fun z => by omega), if_pos ⟨rfl, rfl⟩]
  have uf : ∀ f, f ≠ 0 → f ≠ 2 → S1.2.1 f e = S.2.1 f e := fun f e0 e2 => by rw [q1 f e z2, gs_unS_f, if_neg (fun z => e0 z.1), if_neg (fun z => e0 z.1), if_neg (fun z => z2 z.2), if_neg (fun z => e2 z.1)]
  have us : ∀ j, j < 4 → S1.2.2.1 e j = (gs_unP S k e).2 j := fun j hj => by rw [q2 e j z2]; exact if_pos ⟨rfl, hj⟩
  have rr : ∀ j, j ≠ 4 → j ≠ 9 → j ≠ 5 → w2.1 (4 + 3 * o iy) j = w.1 (4 + 3 * o iy) j := fun j e4 e9 e5 => by rw [t2, gd_rI_s, gd_u_n e9, gd_u_n e4, t.2.1 j e5]
  have L1 : gc_L w2 S1 (fun x => if x = e then none else gs_aw S x) (gs_al S) o := by
    refine h.1.one (gs_al_pair S) hy (E := Ey) ?_ (fun d _ hd => ⟨?_, if_neg hd⟩) (fun a b c _ _ => by rw [t2, gd_rI_n b, t.1 a b]) (fun a b _ _ => by rw [t2]; exact t.2.2.2.1 a b) (by rw [t2]; show w1.2.2 3 = _; rw [t.2.2.2.2.1])
    · obtain ⟨a1, a2, a3, a4, a5, a6, a7, a8, a9, a10⟩ := hEy
      refine ⟨by rw [rr 2 (by decide) (by decide) (by decide)]; exact a1, ?_, ?_, ?_, ?_, by rw [rr 7 (by decide) (by decide) (by decide)]; exact a6, ?_, ?_, fun i hii => ?_, fun j hj => ?_⟩
      · rw [rr 3 (by decide) (by decide) (by decide), gs_c, uf 1 (by decide) (by decide)]; exact a2
      · rw [gs_u, u0, t2, gd_rI_s, gd_u_n (by decide), gd_u_s]; exact ⟨rfl, by omega⟩
      · rw [gs_p, u2, t2, gd_rI_s, gd_u_n (by decide), gd_u_n (by decide), t.2.2.1]
        refine ⟨rfl, ?_⟩
        rw [← u2, q1 2 e z2]; exact hp'
      · rw [rr 6 (by decide) (by decide) (by decide), gs_l, uf 3 (by decide) (by decide)]; exact a5
      · rw [rr 8 (by decide) (by decide) (by decide), gs_i, uf 4 (by decide) (by decide)]; exact a7
      · rw [t2, gd_rI_s, gd_u_s]
        refine ⟨?_, fun x hx => ?_⟩
        · show (-1 : Int32) = gm_nO (if e = e then none else gs_aw S e)
          rw [if_pos rfl]; rfl
        · rw [show (fun x => if x = e then none else gs_aw S x) e = none from if_pos rfl] at hx
          cases hx
      · rw [gs_l, uf 3 (by decide) (by decide)] at hii
        rw [gs_m, uf (5 + i) (by omega) (by omega), t2, gd_rI_n (by omega), t.1 _ (by omega)]
        exact a9 i hii
      · rw [gs_sh, us j hj, t2]
        exact t.2.2.2.2.2 j hj
    · by_cases ek : d = k
      · subst ek; exact hk1
      · exact (gs_unS_at ek hd).trans (h1U d ek).symm
  have f1 : gc_fl w2 o (gs_al S) F := fun j d hj => by
    by_cases ej : j = iy
    · subst ej
      rw [rr 10 (by decide) (by decide) (by decide)]
      exact hf j d hj
    · have hj6 := (h.1.got hj).2.1
      have hne := h.1.off hj6 y2 ej
      rw [t2, gd_rI_n (by omega), t.1 _ (by omega)]
      exact hf j d hj
  have L2 := L1.rm x1 r
  refine ⟨?_, by rw [hal]; exact f1.rm r x1, hal⟩
  have row : ∀ a, a ≠ 2 → (a < 4 ∨ 21 < a) → w3.1 a = w.1 a := fun a e2 ha => by rw [r.1, gd_rI_n e2, t2, gd_rI_n (by omega), t.1 a (by omega)]
  refine h.of2 ?_ rfl rfl (fun a b c d => row a d (by omega)) ?_ ?_
  · rw [hal]
    exact L2.s fun d hd => ⟨h1U d ((gs_mem_erase (gs_al_pair S) hi d).mp hd).2, haw d⟩
  · rw [r.1, gd_rI_s, gd_u_n (by decide), t2, gd_rI_n (by omega), t.1 2 (by omega)]
  · rw [r.2.1, t2]
    exact t.2.2.2.1 0 (by omega)
/-- those from place i on were dealt with -/
def gc_ji (S : gs_T) (F : Nat → Bool) (w0 w : gd_W) (i : Nat) : Prop := ∃ (P : Nat → Bool) (o : Nat → Nat), gr_C w (gs_unC S P) o ∧ gs_Go (gs_unC S P) ∧ (∀ j x, (gs_al S)[j]? = some x → (P x = true ↔ i ≤ j)) ∧ (∀ j, j < i → (gs_al (gs_unC S P))[j]? = (gs_al S)[j]?) ∧ gc_fl w o (gs_al (gs_unC S P)) F ∧ gf_c w0 w
theorem gc_ji.start {S : gs_T} {F : Nat → Bool} {w : gd_W} {o : Nat → Nat} (h : gr_C w S o) (hG : gs_Go S) (hf : gc_fl w o (gs_al S) F) {i : Nat} (hi : i = (gs_al S).length) : gc_ji S F w w i := by
  refine ⟨fun _ => false, o, ?_⟩
  rw [gs_unC_none (fun k => rfl)]
  refine ⟨h, hG, fun j x hj => ?_, fun j _ => rfl, hf, gf_c.refl w⟩
  have := (List.getElem?_eq_some_iff.mp hj).1
  exact ⟨fun z => (by cases z), fun z => by omega⟩
/-- one that has not come -/
theorem gc_ji.skip {S : gs_T} {F : Nat → Bool} {w0 w : gd_W} {i d : Nat} {P : Nat → Bool} {o : Nat → Nat} (h1 : gr_C w (gs_unC S P) o) (h2 : gs_Go (gs_unC S P)) (h3 : ∀ j x, (gs_al S)[j]? = some x → (P x = true ↔ i + 1 ≤ j)) (h4 : ∀ j, j < i + 1 → (gs_al (gs_unC S P))[j]? = (gs_al S)[j]?) (h5 : gc_fl w o (gs_al (gs_unC S P)) F) (h6 : gf_c w0 w) (hd : (gs_al S)[i]? = some d) (hn : ¬ (0 < gs_i S d ∧ gs_l S d = 0)) : gc_ji S F w0 w i := by
  have e : gs_unC S (fun x => P x || decide (x = d)) = gs_unC S P := gs_unC_congr fun k => by
    unfold gs_unB
    by_cases ek : k = d
    · subst ek
      rw [decide_eq_false (show ¬ (k < gs_made S ∧ 0 < gs_u S k ∧ 0 < gs_i S k ∧ gs_l S k = 0) from fun z => hn z.2.2), Bool.and_false, Bool.and_false]
    · rw [show (fun x => P x || decide (x = d)) k = P k by show (P k || decide (k = d)) = P k; rw [decide_eq_false ek, Bool.or_false]]
  refine ⟨fun x => P x || decide (x = d), o, ?_⟩
  rw [e]
  refine ⟨h1, h2, fun j x hj => ?_, fun j hj => h4 j (by omega), h5, h6⟩
  have := h3 j x hj
  rw [Bool.or_eq_true, decide_eq_true_iff, this]
  constructor
  · rintro (z | z)
    · omega
    · subst z; have := gs_al_idx hj hd; omega
  · intro z
    by_cases ej : j = i
    · subst ej; rw [hd] at hj; cases hj; exact Or.inr rfl
    · exact Or.inl (by omega)
/-- one that has come -/
theorem gc_ji.take {S : gs_T} {F : Nat → Bool} {w0 w w1 w2 w3 : gd_W} {i d e iy : Nat} {P : Nat → Bool} {o : Nat → Nat} (hG : gs_Go S) (h1 : gr_C w (gs_unC S P) o) (h2 : gs_Go (gs_unC S P)) (h3 : ∀ j x, (gs_al S)[j]? = some x → (P x = true ↔ i + 1 ≤ j)) (h4 : ∀ j, j < i + 1 → (gs_al (gs_unC S P))[j]? = (gs_al S)[j]?) (h5 : gc_fl w o (gs_al (gs_unC S P)) F) (h6 : gf_c w0 w) (hd : (gs_al S)[i]? = some d) (hi : gs_i S d = e + 1) (hl : gs_l S d = 0) (hiP : gs_i (gs_unC S P) d = e + 1) (hy : (gs_al (gs_unC S P))[iy]? = some e)
    (t : gc_num (o iy) w w1 (gs_unP (gs_unC S P) d e).1 (gs_unP (gs_unC S P) d e).2) (t2 : w2 = gd_rI w1 (4 + 3 * o iy) (upd (upd (w1.1 (4 + 3 * o iy)) 4 (nI 2)) 9 (-1))) (r : gc_rm w2 w3 (gs_al (gs_unC S P)).length i o) : gc_ji S F w0 w3 i := by
  have hdP : (gs_al (gs_unC S P))[i]? = some d := by rw [h4 i (by omega)]; exact hd
  obtain ⟨g1, g2, g3⟩ := h1.unite h2 h5 hdP hy hiP t t2 r
  have hPd : P d = false := by
    cases hh : P d with
    | false => rfl
    | true => have := (h3 i d hd).mp hh; omega
  have e0 := gs_unC_step (P := P) (Q := fun x => P x || decide (x = d)) hG (gs_al_at hd) hi hl hPd (fun _ => rfl)
  have hGo' := gs_unS_Go h2 (gs_al_at hdP) hiP
  rw [e0] at g1 g2 g3 hGo'
  have hy6 := (h1.1.got hy).2.2.1
  refine ⟨fun x => P x || decide (x = d), gc_rot o i (gs_al (gs_unC S P)).length, g1, hGo', fun j x hj => ?_, fun j hj => ?_, g2, h6.trans ⟨fun a ha => ⟨?_, ?_⟩, fun a ha => ?_⟩⟩
  · have := h3 j x hj
    rw [Bool.or_eq_true, decide_eq_true_iff, this]
    constructor
    · rintro (z | z)
      · omega
      · subst z; have := gs_al_idx hj hd; omega
    · intro z
      by_cases ej : j = i
      · subst ej; rw [hd] at hj; cases hj; exact Or.inr rfl
      · exact Or.inl (by omega)
  · rw [g3, List.getElem?_eraseIdx, if_pos hj]
    exact h4 j (by omega)
  · rw [r.1, gd_rI_n (by omega), t2, gd_rI_n (by omega), t.1 a (by omega)]
  · rw [r.2.1, t2]; exact t.2.2.2.1 a (by omega)
  · rw [r.2.2.1 a ha, t2]; show w1.2.2 a = _; rw [t.2.2.2.2.1]
theorem gc_ji.done {S : gs_T} {F : Nat → Bool} {w0 w : gd_W} (h : gc_ji S F w0 w 0) (hG : gs_Go S) : ∃ o, gr_C w (gs_un2 S (gs_made S)) o ∧ gc_fl w o (gs_al (gs_un2 S (gs_made S))) F ∧ gf_c w0 w := by
  obtain ⟨P, o, h1, h2, h3, h4, h5, h6⟩ := h
  have e : gs_unC S P = gs_un2 S (gs_made S) := by
    rw [gs_un2_all hG]
    refine gs_unC_congr fun k => ?_
    rw [Bool.eq_iff_iff, gs_unB_iff, gs_unB_iff]
    refine ⟨fun z => ⟨rfl, z.2⟩, fun z => ⟨?_, z.2⟩⟩
    obtain ⟨j, hj⟩ := gs_al_ex z.2.1
    exact (h3 j k hj).mpr (Nat.zero_le _)
  rw [e] at h1 h5
  exact ⟨o, h1, h5, h6⟩
theorem gs_unC_li {S : gs_T} {P : Nat → Bool} {d : Nat} (h : gs_unB S P d = false) : gs_i (gs_unC S P) d = gs_i S d ∧ gs_l (gs_unC S P) d = gs_l S d := by
  refine ⟨?_, ?_⟩
  · rw [gs_i, gs_unC_f, h]
    split
    · rename_i z; cases z
    · split <;> rfl
  · rw [gs_l, gs_unC_f, h]
    split
    · rename_i z; cases z
    · split <;> rfl
theorem gs_unC_alive {S : gs_T} {P : Nat → Bool} (hG : gs_Go S) {d : Nat} (h : gs_alive (gs_unC S P) d) : gs_alive S d := by
  cases hB : gs_unB S P d with
  | true => exact (gs_unB_iff.mp hB).2.1
  | false =>
    cases hK : gs_unK S P d with
    | none => exact ⟨h.1, by have := h.2; rw [show gs_u (gs_unC S P) d = gs_u S d from (gs_unC_at hB hK).1 0] at this; exact this⟩
    | some k =>
      obtain ⟨k1, k2⟩ := gs_aw_some (gs_unK_some hK).1
      have := (hG.into k1 (by omega)).1
      rw [show gs_i S k - 1 = d by omega] at this
      exact this
theorem gs_s2_alive {S : gs_T} (hG : gs_Good S) {d : Nat} (h : gs_alive (gs_s2 S) d) : gs_alive S d := by
  have hGo := gs_s1_Go hG
  have e : gs_s2 S = gs_unC (gs_s1 S) (fun _ => true) := gs_un2_all hGo
  rw [e] at h
  exact (gs_s1_alive d).mp (gs_unC_alive hGo h)
theorem gs_s2_made {S : gs_T} : gs_made (gs_s2 S) = gs_made S := by
  show (gs_un2 (gs_s1 S) (gs_made S)).2.2.2.1 0 = _
  rw [(gs_un2_same (gs_s1 S) _).2.1]
  rfl
theorem gr_C.read {w w' : gd_W} {S : gs_T} {o : Nat → Nat} (h : gr_C w S o) (rf : gc_rf w w') {r : List gs_rt} (hr : gc_ring w' r) : gr_C w' (gs_rset S r) o := by
  have h' := h
  obtain ⟨c1, c2, -, -, c5, c6, c7, -⟩ := h'
  refine h.of (S' := gs_rset S r) ?_ rfl ?_ (rf.1 1 (by decide) (by decide)) (by rw [rf.2]) (by rw [rf.1 0 (by decide) (by decide)]; exact c5) (by rw [rf.1 0 (by decide) (by decide)]; exact c6) (by rw [rf.1 0 (by decide) (by decide)]; exact c7) hr
  · exact c1.m (fun a ha => ⟨rf.1 a (by omega) (by omega), by rw [rf.2]⟩) (by rw [rf.2])
  · rw [rf.1 2 (by decide) (by decide)]; exact c2
theorem gr_C.tick {w w2 : gd_W} {S : gs_T} {o : Nat → Nat} (h : gr_C w S o) (mf : gc_mf (gd_rI w 0 (upd (w.1 0) 5 (w.1 0 5 + 1))) w2) (L : gc_L w2 (gs_s1 S) (gs_aw (gs_s1 S)) (gs_al (gs_s1 S)) o) : gr_C w2 (gs_s1 S) o := by
  have h' := h
  obtain ⟨c1, c2, -, -, c5, c6, c7, c8⟩ := h'
  have r : ∀ a, a ≠ 0 → (a < 4 ∨ 21 < a) → w2.1 a = w.1 a := fun a e ha => by rw [mf.1 a ha, gd_rI_n e]
  have r0 : ∀ j, j ≠ 5 → w2.1 0 j = w.1 0 j := fun j hj => by rw [mf.1 0 (by decide), gd_rI_s, gd_u_n hj]
  refine h.of L rfl ?_ (r 1 (by decide) (by decide)) (by rw [mf.2]; rfl) ?_ (by rw [r0 6 (by decide)]; exact c6) (by rw [r0 7 (by decide)]; exact c7) ?_
  · rw [r 2 (by decide) (by decide)]; exact c2
  · rw [mf.1 0 (by decide), gd_rI_s, gd_u_s, c5]; rfl
  · show gc_ring w2 (gs_rd S)
    exact c8.keep (r 25 (by decide) (by decide)) (r 26 (by decide) (by decide))
theorem gc_L.tick {w : gd_W} {S : gs_T} {o : Nat → Nat} (h : gr_C w S o) {f : Nat → Int32} : gc_L (gd_rI w 0 f) S (gs_aw S) (gs_al S) o := by
  have hd := h.1
  exact ⟨by rw [gd_rI_n (by decide)]; exact hd.1, hd.2.1, hd.2.2.1, fun i d hi => (hd.2.2.2 i d hi).elim fun E hE => ⟨E, hE.m (gd_rI_n (by omega)) (gd_rI_n (by omega)) rfl⟩⟩
theorem gc_mf.c {w w' : gd_W} (h : gc_mf w w') : gf_c w w' := ⟨fun a ha => ⟨h.1 a (by omega), by rw [h.2]⟩, fun a _ => by rw [h.2]⟩
theorem gs_take {l : List Nat} {i x : Nat} (h : l[i]? = some x) : l.take (i + 1) = l.take i ++ [x] := by rw [List.take_add_one, h]; rfl
theorem gs_sens_iff {S : gs_T} {X : Nat → Nat} {d : Nat} {f : Bool} (hu : 0 < gs_u S d) (hf : f = true ↔ 63 < X d) : gs_sens S X d = (f && decide (gs_k S (gs_c S d) = 3)) := by
  unfold gs_sens
  rw [Bool.eq_iff_iff]
  simp only [Bool.and_eq_true, decide_eq_true_eq, hf]
  exact ⟨fun z => z.2, fun z => ⟨hu, z⟩⟩
