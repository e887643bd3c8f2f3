/-- only the table of places and its count have changed -/
def gf_fs (w w' : gd_W) : Prop := (∀ a, a ≠ 27 → a ≠ 41 → w'.1 a = w.1 a) ∧ (∀ j, j ≠ 19 → w'.1 27 j = w.1 27 j) ∧ w'.2 = w.2
theorem gf_fs.refl (w : gd_W) : gf_fs w w := ⟨fun _ _ _ => rfl, fun _ _ => rfl, rfl⟩
theorem gf_fs.trans {a b c : gd_W} (h : gf_fs a b) (k : gf_fs b c) : gf_fs a c := ⟨fun x h1 h2 => (k.1 x h1 h2).trans (h.1 x h1 h2), fun j hj => (k.2.1 j hj).trans (h.2.1 j hj), k.2.2.trans h.2.2⟩
theorem gf_fs.t41 (w : gd_W) (f : Nat → Int32) : gf_fs w (gd_rI w 41 f) := ⟨fun a _ h => gd_rI_n h, fun j _ => by rw [gd_rI_n (by decide)], rfl⟩
theorem gf_fs.t19 (w : gd_W) (x : Int32) : gf_fs w (gd_rI w 27 (upd (w.1 27) 19 x)) := ⟨fun a h _ => gd_rI_n h, fun j hj => by rw [gd_rI_s, gd_u_n hj], rfl⟩
theorem gf_fs.M {w w' : gd_W} {S : gs_T} {G : Nat → Nat} (h : gf_fs w w') (k : gr_M w S G) : gr_M w' S G := by
  obtain ⟨h1, h2, h3⟩ := h
  unfold gr_M at k ⊢
  rw [h2 3 (by decide), h2 1 (by decide), h2 12 (by decide), h2 13 (by decide), h2 14 (by decide), h1 29 (by decide) (by decide), h1 30 (by decide) (by decide), h1 34 (by decide) (by decide), h1 35 (by decide) (by decide), h1 33 (by decide) (by decide), h1 36 (by decide) (by decide), h1 28 (by decide) (by decide), h1 32 (by decide) (by decide), h1 37 (by decide) (by decide), h1 38 (by decide) (by decide), h1 39 (by decide) (by decide), h1 40 (by decide) (by decide), h3]
  exact k
/-- the others: the droplets but d and e, by rising number, among the first n -/
def gs_ot (U : Nat → Nat) (d e : Option Nat) : Nat → List Nat
  | 0 => []
  | n + 1 => if 0 < U n ∧ d ≠ some n ∧ e ≠ some n then gs_ot U d e n ++ [n] else gs_ot U d e n
theorem gs_ot_len (U : Nat → Nat) (d e : Option Nat) : ∀ n, (gs_ot U d e n).length ≤ gs_cnt U n
  | 0 => Nat.le_refl _
  | n + 1 => by
    have := gs_ot_len U d e n
    rw [gs_ot, gs_cnt]
    by_cases h : 0 < U n
    · rw [if_pos h]; split
      · rw [List.length_append]; simp only [List.length_singleton]; omega
      · omega
    · rw [if_neg (fun z => h z.1), if_neg h]; exact this
theorem gs_cnt_mono (U : Nat → Nat) {a b : Nat} (h : a ≤ b) : gs_cnt U a ≤ gs_cnt U b := by
  induction h with
  | refl => exact Nat.le_refl _
  | step _ ih => rw [gs_cnt]; split <;> omega
def gs_rows (S : gs_T) (l : List Nat) (w : gd_W) : Prop := ∀ i x, l[i]? = some x → ∀ n, n < 64 → w.1 41 (64 * i + n) = gm_nO (gs_pos S x n)
def gs_fi (S : gs_T) (l : List Nat) (w w1 : gd_W) : Prop := gf_fs w w1 ∧ w1.1 27 19 = nI l.length ∧ gs_rows S l w1
def gs_fj (S : gs_T) (l : List Nat) (k n : Nat) (w w2 : gd_W) : Prop := gs_fi S l w w2 ∧ ∀ i, i < n → w2.1 41 (64 * l.length + i) = gm_nO (gs_pos S k i)
theorem gs_fj_step {S : gs_T} {l : List Nat} {k n : Nat} {w w2 : gd_W} (h : gs_fj S l k n w w2) : gs_fj S l k (n + 1) w (gd_rI w2 41 (upd (w2.1 41) (64 * l.length + n) (gm_nO (gs_pos S k n)))) := by
  obtain ⟨⟨h1, h2, h3⟩, h4⟩ := h
  refine ⟨⟨h1.trans (gf_fs.t41 _ _), by rw [gd_rI_n (by decide)]; exact h2, fun i x hx j hj => ?_⟩, fun i hi => ?_⟩
  · have hl : i < l.length := (List.getElem?_eq_some_iff.mp hx).1
    rw [gd_rI_s, gd_u_n (by omega)]
    exact h3 i x hx j hj
  · rw [gd_rI_s]
    by_cases e : i = n
    · subst e; rw [gd_u_s]
    · rw [gd_u_n (by omega)]; exact h4 i (by omega)
theorem gs_fj_end {S : gs_T} {l : List Nat} {k : Nat} {w w2 : gd_W} (h : gs_fj S l k 64 w w2) : gs_fi S (l ++ [k]) w (gd_rI w2 27 (upd (w2.1 27) 19 (nI l.length + 1))) := by
  obtain ⟨⟨h1, h2, h3⟩, h4⟩ := h
  refine ⟨h1.trans (gf_fs.t19 _ _), by rw [gd_rI_s, gd_u_s, nI_1, List.length_append]; rfl, fun i x hx n hn => ?_⟩
  rw [gd_rI_n (by decide)]
  by_cases hi : i < l.length
  · rw [List.getElem?_append_left hi] at hx
    exact h3 i x hx n hn
  · rw [List.getElem?_append_right (by omega)] at hx
    have hz : i - l.length < 1 := (List.getElem?_eq_some_iff.mp hx).1
    have hi2 : i = l.length := by omega
    subst hi2
    rw [Nat.sub_self] at hx
    cases hx
    exact h4 n hn
theorem gm_nO_eq {k : Nat} {d : Option Nat} (hk : k < 2 ^ 31) (hd : ∀ x, d = some x → x < 2 ^ 31) : nI k = gm_nO d ↔ d = some k := by
  cases d with
  | none =>
    constructor
    · intro h
      exact absurd (show nI k < 0 by rw [h]; decide) (nI_pos hk)
    · intro h; cases h
  | some x =>
    show nI k = nI x ↔ _
    rw [nI_eq hk (hd x rfl)]
    exact ⟨fun h => by rw [h], fun h => (Option.some.inj h).symm⟩
/-- the others' table, as gs_tab has it -/
def gs_T2 (S : gs_T) (d e : Option Nat) (k n : Nat) : Option Nat := gs_pos S ((gs_ot (gs_u S) d e (gs_made S)).getD k 0) n
theorem gs_pos_lt {S : gs_T} {d n b : Nat} (hv : gv_way S d) (h : gs_pos S d n = some b) : b < 64 := by
  unfold gs_pos at h
  split at h
  · cases h
  · obtain ⟨x, hx, hw⟩ := hv (min n (gs_l S d)) (by omega)
    rw [hw] at h
    cases h
    exact hx
theorem gs_ot_mem (U : Nat → Nat) (d e : Option Nat) : ∀ {n x : Nat}, x ∈ gs_ot U d e n ↔ x < n ∧ 0 < U x ∧ d ≠ some x ∧ e ≠ some x
  | 0, x => by simp [gs_ot]
  | n + 1, x => by
    rw [gs_ot]
    split
    · rename_i h
      rw [List.mem_append, gs_ot_mem U d e, List.mem_singleton]
      constructor
      · rintro (⟨h1, h2⟩ | rfl)
        · exact ⟨by omega, h2⟩
        · exact ⟨by omega, h⟩
      · rintro ⟨h1, h2⟩
        by_cases e0 : x = n
        · exact Or.inr e0
        · exact Or.inl ⟨by omega, h2⟩
    · rename_i h
      rw [gs_ot_mem U d e]
      constructor
      · rintro ⟨h1, h2⟩
        exact ⟨by omega, h2⟩
      · rintro ⟨h1, h2⟩
        by_cases e0 : x = n
        · subst e0; exact absurd h2 h
        · exact ⟨by omega, h2⟩
theorem gs_fi_tab {S : gs_T} {d e : Option Nat} {w w1 : gd_W} (h : gs_fi S (gs_ot (gs_u S) d e (gs_made S)) w w1) (hc : gs_cnt (gs_u S) (gs_made S) ≤ 6) (hv : ∀ k, gs_alive S k → gv_way S k) : gs_tab w1 (gs_ot (gs_u S) d e (gs_made S)).length (gs_T2 S d e) := by
  obtain ⟨-, h2, h3⟩ := h
  refine ⟨⟨h2, Nat.le_trans (gs_ot_len _ _ _ _) hc⟩, fun n hn k hk => ?_⟩
  have hx := List.getElem?_eq_getElem hk
  have e1 : (gs_ot (gs_u S) d e (gs_made S)).getD k 0 = (gs_ot (gs_u S) d e (gs_made S))[k] := by rw [List.getD_eq_getElem?_getD, hx]; rfl
  unfold gs_T2
  rw [e1]
  refine ⟨h3 k _ hx n hn, fun b hb => ?_⟩
  have hm := (gs_ot_mem (gs_u S) d e).mp (List.getElem_mem hk)
  exact gs_pos_lt (hv _ ⟨hm.1, hm.2.1⟩) hb
set_option maxRecDepth 100000 in
theorem c2_foresee {l : Launch} {D : va_G} {tC : FieldType → ClassId} {ad : Nat → Nat} (hinj : ∀ i j, ad i = ad j → i = j) {S : gs_T} {G : Nat → Nat} (w : gd_W) (hR : gr_M w S G) (hc6 : gs_cnt (gs_u S) (gs_made S) ≤ 6) (hv : ∀ k, gs_alive S k → gv_way S k) (d e : Option Nat) (hd : ∀ x, d = some x → x < 60) (he : ∀ x, e = some x → x < 60) : gd_Cp l D tC ad 45 3 68 y_M_foresee c_M_foresee 5 none [.ref 27, .int (gm_nO d), .int (gm_nO e)] w (fun r w' => r = none ∧ gs_fi S (gs_ot (gs_u S) d e (gs_made S)) w w') := by
  refine gd_Cp_of rfl hinj (Nat.le_of_ble_eq_true rfl) ?_
  intro p e0 s m args below meth c E hr hlk
  have K := k_M_foresee
  have hA : ∀ q, gd_A ad 45 s.heap.size q → gd_A ad 45 s.heap.size q := fun _ h => h
  have hN := hR.1.2
  have loop : ∀ j k w1, k + j = gs_made S → gs_fi S (gs_ot (gs_u S) d e k) w w1 → gd_G p l e0 (gd_rm 3 68) s m args below meth c D tC ad (gd_A ad 45 s.heap.size) 45 5 0 0 (MQ below (gd_Qp D tC ad 45 s.heap.size (fun r w' => r = none ∧ gs_fi S (gs_ot (gs_u S) d e (gs_made S)) w w')) args s 0 0 (gd_A ad 45 s.heap.size)) 7 [(0, .ref 27), (1, .int (gm_nO d)), (2, .int (gm_nO e)), (3, .int (nI k))] [] w1 := by
    intro j
    induction j with
    | zero =>
      intro k w1 hk hi
      refine gd_r E K 3 (pc' := 12) (lv' := [(0, .ref 27), (1, .int (gm_nO d)), (2, .int (gm_nO e)), (3, .int (nI k))]) (st' := [.int (w1.1 27 3), .int (nI k)]) (w' := w1) rfl ?_
      refine gd_cg (lv' := [(0, .ref 27), (1, .int (gm_nO d)), (2, .int (gm_nO e)), (3, .int (nI k))]) (st' := [.int (nI (gs_made S)), .int (nI k)]) (w' := w1) ?_ (rfl) (by simp only [(hi.1.M hR).1.1]) rfl
      refine gd_r E K 1 (pc' := if (nI (gs_made S)) ≤ (nI k) then 88 else 15) (lv' := [(0, .ref 27), (1, .int (gm_nO d)), (2, .int (gm_nO e)), (3, .int (nI k))]) (st' := []) (w' := w1) rfl ?_
      refine gd_it (nI_le (by omega) (by omega)) ?_
      have hkN : k = gs_made S := by omega
      exact gd_vretp E hr hlk (K.1 88 (.return_, 0) rfl).1 (⟨rfl, by rw [show gs_made S = k by omega]; exact hi⟩)
    | succ j ih =>
      intro k w1 hk hi
      have hR1 := hi.1.M hR
      obtain ⟨u1, u2⟩ := hR1.2.1 k (by omega)
      refine gd_r E K 3 (pc' := 12) (lv' := [(0, .ref 27), (1, .int (gm_nO d)), (2, .int (gm_nO e)), (3, .int (nI k))]) (st' := [.int (w1.1 27 3), .int (nI k)]) (w' := w1) rfl ?_
      refine gd_cg (lv' := [(0, .ref 27), (1, .int (gm_nO d)), (2, .int (gm_nO e)), (3, .int (nI k))]) (st' := [.int (nI (gs_made S)), .int (nI k)]) (w' := w1) ?_ (rfl) (by simp only [(hi.1.M hR).1.1]) rfl
      refine gd_r E K 1 (pc' := if (nI (gs_made S)) ≤ (nI k) then 88 else 15) (lv' := [(0, .ref 27), (1, .int (gm_nO d)), (2, .int (gm_nO e)), (3, .int (nI k))]) (st' := []) (w' := w1) rfl ?_
      refine gd_if (nI_ge (by omega) (by omega)) ?_
      refine gd_r E K 3 (pc' := 20) (lv' := [(0, .ref 27), (1, .int (gm_nO d)), (2, .int (gm_nO e)), (3, .int (nI k))]) (st' := [.int (nI k), .ref 29]) (w' := w1) rfl ?_
      refine gd_ialdv E (K.1 20 (.iaload, 0) rfl).1 (j := k) (by decide) (rfl) (rfl) (by omega) (by decide) (v := nI (gs_u S k)) (u1) ?_
      rcases Nat.eq_zero_or_pos (gs_u S k) with h0 | h0
      · refine gd_r E K 1 (pc' := if (nI (gs_u S k)) ≤ 0 then 82 else 24) (lv' := [(0, .ref 27), (1, .int (gm_nO d)), (2, .int (gm_nO e)), (3, .int (nI k))]) (st' := []) (w' := w1) rfl ?_
        refine gd_it ((gd_le0 (by omega)).mpr h0) ?_
        refine gd_r E K 2 (pc' := 7) (lv' := [(0, .ref 27), (1, .int (gm_nO d)), (2, .int (gm_nO e)), (3, .int ((nI k) + 1))]) (st' := []) (w' := w1) rfl ?_
        exact gd_cg (ih (k + 1) w1 (by omega) (by rw [gs_ot, if_neg (fun x => by omega)]; exact hi)) (by rw [nI_1]) rfl rfl
      · refine gd_r E K 1 (pc' := if (nI (gs_u S k)) ≤ 0 then 82 else 24) (lv' := [(0, .ref 27), (1, .int (gm_nO d)), (2, .int (gm_nO e)), (3, .int (nI k))]) (st' := []) (w' := w1) rfl ?_
        refine gd_if (fun q => absurd ((gd_le0 (by omega)).mp q) (by omega)) ?_
        refine gd_r E K 2 (pc' := 26) (lv' := [(0, .ref 27), (1, .int (gm_nO d)), (2, .int (gm_nO e)), (3, .int (nI k))]) (st' := [.int (gm_nO d), .int (nI k)]) (w' := w1) rfl ?_
        by_cases hdk : d = some k
        · refine gd_r E K 1 (pc' := if (nI k) = (gm_nO d) then 82 else 29) (lv' := [(0, .ref 27), (1, .int (gm_nO d)), (2, .int (gm_nO e)), (3, .int (nI k))]) (st' := []) (w' := w1) rfl ?_
          refine gd_it ((gm_nO_eq (by omega) (fun x hx => by have := hd x hx; omega)).mpr hdk) ?_
          refine gd_r E K 2 (pc' := 7) (lv' := [(0, .ref 27), (1, .int (gm_nO d)), (2, .int (gm_nO e)), (3, .int ((nI k) + 1))]) (st' := []) (w' := w1) rfl ?_
          exact gd_cg (ih (k + 1) w1 (by omega) (by rw [gs_ot, if_neg (fun x => x.2.1 hdk)]; exact hi)) (by rw [nI_1]) rfl rfl
        · refine gd_r E K 1 (pc' := if (nI k) = (gm_nO d) then 82 else 29) (lv' := [(0, .ref 27), (1, .int (gm_nO d)), (2, .int (gm_nO e)), (3, .int (nI k))]) (st' := []) (w' := w1) rfl ?_
          refine gd_if (fun q => hdk ((gm_nO_eq (by omega) (fun x hx => by have := hd x hx; omega)).mp q)) ?_
          refine gd_r E K 2 (pc' := 31) (lv' := [(0, .ref 27), (1, .int (gm_nO d)), (2, .int (gm_nO e)), (3, .int (nI k))]) (st' := [.int (gm_nO e), .int (nI k)]) (w' := w1) rfl ?_
          by_cases hek : e = some k
          · refine gd_r E K 1 (pc' := if (nI k) = (gm_nO e) then 82 else 34) (lv' := [(0, .ref 27), (1, .int (gm_nO d)), (2, .int (gm_nO e)), (3, .int (nI k))]) (st' := []) (w' := w1) rfl ?_
            refine gd_it ((gm_nO_eq (by omega) (fun x hx => by have := he x hx; omega)).mpr hek) ?_
            refine gd_r E K 2 (pc' := 7) (lv' := [(0, .ref 27), (1, .int (gm_nO d)), (2, .int (gm_nO e)), (3, .int ((nI k) + 1))]) (st' := []) (w' := w1) rfl ?_
            exact gd_cg (ih (k + 1) w1 (by omega) (by rw [gs_ot, if_neg (fun x => x.2.2 hek)]; exact hi)) (by rw [nI_1]) rfl rfl
          · refine gd_r E K 1 (pc' := if (nI k) = (gm_nO e) then 82 else 34) (lv' := [(0, .ref 27), (1, .int (gm_nO d)), (2, .int (gm_nO e)), (3, .int (nI k))]) (st' := []) (w' := w1) rfl ?_
            refine gd_if (fun q => hek ((gm_nO_eq (by omega) (fun x hx => by have := he x hx; omega)).mp q)) ?_
            refine gd_r E K 2 (pc' := 37) (lv' := [(0, .ref 27), (1, .int (gm_nO d)), (2, .int (gm_nO e)), (3, .int (nI k)), (4, .int 0)]) (st' := []) (w' := w1) rfl ?_
            have hlen : (gs_ot (gs_u S) d e k).length ≤ 5 := by
              have := gs_ot_len (gs_u S) d e k
              have h2 := gs_cnt_mono (gs_u S) (show k + 1 ≤ gs_made S by omega)
              rw [gs_cnt, if_pos h0] at h2
              omega
            have inner : ∀ i n w2, n + i = 64 → gs_fj S (gs_ot (gs_u S) d e k) k n w w2 → gd_G p l e0 (gd_rm 3 68) s m args below meth c D tC ad (gd_A ad 45 s.heap.size) 45 5 0 0 (MQ below (gd_Qp D tC ad 45 s.heap.size (fun r w' => r = none ∧ gs_fi S (gs_ot (gs_u S) d e (gs_made S)) w w')) args s 0 0 (gd_A ad 45 s.heap.size)) 37 [(0, .ref 27), (1, .int (gm_nO d)), (2, .int (gm_nO e)), (3, .int (nI k)), (4, .int (nI n))] [] w2 := by
              intro i
              induction i with
              | zero =>
                intro n w2 hn hj
                refine gd_r E K 2 (pc' := 41) (lv' := [(0, .ref 27), (1, .int (gm_nO d)), (2, .int (gm_nO e)), (3, .int (nI k)), (4, .int (nI n))]) (st' := [.int 64, .int (nI n)]) (w' := w2) rfl ?_
                refine gd_r E K 1 (pc' := if 64 ≤ (nI n) then 72 else 44) (lv' := [(0, .ref 27), (1, .int (gm_nO d)), (2, .int (gm_nO e)), (3, .int (nI k)), (4, .int (nI n))]) (st' := []) (w' := w2) rfl ?_
                refine gd_it (nI_le (show 64 ≤ n by omega) (by omega)) ?_
                refine gd_r E K 5 (pc' := 79) (lv' := [(0, .ref 27), (1, .int (gm_nO d)), (2, .int (gm_nO e)), (3, .int (nI k)), (4, .int (nI n))]) (st' := [.int ((w2.1 27 19) + 1), .ref 27]) (w' := w2) rfl ?_
                refine gd_cg (lv' := [(0, .ref 27), (1, .int (gm_nO d)), (2, .int (gm_nO e)), (3, .int (nI k)), (4, .int (nI n))]) (st' := [.int ((nI (gs_ot (gs_u S) d e k).length) + 1), .ref 27]) (w' := w2) ?_ (rfl) (by simp only [hj.1.2.1]) rfl
                refine gd_r E K 1 (pc' := 82) (lv' := [(0, .ref 27), (1, .int (gm_nO d)), (2, .int (gm_nO e)), (3, .int (nI k)), (4, .int (nI n))]) (st' := []) (w' := gd_rI w2 27 (upd (w2.1 27) 19 ((nI (gs_ot (gs_u S) d e k).length) + 1))) rfl ?_
                refine gd_r E K 2 (pc' := 7) (lv' := [(0, .ref 27), (1, .int (gm_nO d)), (2, .int (gm_nO e)), (3, .int ((nI k) + 1)), (4, .int (nI n))]) (st' := []) (w' := gd_rI w2 27 (upd (w2.1 27) 19 ((nI (gs_ot (gs_u S) d e k).length) + 1))) rfl ?_
                refine gd_lvp [0, 1, 2, 3] (lv' := [(0, .ref 27), (1, .int (gm_nO d)), (2, .int (gm_nO e)), (3, .int ((nI k) + 1))]) rfl ?_
                exact gd_cg (ih (k + 1) _ (by omega) (by rw [gs_ot, if_pos ⟨h0, hdk, hek⟩]; exact gs_fj_end (by rw [show (64 : Nat) = n by omega]; exact hj))) (by rw [nI_1]) rfl rfl
              | succ i ih2 =>
                intro n w2 hn hj
                refine gd_r E K 2 (pc' := 41) (lv' := [(0, .ref 27), (1, .int (gm_nO d)), (2, .int (gm_nO e)), (3, .int (nI k)), (4, .int (nI n))]) (st' := [.int 64, .int (nI n)]) (w' := w2) rfl ?_
                refine gd_r E K 1 (pc' := if 64 ≤ (nI n) then 72 else 44) (lv' := [(0, .ref 27), (1, .int (gm_nO d)), (2, .int (gm_nO e)), (3, .int (nI k)), (4, .int (nI n))]) (st' := []) (w' := w2) rfl ?_
                refine gd_if (nI_ge (show n < 64 by omega) (by decide)) ?_
                refine gd_r E K 11 (pc' := 62) (lv' := [(0, .ref 27), (1, .int (gm_nO d)), (2, .int (gm_nO e)), (3, .int (nI k)), (4, .int (nI n))]) (st' := [.int (nI n), .int (nI k), .ref 27, .int ((64 * (w2.1 27 19)) + (nI n)), .ref 41]) (w' := w2) rfl ?_
                refine gd_cg (lv' := [(0, .ref 27), (1, .int (gm_nO d)), (2, .int (gm_nO e)), (3, .int (nI k)), (4, .int (nI n))]) (st' := [.int (nI n), .int (nI k), .ref 27, .int ((64 * (nI (gs_ot (gs_u S) d e k).length)) + (nI n)), .ref 41]) (w' := w2) ?_ (rfl) (by simp only [hj.1.2.1]) rfl
                refine gd_cV E hA (av := [.int (nI k), .int (nI n)]) (rest := [.int ((64 * (nI (gs_ot (gs_u S) d e k).length)) + (nI n)), .ref 41]) (c2_placeAfter hinj w2 (hj.1.1.M hR) k (by omega) (hv k ⟨by omega, h0⟩) n (by omega)) (K.1 62 (.invokevirtual 89, 0) rfl).1 ml_M_89 cv_M_placeAfter (by decide) (rfl) ⟨Nat.le_of_ble_eq_true rfl, Nat.le_of_ble_eq_true rfl⟩ ⟨Nat.zero_le _, Nat.zero_le _⟩ rfl (Nat.le_of_ble_eq_true rfl) ?_
                refine gd_iast E (K.1 65 (.iastore, 0) rfl).1 (j := 64 * (gs_ot (gs_u S) d e k).length + n) (by decide) (rfl) (by rw [show (64 : Int32) = nI 64 from rfl, pk_mul, nI_add]) (by omega) (by decide) ?_
                refine gd_r E K 2 (pc' := 37) (lv' := [(0, .ref 27), (1, .int (gm_nO d)), (2, .int (gm_nO e)), (3, .int (nI k)), (4, .int ((nI n) + 1))]) (st' := []) (w' := gd_rI w2 41 (upd (w2.1 41) (64 * (gs_ot (gs_u S) d e k).length + n) (gm_nO (gs_pos S k n)))) rfl ?_
                exact gd_cg (ih2 (n + 1) _ (by omega) (gs_fj_step hj)) (by rw [nI_1]) rfl rfl
            exact gd_cg (inner 64 0 w1 (by omega) ⟨hi, fun i hi => by omega⟩) rfl rfl rfl
  refine gd_r E K 5 (pc' := 7) (lv' := [(0, .ref 27), (1, .int (gm_nO d)), (2, .int (gm_nO e)), (3, .int 0)]) (st' := []) (w' := gd_rI w 27 (upd (w.1 27) 19 0)) rfl ?_
  exact gd_cg (loop (gs_made S) 0 _ (by omega) ⟨gf_fs.t19 w 0, by rw [gd_rI_s, gd_u_s]; rfl, fun i x hx => by simp [gs_ot] at hx⟩) rfl rfl rfl
