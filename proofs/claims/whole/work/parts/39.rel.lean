/-! What the class's cells hold, by the abstract state. -/
abbrev gs_al (S : gs_T) : List Nat := gs_ot (gs_u S) none none (gs_made S)
def gs_aw (S : gs_T) (d : Nat) : Option Nat := gs_com (gs_u S) (gs_i S) d (gs_made S)
def gr_C (w : gd_W) (S : gs_T) (o : Nat → Nat) : Prop := gc_L w S (gs_aw S) (gs_al S) o ∧ (w.1 2 2 = nI (gs_made S) ∧ gs_made S ≤ 60) ∧ (∀ c, c < 64 → w.1 1 c = nI (gs_k S c) ∧ gs_k S c < 8) ∧ (∀ c, c < 64 → (gm_bit (w.2.1 0 4) c = true ↔ gs_k S c = 1)) ∧ w.1 0 5 = gs_time S ∧ w.1 0 6 = nI (gs_out S) ∧ w.1 0 7 = nI (gs_thr S) ∧ gc_ring w (gs_rd S)
/-- the reference's cells and the law's are as they were -/
def gf_c (w w' : gd_W) : Prop := (∀ a, 27 ≤ a → w'.1 a = w.1 a ∧ w'.2.1 a = w.2.1 a) ∧ ∀ a, a ≠ 3 → w'.2.2 a = w.2.2 a
theorem gf_c.refl (w : gd_W) : gf_c w w := ⟨fun _ _ => ⟨rfl, rfl⟩, fun _ _ => rfl⟩
theorem gf_c.trans {a b c : gd_W} (h : gf_c a b) (k : gf_c b c) : gf_c a c := ⟨fun x hx => ⟨(k.1 x hx).1.trans (h.1 x hx).1, (k.1 x hx).2.trans (h.1 x hx).2⟩, fun x hx => (k.2 x hx).trans (h.2 x hx)⟩
theorem gf_c.I (w : gd_W) {k : Nat} (hk : k < 27) (f : Nat → Int32) : gf_c w (gd_rI w k f) := ⟨fun a ha => ⟨gd_rI_n (by omega), rfl⟩, fun _ _ => rfl⟩
theorem gf_c.L (w : gd_W) {k : Nat} (hk : k < 27) (f : Nat → Int64) : gf_c w (gd_rL w k f) := ⟨fun a ha => ⟨rfl, gd_rL_n (by omega)⟩, fun _ _ => rfl⟩
theorem gc_f.c {k : Nat} {w w' : gd_W} (h : gc_f k w w') (hk : k < 27) : gf_c w w' := ⟨fun a ha => ⟨by rw [h.1], h.2.2 a (by omega)⟩, fun a _ => by rw [h.2.1]⟩
theorem gc_rf.c {w w' : gd_W} (h : gc_rf w w') : gf_c w w' := ⟨fun a ha => ⟨h.1 a (by omega) (by omega), by rw [h.2]⟩, fun a _ => by rw [h.2]⟩
theorem gc_num.c {q : Nat} {w w' : gd_W} {p : Nat} {f : Nat → Int64} (h : gc_num q w w' p f) (hq : q < 6) : gf_c w w' := ⟨fun a ha => ⟨h.1 a (by omega), h.2.2.2.1 a (by omega)⟩, fun a _ => by rw [h.2.2.2.2.1]⟩
theorem gr_E.m {w w' : gd_W} {S : gs_T} {A : Nat → Option Nat} {q d E : Nat} (h : gr_E w S A q d E) (h1 : w'.1 (4 + 3 * q) = w.1 (4 + 3 * q)) (h2 : w'.1 (5 + 3 * q) = w.1 (5 + 3 * q)) (h3 : w'.2.1 (6 + 3 * q) = w.2.1 (6 + 3 * q)) : gr_E w' S A q d E := by
  unfold gr_E at h ⊢
  rw [h1, h2, h3]
  exact h
theorem gc_L.m {w w' : gd_W} {S : gs_T} {A : Nat → Option Nat} {l : List Nat} {o : Nat → Nat} (h : gc_L w S A l o) (h1 : ∀ a, a < 22 → w'.1 a = w.1 a ∧ w'.2.1 a = w.2.1 a) (h2 : w'.2.2 3 = w.2.2 3) : gc_L w' S A l o := by
  refine ⟨by rw [(h1 2 (by omega)).1]; exact h.1, by rw [h2]; exact h.2.1, h.2.2.1, fun i d hi => ?_⟩
  obtain ⟨E, hE⟩ := h.2.2.2 i d hi
  have hl : i < l.length := (List.getElem?_eq_some_iff.mp hi).1
  have ho := (h.2.1 i (by have := h.1.2; omega)).2
  exact ⟨E, hE.m (h1 _ (by omega)).1 (h1 _ (by omega)).1 (h1 _ (by omega)).2⟩
theorem gr_C.m {w w' : gd_W} {S : gs_T} {o : Nat → Nat} (h : gr_C w S o) (hf : gf_m w w') : gr_C w' S o := by
  obtain ⟨h1, h2, h3, h4, h5, h6, h7, h8⟩ := h
  refine ⟨h1.m (fun a ha => hf.1 a (by omega)) (by rw [hf.2]), by rw [(hf.1 2 (by omega)).1]; exact h2, by rw [(hf.1 1 (by omega)).1]; exact h3, by rw [(hf.1 0 (by omega)).2]; exact h4, by rw [(hf.1 0 (by omega)).1]; exact h5, by rw [(hf.1 0 (by omega)).1]; exact h6, by rw [(hf.1 0 (by omega)).1]; exact h7, ?_⟩
  unfold gc_ring at h8 ⊢
  rw [(hf.1 25 (by omega)).1, (hf.1 26 (by omega)).1]
  exact h8
theorem gc_f.C {k : Nat} {w w' : gd_W} (h : gc_f k w w') (hk : 22 ≤ k) {S : gs_T} {o : Nat → Nat} (c : gr_C w S o) : gr_C w' S o := by
  obtain ⟨h1, h2, h3, h4, h5, h6, h7, h8⟩ := c
  refine ⟨h1.m (fun a ha => ⟨by rw [h.1], h.2.2 a (by omega)⟩) (by rw [h.2.1]), by rw [h.1]; exact h2, by rw [h.1]; exact h3, by rw [h.2.2 0 (by omega)]; exact h4, by rw [h.1]; exact h5, by rw [h.1]; exact h6, by rw [h.1]; exact h7, ?_⟩
  unfold gc_ring at h8 ⊢
  rw [h.1]
  exact h8
theorem gf_c.M {w w' : gd_W} {S : gs_T} {G : Nat → Nat} (h : gf_c w w') (k : gr_M w S G) : gr_M w' S G := by
  unfold gr_M at k ⊢
  rw [(h.1 27 (by omega)).1, (h.1 29 (by omega)).1, (h.1 30 (by omega)).1, (h.1 34 (by omega)).1, (h.1 35 (by omega)).1, (h.1 33 (by omega)).1, (h.1 36 (by omega)).1, (h.1 28 (by omega)).1, (h.1 31 (by omega)).2, (h.1 32 (by omega)).1, (h.1 37 (by omega)).1, (h.1 38 (by omega)).1, (h.1 39 (by omega)).1, (h.1 40 (by omega)).1]
  exact k
theorem gc_L.got {w : gd_W} {S : gs_T} {A : Nat → Option Nat} {l : List Nat} {o : Nat → Nat} (h : gc_L w S A l o) {i x : Nat} (hi : l[i]? = some x) : i < l.length ∧ i < 6 ∧ o i < 6 ∧ w.2.2 3 i = some (4 + 3 * o i) ∧ ∃ E, gr_E w S A (o i) x E := by
  have hl : i < l.length := (List.getElem?_eq_some_iff.mp hi).1
  have h6 := h.1.2
  have ho := h.2.1 i (by omega)
  exact ⟨hl, by omega, ho.2, ho.1, h.2.2.2 i x hi⟩
theorem gs_al_mem {S : gs_T} {x : Nat} : x ∈ gs_al S ↔ gs_alive S x := by
  rw [gs_ot_mem]
  constructor
  · rintro ⟨h1, h2, -, -⟩; exact ⟨h1, h2⟩
  · rintro ⟨h1, h2⟩; exact ⟨h1, h2, by simp, by simp⟩
theorem gs_isd_of {S : gs_T} (hN : gs_made S ≤ 60) {x : Nat} (h : gs_alive S x) : gs_isd S (nI x) = true := by
  obtain ⟨h1, h2⟩ := h
  unfold gs_isd
  rw [decide_eq_true_iff, nI_clamp (by omega)]
  exact ⟨nI_pos' (by omega), nI_lt h1 (by omega), h2⟩
theorem gs_isd_no {S : gs_T} (hN : gs_made S ≤ 60) {d : Int32} (h : ∀ x, x ∈ gs_al S → d ≠ nI x) : gs_isd S d = false := by
  cases hb : gs_isd S d with
  | false => rfl
  | true =>
    obtain ⟨k, hk, hd, hu⟩ := gs_isd_t hN hb
    exact absurd hd (h k (gs_al_mem.mpr ⟨hk, hu⟩))
theorem gs_ot_all (U : Nat → Nat) : ∀ n, (gs_ot U none none n).length = gs_cnt U n
  | 0 => rfl
  | n + 1 => by
    rw [gs_ot, gs_cnt]
    by_cases h : 0 < U n
    · rw [if_pos ⟨h, by simp, by simp⟩, if_pos h, List.length_append, gs_ot_all U n]; rfl
    · rw [if_neg (fun z => h z.1), if_neg h, gs_ot_all U n]
theorem gs_ot_pair (U : Nat → Nat) (d e : Option Nat) : ∀ n, (gs_ot U d e n).Pairwise (· < ·)
  | 0 => List.Pairwise.nil
  | n + 1 => by
    rw [gs_ot]
    split
    · rw [List.pairwise_append]
      refine ⟨gs_ot_pair U d e n, by simp, fun a ha b hb => ?_⟩
      rw [List.mem_singleton] at hb
      have := ((gs_ot_mem U d e).mp ha).1
      omega
    · exact gs_ot_pair U d e n
theorem gs_al_idx {S : gs_T} {i j x : Nat} (hi : (gs_al S)[i]? = some x) (hj : (gs_al S)[j]? = some x) : i = j := by
  have hp : (gs_al S).Pairwise (· < ·) := gs_ot_pair (gs_u S) none none (gs_made S)
  obtain ⟨h1, e1⟩ := List.getElem?_eq_some_iff.mp hi
  obtain ⟨h2, e2⟩ := List.getElem?_eq_some_iff.mp hj
  rcases Nat.lt_trichotomy i j with h | h | h
  · have := List.pairwise_iff_getElem.mp hp i j h1 h2 h; omega
  · exact h
  · have := List.pairwise_iff_getElem.mp hp j i h2 h1 h; omega
theorem gs_al_at {S : gs_T} {i x : Nat} (hi : (gs_al S)[i]? = some x) : gs_alive S x := gs_al_mem.mp (List.mem_of_getElem? hi)
theorem gs_al_ex {S : gs_T} {x : Nat} (h : gs_alive S x) : ∃ i : Nat, (gs_al S)[i]? = some x := List.getElem?_of_mem (gs_al_mem.mpr h)
/-- what a call of the class gives: the answer, the state -/
def gs_cp (S' : gs_T) (r0 : Value) (w : gd_W) (r : Option Value) (w' : gd_W) : Prop := r = some r0 ∧ (∃ o', gr_C w' S' o') ∧ gf_c w w'
/-- .. and what it leaves where it throws -/
def gs_cx (S : gs_T) (cls : String) (w : gd_W) (E : String) (w' : gd_W) : Prop := E = cls ∧ (∃ o', gr_C w' S o') ∧ gf_c w w'
theorem gs_cp_same {w : gd_W} {S : gs_T} {o : Nat → Nat} (h : gr_C w S o) {r0 r1 : Value} (hr : r1 = r0) : gs_cp S r0 w (some r1) w := ⟨by rw [hr], ⟨o, h⟩, gf_c.refl w⟩
