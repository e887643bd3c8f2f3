abbrev gs_rt : Type := Nat × Int32 × Nat × Nat
def gs_rr (w : gd_W) (rd : List gs_rt) : Prop := (w.1 27 14 = nI rd.length ∧ rd.length ≤ 50) ∧ ∀ j r, rd[j]? = some r → w.1 37 j = nI r.1 ∧ w.1 38 j = r.2.1 ∧ w.1 39 j = nI r.2.2.1 ∧ w.1 40 j = nI r.2.2.2
def gs_push (rd : List gs_rt) (x : gs_rt) : List gs_rt := (if rd.length = 50 then rd.tail else rd) ++ [x]
def gf_rd (w w' : gd_W) : Prop := (∀ a, a ≠ 27 → (a < 37 ∨ 40 < a) → w'.1 a = w.1 a) ∧ (∀ j, j ≠ 14 → w'.1 27 j = w.1 27 j) ∧ w'.2 = w.2
theorem gf_rd.refl (w : gd_W) : gf_rd w w := ⟨fun _ _ _ => rfl, fun _ _ => rfl, rfl⟩
theorem gf_rd.trans {a b c : gd_W} (h : gf_rd a b) (k : gf_rd b c) : gf_rd a c := ⟨fun x h1 h2 => (k.1 x h1 h2).trans (h.1 x h1 h2), fun j hj => (k.2.1 j hj).trans (h.2.1 j hj), k.2.2.trans h.2.2⟩
theorem gf_rd.t (w : gd_W) {k : Nat} (hk : 37 ≤ k ∧ k ≤ 40) (f : Nat → Int32) : gf_rd w (gd_rI w k f) := ⟨fun a _ h => gd_rI_n (by omega), fun j _ => by rw [gd_rI_n (by omega)], rfl⟩
theorem gf_rd.t14 (w : gd_W) (x : Int32) : gf_rd w (gd_rI w 27 (upd (w.1 27) 14 x)) := ⟨fun a h _ => gd_rI_n h, fun j hj => by rw [gd_rI_s, gd_u_n hj], rfl⟩
/-- the rows below k have moved down by one -/
def gs_dn (w w1 : gd_W) (k : Nat) : Prop := gf_rd w w1 ∧ w1.1 27 14 = w.1 27 14 ∧ ∀ a, 37 ≤ a → a ≤ 40 → ∀ j, w1.1 a j = w.1 a (if j < k then j + 1 else j)
theorem gs_dn_up {f g : Nat → Int32} {k : Nat} (h : ∀ j, f j = g (if j < k then j + 1 else j)) (j : Nat) : upd f k (g (k + 1)) j = g (if j < k + 1 then j + 1 else j) := by
  by_cases e : j = k
  · subst e; rw [gd_u_s, if_pos (by omega)]
  · rw [gd_u_n e, h j]
    by_cases e1 : j < k
    · rw [if_pos e1, if_pos (by omega)]
    · rw [if_neg e1, if_neg (by omega)]
theorem gs_dn_step {w w1 : gd_W} {k : Nat} (h : gs_dn w w1 k) {v0 v1 v2 v3 : Int32} (e0 : v0 = w.1 37 (k + 1)) (e1 : v1 = w.1 38 (k + 1)) (e2 : v2 = w.1 39 (k + 1)) (e3 : v3 = w.1 40 (k + 1)) :
    gs_dn w (gd_rI (gd_rI (gd_rI (gd_rI w1 37 (upd (w1.1 37) k v0)) 38 (upd (w1.1 38) k v1)) 39 (upd (w1.1 39) k v2)) 40 (upd (w1.1 40) k v3)) (k + 1) := by
  subst e0; subst e1; subst e2; subst e3
  refine ⟨h.1.trans ((gf_rd.t _ (by decide) _).trans ((gf_rd.t _ (by decide) _).trans ((gf_rd.t _ (by decide) _).trans (gf_rd.t _ (by decide) _)))), h.2.1, fun a h1 h2 j => ?_⟩
  rcases (by omega : a = 37 ∨ a = 38 ∨ a = 39 ∨ a = 40) with rfl | rfl | rfl | rfl
  · exact gs_dn_up (h.2.2 37 (by omega) (by omega)) j
  · exact gs_dn_up (h.2.2 38 (by omega) (by omega)) j
  · exact gs_dn_up (h.2.2 39 (by omega) (by omega)) j
  · exact gs_dn_up (h.2.2 40 (by omega) (by omega)) j
theorem gs_rr_dn {w w1 : gd_W} {rd : List gs_rt} (h : gs_rr w rd) (hl : rd.length = 50) (k : gs_dn w w1 49) : gs_rr (gd_rI w1 27 (upd (w1.1 27) 14 49)) rd.tail := by
  obtain ⟨⟨h1, h2⟩, h3⟩ := h
  refine ⟨⟨by rw [gd_rI_s, gd_u_s, List.length_tail, hl]; rfl, by rw [List.length_tail]; omega⟩, fun j r hr => ?_⟩
  rw [List.getElem?_tail] at hr
  have hj : j + 1 < rd.length := (List.getElem?_eq_some_iff.mp hr).1
  obtain ⟨g1, g2, g3, g4⟩ := h3 (j + 1) r hr
  have e : ∀ a, 37 ≤ a → a ≤ 40 → (gd_rI w1 27 (upd (w1.1 27) 14 49)).1 a j = w.1 a (j + 1) := fun a a1 a2 => by rw [gd_rI_n (by omega), k.2.2 a a1 a2 j, if_pos (by omega)]
  rw [e 37 (by omega) (by omega), e 38 (by omega) (by omega), e 39 (by omega) (by omega), e 40 (by omega) (by omega)]
  exact ⟨g1, g2, g3, g4⟩
theorem gs_rr_push {v : gd_W} {rd : List gs_rt} (h : gs_rr v rd) (hl : rd.length < 50) (x : gs_rt) : gs_rr (gd_rI (gd_rI (gd_rI (gd_rI (gd_rI v 37 (upd (v.1 37) rd.length (nI x.1))) 38 (upd (v.1 38) rd.length x.2.1)) 39 (upd (v.1 39) rd.length (nI x.2.2.1))) 40 (upd (v.1 40) rd.length (nI x.2.2.2))) 27 (upd (v.1 27) 14 (nI rd.length + 1))) (rd ++ [x]) := by
  obtain ⟨⟨h1, h2⟩, h3⟩ := h
  refine ⟨⟨by rw [gd_rI_s, gd_u_s, nI_1, List.length_append]; rfl, by rw [List.length_append]; simp only [List.length_singleton]; omega⟩, fun j r hr => ?_⟩
  show upd (v.1 37) rd.length (nI x.1) j = nI r.1 ∧ upd (v.1 38) rd.length x.2.1 j = r.2.1 ∧ upd (v.1 39) rd.length (nI x.2.2.1) j = nI r.2.2.1 ∧ upd (v.1 40) rd.length (nI x.2.2.2) j = nI r.2.2.2
  by_cases hj : j < rd.length
  · rw [List.getElem?_append_left hj] at hr
    rw [gd_u_n (by omega), gd_u_n (by omega), gd_u_n (by omega), gd_u_n (by omega)]
    exact h3 j r hr
  · rw [List.getElem?_append_right (by omega)] at hr
    have hz : j - rd.length < 1 := (List.getElem?_eq_some_iff.mp hr).1
    have hj2 : j = rd.length := by omega
    subst hj2
    rw [Nat.sub_self] at hr
    cases hr
    rw [gd_u_s, gd_u_s, gd_u_s, gd_u_s]
    exact ⟨rfl, rfl, rfl, rfl⟩
set_option maxRecDepth 100000 in
theorem c2_Mread {l : Launch} {D : va_G} {tC : FieldType → ClassId} {ad : Nat → Nat} (hinj : ∀ i j, ad i = ad j → i = j) (w : gd_W) (rd : List gs_rt) (hrr : gs_rr w rd) (d c0 u : Nat) (t0 : Int32) (hd : d < 60) (hc : w.1 30 d = nI c0) (hu : w.1 29 d = nI u) (ht : w.1 27 1 = t0) : gd_Cp l D tC ad 45 0 0 y_M_read c_M_read 3 none [.ref 27, .int (nI d)] w (fun r w' => r = none ∧ gf_rd w w' ∧ gs_rr w' (gs_push rd (d, t0, c0, u))) := by
  refine gd_Cp_of rfl hinj (Nat.le_of_ble_eq_true rfl) ?_
  intro p e s m args below meth c E hr hlk
  have K := k_M_read
  have hA : ∀ q, gd_A ad 45 s.heap.size q → gd_A ad 45 s.heap.size q := fun _ h => h
  have tail : ∀ rd0 v, rd0.length < 50 → gs_rr v rd0 → gf_rd w v → gs_push rd (d, t0, c0, u) = rd0 ++ [(d, t0, c0, u)] → gd_G p l e (gd_rm 0 0) s m args below meth c D tC ad (gd_A ad 45 s.heap.size) 45 3 0 0 (MQ below (gd_Qp D tC ad 45 s.heap.size (fun r w' => r = none ∧ gf_rd w w' ∧ gs_rr w' (gs_push rd (d, t0, c0, u)))) args s 0 0 (gd_A ad 45 s.heap.size)) 85 [(0, .ref 27), (1, .int (nI d))] [] v := by
    intro rd0 v hl hr0 hf heq
    have hl14 := hr0.1.1
    have ht1 : v.1 27 1 = t0 := by rw [hf.2.1 1 (by decide)]; exact ht
    have hc1 : v.1 30 d = nI c0 := by rw [hf.1 30 (by decide) (by decide)]; exact hc
    have hu1 : v.1 29 d = nI u := by rw [hf.1 29 (by decide) (by decide)]; exact hu
    refine gd_r E K 5 (pc' := 94) (lv' := [(0, .ref 27), (1, .int (nI d))]) (st' := [.int (nI d), .int (v.1 27 14), .ref 37]) (w' := v) rfl ?_
    refine gd_cg (lv' := [(0, .ref 27), (1, .int (nI d))]) (st' := [.int (nI d), .int (nI rd0.length), .ref 37]) (w' := v) ?_ (rfl) (by simp only [hl14]) rfl
    refine gd_iast E (K.1 94 (.iastore, 0) rfl).1 (j := rd0.length) (by decide) (rfl) (rfl) (hl) (by decide) ?_
    refine gd_r E K 6 (pc' := 107) (lv' := [(0, .ref 27), (1, .int (nI d))]) (st' := [.int (v.1 27 1), .int (v.1 27 14), .ref 38]) (w' := gd_rI v 37 (upd (v.1 37) rd0.length (nI d))) rfl ?_
    refine gd_cg (lv' := [(0, .ref 27), (1, .int (nI d))]) (st' := [.int t0, .int (nI rd0.length), .ref 38]) (w' := gd_rI v 37 (upd (v.1 37) rd0.length (nI d))) ?_ (rfl) (by simp only [ht1, hl14]) rfl
    refine gd_iast E (K.1 107 (.iastore, 0) rfl).1 (j := rd0.length) (by decide) (rfl) (rfl) (hl) (by decide) ?_
    refine gd_r E K 7 (pc' := 121) (lv' := [(0, .ref 27), (1, .int (nI d))]) (st' := [.int (nI d), .ref 30, .int (v.1 27 14), .ref 39]) (w' := gd_rI (gd_rI v 37 (upd (v.1 37) rd0.length (nI d))) 38 (upd ((gd_rI v 37 (upd (v.1 37) rd0.length (nI d))).1 38) rd0.length t0)) rfl ?_
    refine gd_cg (lv' := [(0, .ref 27), (1, .int (nI d))]) (st' := [.int (nI d), .ref 30, .int (nI rd0.length), .ref 39]) (w' := gd_rI (gd_rI v 37 (upd (v.1 37) rd0.length (nI d))) 38 (upd ((gd_rI v 37 (upd (v.1 37) rd0.length (nI d))).1 38) rd0.length t0)) ?_ (rfl) (by simp only [hl14]) rfl
    refine gd_ialdv E (K.1 121 (.iaload, 0) rfl).1 (j := d) (by decide) (rfl) (rfl) (hd) (by decide) (v := nI c0) (hc1) ?_
    refine gd_iast E (K.1 122 (.iastore, 0) rfl).1 (j := rd0.length) (by decide) (rfl) (rfl) (hl) (by decide) ?_
    refine gd_r E K 7 (pc' := 136) (lv' := [(0, .ref 27), (1, .int (nI d))]) (st' := [.int (nI d), .ref 29, .int (v.1 27 14), .ref 40]) (w' := gd_rI (gd_rI (gd_rI v 37 (upd (v.1 37) rd0.length (nI d))) 38 (upd ((gd_rI v 37 (upd (v.1 37) rd0.length (nI d))).1 38) rd0.length t0)) 39 (upd ((gd_rI (gd_rI v 37 (upd (v.1 37) rd0.length (nI d))) 38 (upd ((gd_rI v 37 (upd (v.1 37) rd0.length (nI d))).1 38) rd0.length t0)).1 39) rd0.length (nI c0))) rfl ?_
    refine gd_cg (lv' := [(0, .ref 27), (1, .int (nI d))]) (st' := [.int (nI d), .ref 29, .int (nI rd0.length), .ref 40]) (w' := gd_rI (gd_rI (gd_rI v 37 (upd (v.1 37) rd0.length (nI d))) 38 (upd ((gd_rI v 37 (upd (v.1 37) rd0.length (nI d))).1 38) rd0.length t0)) 39 (upd ((gd_rI (gd_rI v 37 (upd (v.1 37) rd0.length (nI d))) 38 (upd ((gd_rI v 37 (upd (v.1 37) rd0.length (nI d))).1 38) rd0.length t0)).1 39) rd0.length (nI c0))) ?_ (rfl) (by simp only [hl14]) rfl
    refine gd_ialdv E (K.1 136 (.iaload, 0) rfl).1 (j := d) (by decide) (rfl) (rfl) (hd) (by decide) (v := nI u) (hu1) ?_
    refine gd_iast E (K.1 137 (.iastore, 0) rfl).1 (j := rd0.length) (by decide) (rfl) (rfl) (hl) (by decide) ?_
    refine gd_r E K 4 (pc' := 144) (lv' := [(0, .ref 27), (1, .int (nI d))]) (st' := [.int 1, .int (v.1 27 14), .ref 27]) (w' := gd_rI (gd_rI (gd_rI (gd_rI v 37 (upd (v.1 37) rd0.length (nI d))) 38 (upd ((gd_rI v 37 (upd (v.1 37) rd0.length (nI d))).1 38) rd0.length t0)) 39 (upd ((gd_rI (gd_rI v 37 (upd (v.1 37) rd0.length (nI d))) 38 (upd ((gd_rI v 37 (upd (v.1 37) rd0.length (nI d))).1 38) rd0.length t0)).1 39) rd0.length (nI c0))) 40 (upd ((gd_rI (gd_rI (gd_rI v 37 (upd (v.1 37) rd0.length (nI d))) 38 (upd ((gd_rI v 37 (upd (v.1 37) rd0.length (nI d))).1 38) rd0.length t0)) 39 (upd ((gd_rI (gd_rI v 37 (upd (v.1 37) rd0.length (nI d))) 38 (upd ((gd_rI v 37 (upd (v.1 37) rd0.length (nI d))).1 38) rd0.length t0)).1 39) rd0.length (nI c0))).1 40) rd0.length (nI u))) rfl ?_
    refine gd_cg (lv' := [(0, .ref 27), (1, .int (nI d))]) (st' := [.int 1, .int (nI rd0.length), .ref 27]) (w' := gd_rI (gd_rI (gd_rI (gd_rI v 37 (upd (v.1 37) rd0.length (nI d))) 38 (upd ((gd_rI v 37 (upd (v.1 37) rd0.length (nI d))).1 38) rd0.length t0)) 39 (upd ((gd_rI (gd_rI v 37 (upd (v.1 37) rd0.length (nI d))) 38 (upd ((gd_rI v 37 (upd (v.1 37) rd0.length (nI d))).1 38) rd0.length t0)).1 39) rd0.length (nI c0))) 40 (upd ((gd_rI (gd_rI (gd_rI v 37 (upd (v.1 37) rd0.length (nI d))) 38 (upd ((gd_rI v 37 (upd (v.1 37) rd0.length (nI d))).1 38) rd0.length t0)) 39 (upd ((gd_rI (gd_rI v 37 (upd (v.1 37) rd0.length (nI d))) 38 (upd ((gd_rI v 37 (upd (v.1 37) rd0.length (nI d))).1 38) rd0.length t0)).1 39) rd0.length (nI c0))).1 40) rd0.length (nI u))) ?_ (rfl) (by simp only [hl14]) rfl
    refine gd_r E K 2 (pc' := 148) (lv' := [(0, .ref 27), (1, .int (nI d))]) (st' := []) (w' := gd_rI (gd_rI (gd_rI (gd_rI (gd_rI v 37 (upd (v.1 37) rd0.length (nI d))) 38 (upd ((gd_rI v 37 (upd (v.1 37) rd0.length (nI d))).1 38) rd0.length t0)) 39 (upd ((gd_rI (gd_rI v 37 (upd (v.1 37) rd0.length (nI d))) 38 (upd ((gd_rI v 37 (upd (v.1 37) rd0.length (nI d))).1 38) rd0.length t0)).1 39) rd0.length (nI c0))) 40 (upd ((gd_rI (gd_rI (gd_rI v 37 (upd (v.1 37) rd0.length (nI d))) 38 (upd ((gd_rI v 37 (upd (v.1 37) rd0.length (nI d))).1 38) rd0.length t0)) 39 (upd ((gd_rI (gd_rI v 37 (upd (v.1 37) rd0.length (nI d))) 38 (upd ((gd_rI v 37 (upd (v.1 37) rd0.length (nI d))).1 38) rd0.length t0)).1 39) rd0.length (nI c0))).1 40) rd0.length (nI u))) 27 (upd ((gd_rI (gd_rI (gd_rI (gd_rI v 37 (upd (v.1 37) rd0.length (nI d))) 38 (upd ((gd_rI v 37 (upd (v.1 37) rd0.length (nI d))).1 38) rd0.length t0)) 39 (upd ((gd_rI (gd_rI v 37 (upd (v.1 37) rd0.length (nI d))) 38 (upd ((gd_rI v 37 (upd (v.1 37) rd0.length (nI d))).1 38) rd0.length t0)).1 39) rd0.length (nI c0))) 40 (upd ((gd_rI (gd_rI (gd_rI v 37 (upd (v.1 37) rd0.length (nI d))) 38 (upd ((gd_rI v 37 (upd (v.1 37) rd0.length (nI d))).1 38) rd0.length t0)) 39 (upd ((gd_rI (gd_rI v 37 (upd (v.1 37) rd0.length (nI d))) 38 (upd ((gd_rI v 37 (upd (v.1 37) rd0.length (nI d))).1 38) rd0.length t0)).1 39) rd0.length (nI c0))).1 40) rd0.length (nI u))).1 27) 14 ((nI rd0.length) + 1))) rfl ?_
    exact gd_vretp E hr hlk (K.1 148 (.return_, 0) rfl).1 (⟨rfl, hf.trans ((gf_rd.t _ (by decide) _).trans ((gf_rd.t _ (by decide) _).trans ((gf_rd.t _ (by decide) _).trans ((gf_rd.t _ (by decide) _).trans (gf_rd.t14 _ _))))), by rw [heq]; exact gs_rr_push hr0 hl (d, t0, c0, u)⟩)
  have shift : rd.length = 50 → ∀ j k w1, k + j = 49 → gs_dn w w1 k → gd_G p l e (gd_rm 0 0) s m args below meth c D tC ad (gd_A ad 45 s.heap.size) 45 3 0 0 (MQ below (gd_Qp D tC ad 45 s.heap.size (fun r w' => r = none ∧ gf_rd w w' ∧ gs_rr w' (gs_push rd (d, t0, c0, u)))) args s 0 0 (gd_A ad 45 s.heap.size)) 11 [(0, .ref 27), (1, .int (nI d)), (2, .int (nI k))] [] w1 := by
    intro h50 j
    induction j with
    | zero =>
        intro k w1 hk hdn
        refine gd_r E K 2 (pc' := 14) (lv' := [(0, .ref 27), (1, .int (nI d)), (2, .int (nI k))]) (st' := [.int 49, .int (nI k)]) (w' := w1) rfl ?_
        refine gd_r E K 1 (pc' := if 49 ≤ (nI k) then 79 else 17) (lv' := [(0, .ref 27), (1, .int (nI d)), (2, .int (nI k))]) (st' := []) (w' := w1) rfl ?_
        refine gd_it (nI_le (show 49 ≤ k by omega) (by omega)) ?_
        refine gd_r E K 3 (pc' := 85) (lv' := [(0, .ref 27), (1, .int (nI d)), (2, .int (nI k))]) (st' := []) (w' := gd_rI w1 27 (upd (w1.1 27) 14 49)) rfl ?_
        refine gd_lvp [0, 1] (lv' := [(0, .ref 27), (1, .int (nI d))]) rfl ?_
        have hk49 : k = 49 := by omega
        rw [hk49] at hdn
        exact gd_cg (tail rd.tail _ (by rw [List.length_tail]; omega) (gs_rr_dn hrr h50 hdn) (hdn.1.trans (gf_rd.t14 _ _)) (by rw [gs_push, if_pos h50])) rfl rfl rfl
    | succ j ih =>
        intro k w1 hk hdn
        refine gd_r E K 2 (pc' := 14) (lv' := [(0, .ref 27), (1, .int (nI d)), (2, .int (nI k))]) (st' := [.int 49, .int (nI k)]) (w' := w1) rfl ?_
        refine gd_r E K 1 (pc' := if 49 ≤ (nI k) then 79 else 17) (lv' := [(0, .ref 27), (1, .int (nI d)), (2, .int (nI k))]) (st' := []) (w' := w1) rfl ?_
        refine gd_if (nI_ge (show k < 49 by omega) (by decide)) ?_
        refine gd_r E K 8 (pc' := 29) (lv' := [(0, .ref 27), (1, .int (nI d)), (2, .int (nI k))]) (st' := [.int ((nI k) + 1), .ref 37, .int (nI k), .ref 37]) (w' := w1) rfl ?_
        refine gd_ialdv E (K.1 29 (.iaload, 0) rfl).1 (j := k + 1) (by decide) (rfl) (by rw [nI_1]) (by omega) (by decide) (v := w.1 37 (k + 1)) (by rw [hdn.2.2 37 (by decide) (by decide), if_neg (by omega)]) ?_
        refine gd_iast E (K.1 30 (.iastore, 0) rfl).1 (j := k) (by decide) (rfl) (rfl) (by omega) (by decide) ?_
        refine gd_r E K 8 (pc' := 43) (lv' := [(0, .ref 27), (1, .int (nI d)), (2, .int (nI k))]) (st' := [.int ((nI k) + 1), .ref 38, .int (nI k), .ref 38]) (w' := gd_rI w1 37 (upd (w1.1 37) k (w.1 37 (k + 1)))) rfl ?_
        refine gd_ialdv E (K.1 43 (.iaload, 0) rfl).1 (j := k + 1) (by decide) (rfl) (by rw [nI_1]) (by omega) (by decide) (v := w.1 38 (k + 1)) (by rw [gd_rI_n (by decide), hdn.2.2 38 (by decide) (by decide), if_neg (by omega)]) ?_
        refine gd_iast E (K.1 44 (.iastore, 0) rfl).1 (j := k) (by decide) (rfl) (rfl) (by omega) (by decide) ?_
        refine gd_r E K 8 (pc' := 57) (lv' := [(0, .ref 27), (1, .int (nI d)), (2, .int (nI k))]) (st' := [.int ((nI k) + 1), .ref 39, .int (nI k), .ref 39]) (w' := gd_rI (gd_rI w1 37 (upd (w1.1 37) k (w.1 37 (k + 1)))) 38 (upd ((gd_rI w1 37 (upd (w1.1 37) k (w.1 37 (k + 1)))).1 38) k (w.1 38 (k + 1)))) rfl ?_
        refine gd_ialdv E (K.1 57 (.iaload, 0) rfl).1 (j := k + 1) (by decide) (rfl) (by rw [nI_1]) (by omega) (by decide) (v := w.1 39 (k + 1)) (by rw [gd_rI_n (by decide), gd_rI_n (by decide), hdn.2.2 39 (by decide) (by decide), if_neg (by omega)]) ?_
        refine gd_iast E (K.1 58 (.iastore, 0) rfl).1 (j := k) (by decide) (rfl) (rfl) (by omega) (by decide) ?_
        refine gd_r E K 8 (pc' := 71) (lv' := [(0, .ref 27), (1, .int (nI d)), (2, .int (nI k))]) (st' := [.int ((nI k) + 1), .ref 40, .int (nI k), .ref 40]) (w' := gd_rI (gd_rI (gd_rI w1 37 (upd (w1.1 37) k (w.1 37 (k + 1)))) 38 (upd ((gd_rI w1 37 (upd (w1.1 37) k (w.1 37 (k + 1)))).1 38) k (w.1 38 (k + 1)))) 39 (upd ((gd_rI (gd_rI w1 37 (upd (w1.1 37) k (w.1 37 (k + 1)))) 38 (upd ((gd_rI w1 37 (upd (w1.1 37) k (w.1 37 (k + 1)))).1 38) k (w.1 38 (k + 1)))).1 39) k (w.1 39 (k + 1)))) rfl ?_
        refine gd_ialdv E (K.1 71 (.iaload, 0) rfl).1 (j := k + 1) (by decide) (rfl) (by rw [nI_1]) (by omega) (by decide) (v := w.1 40 (k + 1)) (by rw [gd_rI_n (by decide), gd_rI_n (by decide), gd_rI_n (by decide), hdn.2.2 40 (by decide) (by decide), if_neg (by omega)]) ?_
        refine gd_iast E (K.1 72 (.iastore, 0) rfl).1 (j := k) (by decide) (rfl) (rfl) (by omega) (by decide) ?_
        refine gd_r E K 2 (pc' := 11) (lv' := [(0, .ref 27), (1, .int (nI d)), (2, .int ((nI k) + 1))]) (st' := []) (w' := gd_rI (gd_rI (gd_rI (gd_rI w1 37 (upd (w1.1 37) k (w.1 37 (k + 1)))) 38 (upd ((gd_rI w1 37 (upd (w1.1 37) k (w.1 37 (k + 1)))).1 38) k (w.1 38 (k + 1)))) 39 (upd ((gd_rI (gd_rI w1 37 (upd (w1.1 37) k (w.1 37 (k + 1)))) 38 (upd ((gd_rI w1 37 (upd (w1.1 37) k (w.1 37 (k + 1)))).1 38) k (w.1 38 (k + 1)))).1 39) k (w.1 39 (k + 1)))) 40 (upd ((gd_rI (gd_rI (gd_rI w1 37 (upd (w1.1 37) k (w.1 37 (k + 1)))) 38 (upd ((gd_rI w1 37 (upd (w1.1 37) k (w.1 37 (k + 1)))).1 38) k (w.1 38 (k + 1)))) 39 (upd ((gd_rI (gd_rI w1 37 (upd (w1.1 37) k (w.1 37 (k + 1)))) 38 (upd ((gd_rI w1 37 (upd (w1.1 37) k (w.1 37 (k + 1)))).1 38) k (w.1 38 (k + 1)))).1 39) k (w.1 39 (k + 1)))).1 40) k (w.1 40 (k + 1)))) rfl ?_
        exact gd_cg (ih (k + 1) _ (by omega) (gs_dn_step hdn rfl rfl rfl rfl)) (by rw [nI_1]) rfl rfl
  have h14 := hrr.1.1
  have h50 := hrr.1.2
  refine gd_r E K 3 (pc' := 6) (lv' := [(0, .ref 27), (1, .int (nI d))]) (st' := [.int 50, .int (w.1 27 14)]) (w' := w) rfl ?_
  refine gd_cg (lv' := [(0, .ref 27), (1, .int (nI d))]) (st' := [.int 50, .int (nI rd.length)]) (w' := w) ?_ (rfl) (by simp only [h14]) rfl
  by_cases hl : rd.length = 50
  · refine gd_r E K 1 (pc' := if (nI rd.length) = 50 then 9 else 85) (lv' := [(0, .ref 27), (1, .int (nI d))]) (st' := []) (w' := w) rfl ?_
    refine gd_it (by rw [hl]; rfl) ?_
    refine gd_r E K 2 (pc' := 11) (lv' := [(0, .ref 27), (1, .int (nI d)), (2, .int 0)]) (st' := []) (w' := w) rfl ?_
    exact gd_cg (shift hl 49 0 w (by omega) ⟨gf_rd.refl w, rfl, fun a _ _ j => by rw [if_neg (by omega)]⟩) rfl rfl rfl
  · refine gd_r E K 1 (pc' := if (nI rd.length) = 50 then 9 else 85) (lv' := [(0, .ref 27), (1, .int (nI d))]) (st' := []) (w' := w) rfl ?_
    refine gd_if (by rw [show (50 : Int32) = nI 50 from rfl, nI_eq (by omega) (by decide)]; exact hl) ?_
    exact gd_cg (tail rd w (by omega) hrr (gf_rd.refl w) (by rw [gs_push, if_neg hl])) rfl rfl rfl
set_option maxRecDepth 100000 in
theorem c2_left2 {l : Launch} {D : va_G} {tC : FieldType → ClassId} {ad : Nat → Nat} (hinj : ∀ i j, ad i = ad j → i = j) (w : gd_W) (d g0 l0 : Nat) (hd : d < 60) (h1 : w.1 34 d = nI (g0 + l0)) (h2 : w.1 35 d = nI g0) : gd_Ct l D tC ad 45 0 0 y_M_left c_M_left 2 (some .int) [.ref 27, .int (nI d)] w (some (.int (nI l0))) w := by
  refine gd_Ct_of rfl hinj (Nat.le_of_ble_eq_true rfl) ?_
  intro p e s m args below meth c E hr hlk
  have K := k_M_left
  have hA : ∀ q, gd_A ad 45 s.heap.size q → gd_A ad 45 s.heap.size q := fun _ h => h
  refine gd_r E K 3 (pc' := 5) (lv' := [(0, .ref 27), (1, .int (nI d))]) (st' := [.int (nI d), .ref 34]) (w' := w) rfl ?_
  refine gd_ialdv E (K.1 5 (.iaload, 0) rfl).1 (j := d) (by decide) (rfl) (rfl) (hd) (by decide) (v := nI (g0 + l0)) (h1) ?_
  refine gd_r E K 3 (pc' := 11) (lv' := [(0, .ref 27), (1, .int (nI d))]) (st' := [.int (nI d), .ref 35, .int (nI (g0 + l0))]) (w' := w) rfl ?_
  refine gd_ialdv E (K.1 11 (.iaload, 0) rfl).1 (j := d) (by decide) (rfl) (rfl) (hd) (by decide) (v := nI g0) (h2) ?_
  refine gd_r E K 1 (pc' := 13) (lv' := [(0, .ref 27), (1, .int (nI d))]) (st' := [.int ((nI (g0 + l0)) - (nI g0))]) (w' := w) rfl ?_
  exact gd_iretq E hr hlk (K.1 13 (.ireturn, 0) rfl).1 (by rw [pk_sub (by omega)]; congr 1; omega) (rfl)
