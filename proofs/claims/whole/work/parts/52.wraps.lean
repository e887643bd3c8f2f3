theorem gd_xr1 {p : Program} {l : Launch} {e : Env} {R : Room} {s : State} {m : MethodId} {args : Array Value} {below : List Frame} {meth : Method} {c : Code} {D : va_G} {tC : FieldType → ClassId} {ad : Nat → Nat} {A : Nat → Prop} {n nL pc : Nat} {lv : List (Nat × Value)} {st : List Value} {w : gd_W} {post : Option Value → gd_W → Prop} {XC : String → State → State → Prop} (k : gd_G p l e R s m args below meth c D tC ad A n nL 1 6 (MQ below (gd_Qp D tC ad n s.heap.size post) args s 1 6 A) pc lv st w) : gd_G p l e R s m args below meth c D tC ad A n nL 1 6 (vx_MQ below (gd_Qp D tC ad n s.heap.size post) XC args s 1 6 A) pc lv st w :=
  fun H locs ls hP hS hl => vx_ret (k H locs ls hP hS hl)

set_option maxRecDepth 100000 in
theorem c4_dispense {l : Launch} (hls : l.stackTraces = false) {D : va_G} {tC : FieldType → ClassId} {ad : Nat → Nat} (hinj : ∀ i j, ad i = ad j → i = j) {S : gs_T} {o : Nat → Nat} (w : gd_W) (hC : gr_C w S o) (hG : gs_Good S) (x : Int32) : gd_Cw l D tC ad 45 7 140 y_A_dispense c_A_dispense 4 [(0, 9, 12, 13), (0, 9, 15, 15), (0, 9, 18, 17)] [.ref 0, .int x, .ref 44] w (gd_wp ((gs_disp S x).2.2) ((gs_disp S x).1) ((nI (gs_disp S x).2.1).toInt64) w) := by
  refine gd_Cw_of rfl hinj (Nat.le_of_ble_eq_true rfl) ?_
  intro p e s m args below meth c E X ht hr hlk
  have K := k_A_dispense
  have hA : ∀ q, gd_A ad 45 s.heap.size q → gd_A ad 45 s.heap.size q := fun _ h => h
  refine gd_r E K 4 (pc' := 4) (lv' := [(0, .ref 0), (1, .int x), (2, .ref 44)]) (st' := [.int x, .ref 0, .int 0, .ref 44]) (w' := w) rfl ?_
  refine gd_cVx E X hA (av := [.int x]) (rest := [.int 0, .ref 44]) (c3_Gdispense hls hinj w hC hG x) (K.1 4 (.invokevirtual 7, 0) rfl).1 ml_A_7 cv_G_dispense (by decide) rfl ⟨Nat.le_of_ble_eq_true rfl, Nat.le_of_ble_eq_true rfl⟩ ⟨Nat.le_refl _, Nat.le_refl _⟩ rfl (Nat.le_of_ble_eq_true rfl) (gd_in 215 rfl rfl) (fun r9 w2 h9 => ?_) (fun E0 w2 h9 H locs ls q ce hP hS hl hce hv hcl => ?_)
  · obtain ⟨hc0, rfl, hC2, g2⟩ := h9
    refine gd_r E K 1 (pc' := 8) (lv' := [(0, .ref 0), (1, .int x), (2, .ref 44)]) (st' := [.long ((nI (gs_disp S x).2.1).toInt64), .int 0, .ref 44]) (w' := w2) rfl ?_
    refine gd_last E (K.1 8 (.lastore, 0) rfl).1 (j := 0) (by decide) (rfl) (rfl) (by decide) (by decide) ?_
    refine gd_r E K 2 (pc' := 22) (lv' := [(0, .ref 0), (1, .int x), (2, .ref 44)]) (st' := [.int 0]) (w' := gd_rL w2 44 (vp_updL (w2.2.1 44) 0 ((nI (gs_disp S x).2.1).toInt64))) rfl ?_
    refine gd_xr1 ?_
    exact gd_iretp E hr hlk (K.1 22 (.ireturn, 0) rfl).1 (gd_wp_ok hc0 hC2 g2)
  · rcases h9 with ⟨hc, rfl, hC2, g2⟩ | ⟨hc, rfl, hC2, g2⟩ | ⟨hc, rfl, hC2, g2⟩
    · exact gd_catch E X hr hlk ht (E0 := "java/lang/IllegalArgumentException") (v := 1) [] ⟨0, 9, 12, 13⟩ [⟨0, 9, 15, 15⟩, ⟨0, 9, 18, 17⟩] rfl (fun z hz => nomatch hz) (by decide) (by decide) (gd_in 212 rfl rfl) (List.mem_filter.mpr ⟨List.mem_append_right _ (List.mem_of_getElem? (i := 221) rfl), rfl⟩) (⟨1, rfl, Or.inl ⟨(3 : Fin 4), by decide, (K.1 12 (.astore_n 3, 0) rfl).1, (K.1 13 (.iconst 1, 0) rfl).1, (K.1 14 (.ireturn, 0) rfl).1⟩⟩) (gd_wp_no hc (by decide) rfl (gs_disp_no (by rw [hc]; decide)) hC2 g2) hP hS hl hce hv hcl
    · exact gd_catch E X hr hlk ht (E0 := "java/util/NoSuchElementException") (v := 2) [⟨0, 9, 12, 13⟩] ⟨0, 9, 15, 15⟩ [⟨0, 9, 18, 17⟩] rfl (fun z hz => by simp only [List.mem_cons, List.not_mem_nil, or_false] at hz; subst hz; exact ⟨by decide, "java/lang/IllegalArgumentException", gd_in 212 rfl rfl, by decide⟩) (by decide) (by decide) (gd_in 213 rfl rfl) (List.mem_filter.mpr ⟨List.mem_append_right _ (List.mem_of_getElem? (i := 330) rfl), rfl⟩) (⟨2, rfl, Or.inl ⟨(3 : Fin 4), by decide, (K.1 15 (.astore_n 3, 0) rfl).1, (K.1 16 (.iconst 2, 0) rfl).1, (K.1 17 (.ireturn, 0) rfl).1⟩⟩) (gd_wp_no hc (by decide) rfl (gs_disp_no (by rw [hc]; decide)) hC2 g2) hP hS hl hce hv hcl
    · exact gd_catch E X hr hlk ht (E0 := "java/lang/IllegalStateException") (v := 3) [⟨0, 9, 12, 13⟩, ⟨0, 9, 15, 15⟩] ⟨0, 9, 18, 17⟩ [] rfl (fun z hz => by simp only [List.mem_cons, List.not_mem_nil, or_false] at hz; rcases hz with rfl | rfl; (exact ⟨by decide, "java/lang/IllegalArgumentException", gd_in 212 rfl rfl, by decide⟩); (exact ⟨by decide, "java/util/NoSuchElementException", gd_in 213 rfl rfl, by decide⟩)) (by decide) (by decide) (gd_in 214 rfl rfl) (List.mem_filter.mpr ⟨List.mem_append_right _ (List.mem_of_getElem? (i := 346) rfl), rfl⟩) (⟨3, rfl, Or.inl ⟨(3 : Fin 4), by decide, (K.1 18 (.astore_n 3, 0) rfl).1, (K.1 19 (.iconst 3, 0) rfl).1, (K.1 20 (.ireturn, 0) rfl).1⟩⟩) (gd_wp_no hc (by decide) rfl (gs_disp_no (by rw [hc]; decide)) hC2 g2) hP hS hl hce hv hcl

set_option maxRecDepth 100000 in
theorem c4_send {l : Launch} (hls : l.stackTraces = false) {D : va_G} {tC : FieldType → ClassId} {ad : Nat → Nat} (hinj : ∀ i j, ad i = ad j → i = j) {S : gs_T} {o : Nat → Nat} (w : gd_W) (hC : gr_C w S o) (hG : gs_Good S) (d x y : Int32) : gd_Cw l D tC ad 45 7 120 y_A_send c_A_send 6 [(0, 12, 15, 13), (0, 12, 19, 17), (0, 12, 23, 15)] [.ref 0, .int d, .int x, .int y, .ref 44] w (gd_wp ((gs_send S d x y).2.2) ((gs_send S d x y).1) ((nI (gs_send S d x y).2.1).toInt64) w) := by
  refine gd_Cw_of rfl hinj (Nat.le_of_ble_eq_true rfl) ?_
  intro p e s m args below meth c E X ht hr hlk
  have K := k_A_send
  have hA : ∀ q, gd_A ad 45 s.heap.size q → gd_A ad 45 s.heap.size q := fun _ h => h
  refine gd_r E K 6 (pc' := 7) (lv' := [(0, .ref 0), (1, .int d), (2, .int x), (3, .int y), (4, .ref 44)]) (st' := [.int y, .int x, .int d, .ref 0, .int 0, .ref 44]) (w' := w) rfl ?_
  refine gd_cVx E X hA (av := [.int d, .int x, .int y]) (rest := [.int 0, .ref 44]) (c3_Gsend hls hinj w hC hG d x y) (K.1 7 (.invokevirtual 19, 0) rfl).1 ml_A_19 cv_G_send (by decide) rfl ⟨Nat.le_of_ble_eq_true rfl, Nat.le_of_ble_eq_true rfl⟩ ⟨Nat.le_refl _, Nat.le_refl _⟩ rfl (Nat.le_of_ble_eq_true rfl) (gd_in 376 rfl rfl) (fun r9 w2 h9 => ?_) (fun E0 w2 h9 H locs ls q ce hP hS hl hce hv hcl => ?_)
  · obtain ⟨hc0, rfl, hC2, g2⟩ := h9
    refine gd_r E K 1 (pc' := 11) (lv' := [(0, .ref 0), (1, .int d), (2, .int x), (3, .int y), (4, .ref 44)]) (st' := [.long ((nI (gs_send S d x y).2.1).toInt64), .int 0, .ref 44]) (w' := w2) rfl ?_
    refine gd_last E (K.1 11 (.lastore, 0) rfl).1 (j := 0) (by decide) (rfl) (rfl) (by decide) (by decide) ?_
    refine gd_r E K 2 (pc' := 28) (lv' := [(0, .ref 0), (1, .int d), (2, .int x), (3, .int y), (4, .ref 44)]) (st' := [.int 0]) (w' := gd_rL w2 44 (vp_updL (w2.2.1 44) 0 ((nI (gs_send S d x y).2.1).toInt64))) rfl ?_
    refine gd_xr1 ?_
    exact gd_iretp E hr hlk (K.1 28 (.ireturn, 0) rfl).1 (gd_wp_ok hc0 hC2 g2)
  · rcases h9 with ⟨hc, rfl, hC2, g2⟩ | ⟨hc, rfl, hC2, g2⟩ | ⟨hc, rfl, hC2, g2⟩
    · exact gd_catch E X hr hlk ht (E0 := "java/lang/IllegalArgumentException") (v := 1) [] ⟨0, 12, 15, 13⟩ [⟨0, 12, 19, 17⟩, ⟨0, 12, 23, 15⟩] rfl (fun z hz => nomatch hz) (by decide) (by decide) (gd_in 212 rfl rfl) (List.mem_filter.mpr ⟨List.mem_append_right _ (List.mem_of_getElem? (i := 221) rfl), rfl⟩) (⟨1, rfl, Or.inr ⟨5, by decide, (K.1 15 (.astore 5, 0) rfl).1, (K.1 17 (.iconst 1, 0) rfl).1, (K.1 18 (.ireturn, 0) rfl).1⟩⟩) (gd_wp_no hc (by decide) rfl (gs_send_no (by rw [hc]; decide)) hC2 g2) hP hS hl hce hv hcl
    · exact gd_catch E X hr hlk ht (E0 := "java/lang/IllegalStateException") (v := 2) [⟨0, 12, 15, 13⟩] ⟨0, 12, 19, 17⟩ [⟨0, 12, 23, 15⟩] rfl (fun z hz => by simp only [List.mem_cons, List.not_mem_nil, or_false] at hz; subst hz; exact ⟨by decide, "java/lang/IllegalArgumentException", gd_in 212 rfl rfl, by decide⟩) (by decide) (by decide) (gd_in 214 rfl rfl) (List.mem_filter.mpr ⟨List.mem_append_right _ (List.mem_of_getElem? (i := 346) rfl), rfl⟩) (⟨2, rfl, Or.inr ⟨5, by decide, (K.1 19 (.astore 5, 0) rfl).1, (K.1 21 (.iconst 2, 0) rfl).1, (K.1 22 (.ireturn, 0) rfl).1⟩⟩) (gd_wp_no hc (by decide) rfl (gs_send_no (by rw [hc]; decide)) hC2 g2) hP hS hl hce hv hcl
    · exact gd_catch E X hr hlk ht (E0 := "java/util/NoSuchElementException") (v := 3) [⟨0, 12, 15, 13⟩, ⟨0, 12, 19, 17⟩] ⟨0, 12, 23, 15⟩ [] rfl (fun z hz => by simp only [List.mem_cons, List.not_mem_nil, or_false] at hz; rcases hz with rfl | rfl; (exact ⟨by decide, "java/lang/IllegalArgumentException", gd_in 212 rfl rfl, by decide⟩); (exact ⟨by decide, "java/lang/IllegalStateException", gd_in 214 rfl rfl, by decide⟩)) (by decide) (by decide) (gd_in 213 rfl rfl) (List.mem_filter.mpr ⟨List.mem_append_right _ (List.mem_of_getElem? (i := 330) rfl), rfl⟩) (⟨3, rfl, Or.inr ⟨5, by decide, (K.1 23 (.astore 5, 0) rfl).1, (K.1 25 (.iconst 3, 0) rfl).1, (K.1 26 (.ireturn, 0) rfl).1⟩⟩) (gd_wp_no hc (by decide) rfl (gs_send_no (by rw [hc]; decide)) hC2 g2) hP hS hl hce hv hcl

set_option maxRecDepth 100000 in
theorem c4_join {l : Launch} (hls : l.stackTraces = false) {D : va_G} {tC : FieldType → ClassId} {ad : Nat → Nat} (hinj : ∀ i j, ad i = ad j → i = j) {S : gs_T} {o : Nat → Nat} (w : gd_W) (hC : gr_C w S o) (hG : gs_Good S) (d x : Int32) : gd_Cw l D tC ad 45 7 119 y_A_join c_A_join 5 [(0, 10, 13, 13), (0, 10, 17, 17), (0, 10, 21, 15)] [.ref 0, .int d, .int x, .ref 44] w (gd_wp ((gs_join S d x).2.2) ((gs_join S d x).1) ((nI (gs_join S d x).2.1).toInt64) w) := by
  refine gd_Cw_of rfl hinj (Nat.le_of_ble_eq_true rfl) ?_
  intro p e s m args below meth c E X ht hr hlk
  have K := k_A_join
  have hA : ∀ q, gd_A ad 45 s.heap.size q → gd_A ad 45 s.heap.size q := fun _ h => h
  refine gd_r E K 5 (pc' := 5) (lv' := [(0, .ref 0), (1, .int d), (2, .int x), (3, .ref 44)]) (st' := [.int x, .int d, .ref 0, .int 0, .ref 44]) (w' := w) rfl ?_
  refine gd_cVx E X hA (av := [.int d, .int x]) (rest := [.int 0, .ref 44]) (c3_Gjoin hls hinj w hC hG d x) (K.1 5 (.invokevirtual 23, 0) rfl).1 ml_A_23 cv_G_join (by decide) rfl ⟨Nat.le_of_ble_eq_true rfl, Nat.le_of_ble_eq_true rfl⟩ ⟨Nat.le_refl _, Nat.le_refl _⟩ rfl (Nat.le_of_ble_eq_true rfl) (gd_in 417 rfl rfl) (fun r9 w2 h9 => ?_) (fun E0 w2 h9 H locs ls q ce hP hS hl hce hv hcl => ?_)
  · obtain ⟨hc0, rfl, hC2, g2⟩ := h9
    refine gd_r E K 1 (pc' := 9) (lv' := [(0, .ref 0), (1, .int d), (2, .int x), (3, .ref 44)]) (st' := [.long ((nI (gs_join S d x).2.1).toInt64), .int 0, .ref 44]) (w' := w2) rfl ?_
    refine gd_last E (K.1 9 (.lastore, 0) rfl).1 (j := 0) (by decide) (rfl) (rfl) (by decide) (by decide) ?_
    refine gd_r E K 2 (pc' := 26) (lv' := [(0, .ref 0), (1, .int d), (2, .int x), (3, .ref 44)]) (st' := [.int 0]) (w' := gd_rL w2 44 (vp_updL (w2.2.1 44) 0 ((nI (gs_join S d x).2.1).toInt64))) rfl ?_
    refine gd_xr1 ?_
    exact gd_iretp E hr hlk (K.1 26 (.ireturn, 0) rfl).1 (gd_wp_ok hc0 hC2 g2)
  · rcases h9 with ⟨hc, rfl, hC2, g2⟩ | ⟨hc, rfl, hC2, g2⟩ | ⟨hc, rfl, hC2, g2⟩
    · exact gd_catch E X hr hlk ht (E0 := "java/lang/IllegalArgumentException") (v := 1) [] ⟨0, 10, 13, 13⟩ [⟨0, 10, 17, 17⟩, ⟨0, 10, 21, 15⟩] rfl (fun z hz => nomatch hz) (by decide) (by decide) (gd_in 212 rfl rfl) (List.mem_filter.mpr ⟨List.mem_append_right _ (List.mem_of_getElem? (i := 221) rfl), rfl⟩) (⟨1, rfl, Or.inr ⟨4, by decide, (K.1 13 (.astore 4, 0) rfl).1, (K.1 15 (.iconst 1, 0) rfl).1, (K.1 16 (.ireturn, 0) rfl).1⟩⟩) (gd_wp_no hc (by decide) rfl (gs_join_no (by rw [hc]; decide)) hC2 g2) hP hS hl hce hv hcl
    · exact gd_catch E X hr hlk ht (E0 := "java/lang/IllegalStateException") (v := 2) [⟨0, 10, 13, 13⟩] ⟨0, 10, 17, 17⟩ [⟨0, 10, 21, 15⟩] rfl (fun z hz => by simp only [List.mem_cons, List.not_mem_nil, or_false] at hz; subst hz; exact ⟨by decide, "java/lang/IllegalArgumentException", gd_in 212 rfl rfl, by decide⟩) (by decide) (by decide) (gd_in 214 rfl rfl) (List.mem_filter.mpr ⟨List.mem_append_right _ (List.mem_of_getElem? (i := 346) rfl), rfl⟩) (⟨2, rfl, Or.inr ⟨4, by decide, (K.1 17 (.astore 4, 0) rfl).1, (K.1 19 (.iconst 2, 0) rfl).1, (K.1 20 (.ireturn, 0) rfl).1⟩⟩) (gd_wp_no hc (by decide) rfl (gs_join_no (by rw [hc]; decide)) hC2 g2) hP hS hl hce hv hcl
    · exact gd_catch E X hr hlk ht (E0 := "java/util/NoSuchElementException") (v := 3) [⟨0, 10, 13, 13⟩, ⟨0, 10, 17, 17⟩] ⟨0, 10, 21, 15⟩ [] rfl (fun z hz => by simp only [List.mem_cons, List.not_mem_nil, or_false] at hz; rcases hz with rfl | rfl; (exact ⟨by decide, "java/lang/IllegalArgumentException", gd_in 212 rfl rfl, by decide⟩); (exact ⟨by decide, "java/lang/IllegalStateException", gd_in 214 rfl rfl, by decide⟩)) (by decide) (by decide) (gd_in 213 rfl rfl) (List.mem_filter.mpr ⟨List.mem_append_right _ (List.mem_of_getElem? (i := 330) rfl), rfl⟩) (⟨3, rfl, Or.inr ⟨4, by decide, (K.1 21 (.astore 4, 0) rfl).1, (K.1 23 (.iconst 3, 0) rfl).1, (K.1 24 (.ireturn, 0) rfl).1⟩⟩) (gd_wp_no hc (by decide) rfl (gs_join_no (by rw [hc]; decide)) hC2 g2) hP hS hl hce hv hcl

set_option maxRecDepth 100000 in
theorem c4_halveU {l : Launch} (hls : l.stackTraces = false) {D : va_G} {tC : FieldType → ClassId} {ad : Nat → Nat} (hinj : ∀ i j, ad i = ad j → i = j) {S : gs_T} {o : Nat → Nat} (w : gd_W) (hC : gr_C w S o) (hG : gs_Good S) (d : Int32) : gd_Cw l D tC ad 45 7 120 y_A_halve c_A_halve 5 [(0, 10, 13, 13), (0, 10, 17, 17)] [.ref 0, .int d, .int 1, .ref 44] w (gd_wp ((gs_halve S d true).2.2) ((gs_halve S d true).1) ((nI (gs_halve S d true).2.1).toInt64) w) := by
  refine gd_Cw_of rfl hinj (Nat.le_of_ble_eq_true rfl) ?_
  intro p e s m args below meth c E X ht hr hlk
  have K := k_A_halve
  have hA : ∀ q, gd_A ad 45 s.heap.size q → gd_A ad 45 s.heap.size q := fun _ h => h
  refine gd_r E K 5 (pc' := 5) (lv' := [(0, .ref 0), (1, .int d), (2, .int 1), (3, .ref 44)]) (st' := [.int 1, .int d, .ref 0, .int 0, .ref 44]) (w' := w) rfl ?_
  refine gd_cVx E X hA (av := [.int d, .int 1]) (rest := [.int 0, .ref 44]) (c3_GhalveU hls hinj w hC hG d) (K.1 5 (.invokevirtual 27, 0) rfl).1 ml_A_27 cv_G_halve (by decide) rfl ⟨Nat.le_of_ble_eq_true rfl, Nat.le_of_ble_eq_true rfl⟩ ⟨Nat.le_refl _, Nat.le_refl _⟩ rfl (Nat.le_of_ble_eq_true rfl) (gd_in 426 rfl rfl) (fun r9 w2 h9 => ?_) (fun E0 w2 h9 H locs ls q ce hP hS hl hce hv hcl => ?_)
  · obtain ⟨hc0, rfl, hC2, g2⟩ := h9
    refine gd_r E K 1 (pc' := 9) (lv' := [(0, .ref 0), (1, .int d), (2, .int 1), (3, .ref 44)]) (st' := [.long ((nI (gs_halve S d true).2.1).toInt64), .int 0, .ref 44]) (w' := w2) rfl ?_
    refine gd_last E (K.1 9 (.lastore, 0) rfl).1 (j := 0) (by decide) (rfl) (rfl) (by decide) (by decide) ?_
    refine gd_r E K 2 (pc' := 22) (lv' := [(0, .ref 0), (1, .int d), (2, .int 1), (3, .ref 44)]) (st' := [.int 0]) (w' := gd_rL w2 44 (vp_updL (w2.2.1 44) 0 ((nI (gs_halve S d true).2.1).toInt64))) rfl ?_
    refine gd_xr1 ?_
    exact gd_iretp E hr hlk (K.1 22 (.ireturn, 0) rfl).1 (gd_wp_ok hc0 hC2 g2)
  · rcases h9 with ⟨hc, rfl, hC2, g2⟩ | ⟨hc, rfl, hC2, g2⟩
    · exact gd_catch E X hr hlk ht (E0 := "java/lang/IllegalArgumentException") (v := 1) [] ⟨0, 10, 13, 13⟩ [⟨0, 10, 17, 17⟩] rfl (fun z hz => nomatch hz) (by decide) (by decide) (gd_in 212 rfl rfl) (List.mem_filter.mpr ⟨List.mem_append_right _ (List.mem_of_getElem? (i := 221) rfl), rfl⟩) (⟨1, rfl, Or.inr ⟨4, by decide, (K.1 13 (.astore 4, 0) rfl).1, (K.1 15 (.iconst 1, 0) rfl).1, (K.1 16 (.ireturn, 0) rfl).1⟩⟩) (gd_wp_no hc (by decide) rfl (gs_halve_no (by rw [hc]; decide)) hC2 g2) hP hS hl hce hv hcl
    · exact gd_catch E X hr hlk ht (E0 := "java/lang/IllegalStateException") (v := 2) [⟨0, 10, 13, 13⟩] ⟨0, 10, 17, 17⟩ [] rfl (fun z hz => by simp only [List.mem_cons, List.not_mem_nil, or_false] at hz; subst hz; exact ⟨by decide, "java/lang/IllegalArgumentException", gd_in 212 rfl rfl, by decide⟩) (by decide) (by decide) (gd_in 214 rfl rfl) (List.mem_filter.mpr ⟨List.mem_append_right _ (List.mem_of_getElem? (i := 346) rfl), rfl⟩) (⟨2, rfl, Or.inr ⟨4, by decide, (K.1 17 (.astore 4, 0) rfl).1, (K.1 19 (.iconst 2, 0) rfl).1, (K.1 20 (.ireturn, 0) rfl).1⟩⟩) (gd_wp_no hc (by decide) rfl (gs_halve_no (by rw [hc]; decide)) hC2 g2) hP hS hl hce hv hcl

set_option maxRecDepth 100000 in
theorem c4_halveS {l : Launch} (hls : l.stackTraces = false) {D : va_G} {tC : FieldType → ClassId} {ad : Nat → Nat} (hinj : ∀ i j, ad i = ad j → i = j) {S : gs_T} {o : Nat → Nat} (w : gd_W) (hC : gr_C w S o) (hG : gs_Good S) (d : Int32) : gd_Cw l D tC ad 45 7 120 y_A_halve c_A_halve 5 [(0, 10, 13, 13), (0, 10, 17, 17)] [.ref 0, .int d, .int 0, .ref 44] w (gd_wp ((gs_halve S d false).2.2) ((gs_halve S d false).1) ((nI (gs_halve S d false).2.1).toInt64) w) := by
  refine gd_Cw_of rfl hinj (Nat.le_of_ble_eq_true rfl) ?_
  intro p e s m args below meth c E X ht hr hlk
  have K := k_A_halve
  have hA : ∀ q, gd_A ad 45 s.heap.size q → gd_A ad 45 s.heap.size q := fun _ h => h
  refine gd_r E K 5 (pc' := 5) (lv' := [(0, .ref 0), (1, .int d), (2, .int 0), (3, .ref 44)]) (st' := [.int 0, .int d, .ref 0, .int 0, .ref 44]) (w' := w) rfl ?_
  refine gd_cVx E X hA (av := [.int d, .int 0]) (rest := [.int 0, .ref 44]) (c3_GhalveS hls hinj w hC hG d) (K.1 5 (.invokevirtual 27, 0) rfl).1 ml_A_27 cv_G_halve (by decide) rfl ⟨Nat.le_of_ble_eq_true rfl, Nat.le_of_ble_eq_true rfl⟩ ⟨Nat.le_refl _, Nat.le_refl _⟩ rfl (Nat.le_of_ble_eq_true rfl) (gd_in 426 rfl rfl) (fun r9 w2 h9 => ?_) (fun E0 w2 h9 H locs ls q ce hP hS hl hce hv hcl => ?_)
  · obtain ⟨hc0, rfl, hC2, g2⟩ := h9
    refine gd_r E K 1 (pc' := 9) (lv' := [(0, .ref 0), (1, .int d), (2, .int 0), (3, .ref 44)]) (st' := [.long ((nI (gs_halve S d false).2.1).toInt64), .int 0, .ref 44]) (w' := w2) rfl ?_
    refine gd_last E (K.1 9 (.lastore, 0) rfl).1 (j := 0) (by decide) (rfl) (rfl) (by decide) (by decide) ?_
    refine gd_r E K 2 (pc' := 22) (lv' := [(0, .ref 0), (1, .int d), (2, .int 0), (3, .ref 44)]) (st' := [.int 0]) (w' := gd_rL w2 44 (vp_updL (w2.2.1 44) 0 ((nI (gs_halve S d false).2.1).toInt64))) rfl ?_
    refine gd_xr1 ?_
    exact gd_iretp E hr hlk (K.1 22 (.ireturn, 0) rfl).1 (gd_wp_ok hc0 hC2 g2)
  · rcases h9 with ⟨hc, rfl, hC2, g2⟩ | ⟨hc, rfl, hC2, g2⟩
    · exact gd_catch E X hr hlk ht (E0 := "java/lang/IllegalArgumentException") (v := 1) [] ⟨0, 10, 13, 13⟩ [⟨0, 10, 17, 17⟩] rfl (fun z hz => nomatch hz) (by decide) (by decide) (gd_in 212 rfl rfl) (List.mem_filter.mpr ⟨List.mem_append_right _ (List.mem_of_getElem? (i := 221) rfl), rfl⟩) (⟨1, rfl, Or.inr ⟨4, by decide, (K.1 13 (.astore 4, 0) rfl).1, (K.1 15 (.iconst 1, 0) rfl).1, (K.1 16 (.ireturn, 0) rfl).1⟩⟩) (gd_wp_no hc (by decide) rfl (gs_halve_no (by rw [hc]; decide)) hC2 g2) hP hS hl hce hv hcl
    · exact gd_catch E X hr hlk ht (E0 := "java/lang/IllegalStateException") (v := 2) [⟨0, 10, 13, 13⟩] ⟨0, 10, 17, 17⟩ [] rfl (fun z hz => by simp only [List.mem_cons, List.not_mem_nil, or_false] at hz; subst hz; exact ⟨by decide, "java/lang/IllegalArgumentException", gd_in 212 rfl rfl, by decide⟩) (by decide) (by decide) (gd_in 214 rfl rfl) (List.mem_filter.mpr ⟨List.mem_append_right _ (List.mem_of_getElem? (i := 346) rfl), rfl⟩) (⟨2, rfl, Or.inr ⟨4, by decide, (K.1 17 (.astore 4, 0) rfl).1, (K.1 19 (.iconst 2, 0) rfl).1, (K.1 20 (.ireturn, 0) rfl).1⟩⟩) (gd_wp_no hc (by decide) rfl (gs_halve_no (by rw [hc]; decide)) hC2 g2) hP hS hl hce hv hcl

set_option maxRecDepth 100000 in
theorem c4_discard {l : Launch} (hls : l.stackTraces = false) {D : va_G} {tC : FieldType → ClassId} {ad : Nat → Nat} (hinj : ∀ i j, ad i = ad j → i = j) {S : gs_T} {o : Nat → Nat} (w : gd_W) (hC : gr_C w S o) (hG : gs_Good S) (d : Int32) : gd_Cw l D tC ad 45 7 105 y_A_discard c_A_discard 4 [(0, 9, 12, 13), (0, 9, 15, 17)] [.ref 0, .int d, .ref 44] w (gd_wp (gs_discS S d) (gs_discc S d) ((nI (gs_discv S d)).toInt64) w) := by
  refine gd_Cw_of rfl hinj (Nat.le_of_ble_eq_true rfl) ?_
  intro p e s m args below meth c E X ht hr hlk
  have K := k_A_discard
  have hA : ∀ q, gd_A ad 45 s.heap.size q → gd_A ad 45 s.heap.size q := fun _ h => h
  refine gd_r E K 4 (pc' := 4) (lv' := [(0, .ref 0), (1, .int d), (2, .ref 44)]) (st' := [.int d, .ref 0, .int 0, .ref 44]) (w' := w) rfl ?_
  refine gd_cVx E X hA (av := [.int d]) (rest := [.int 0, .ref 44]) (c3_Gdiscard hls hinj w hC hG d) (K.1 4 (.invokevirtual 31, 0) rfl).1 ml_A_31 cv_G_discard (by decide) rfl ⟨Nat.le_of_ble_eq_true rfl, Nat.le_of_ble_eq_true rfl⟩ ⟨Nat.le_refl _, Nat.le_refl _⟩ rfl (Nat.le_of_ble_eq_true rfl) (gd_in 452 rfl rfl) (fun r9 w2 h9 => ?_) (fun E0 w2 h9 H locs ls q ce hP hS hl hce hv hcl => ?_)
  · obtain ⟨hc0, rfl, hC2, g2⟩ := h9
    refine gd_r E K 1 (pc' := 8) (lv' := [(0, .ref 0), (1, .int d), (2, .ref 44)]) (st' := [.long ((nI (gs_discv S d)).toInt64), .int 0, .ref 44]) (w' := w2) rfl ?_
    refine gd_last E (K.1 8 (.lastore, 0) rfl).1 (j := 0) (by decide) (rfl) (rfl) (by decide) (by decide) ?_
    refine gd_r E K 2 (pc' := 19) (lv' := [(0, .ref 0), (1, .int d), (2, .ref 44)]) (st' := [.int 0]) (w' := gd_rL w2 44 (vp_updL (w2.2.1 44) 0 ((nI (gs_discv S d)).toInt64))) rfl ?_
    refine gd_xr1 ?_
    exact gd_iretp E hr hlk (K.1 19 (.ireturn, 0) rfl).1 (gd_wp_ok hc0 hC2 g2)
  · rcases h9 with ⟨hc, rfl, hC2, g2⟩ | ⟨hc, rfl, hC2, g2⟩
    · exact gd_catch E X hr hlk ht (E0 := "java/lang/IllegalArgumentException") (v := 1) [] ⟨0, 9, 12, 13⟩ [⟨0, 9, 15, 17⟩] rfl (fun z hz => nomatch hz) (by decide) (by decide) (gd_in 212 rfl rfl) (List.mem_filter.mpr ⟨List.mem_append_right _ (List.mem_of_getElem? (i := 221) rfl), rfl⟩) (⟨1, rfl, Or.inl ⟨(3 : Fin 4), by decide, (K.1 12 (.astore_n 3, 0) rfl).1, (K.1 13 (.iconst 1, 0) rfl).1, (K.1 14 (.ireturn, 0) rfl).1⟩⟩) (gd_wp_no hc (by decide) rfl (gs_disc_no (by rw [hc]; decide)) hC2 g2) hP hS hl hce hv hcl
    · exact gd_catch E X hr hlk ht (E0 := "java/lang/IllegalStateException") (v := 2) [⟨0, 9, 12, 13⟩] ⟨0, 9, 15, 17⟩ [] rfl (fun z hz => by simp only [List.mem_cons, List.not_mem_nil, or_false] at hz; subst hz; exact ⟨by decide, "java/lang/IllegalArgumentException", gd_in 212 rfl rfl, by decide⟩) (by decide) (by decide) (gd_in 214 rfl rfl) (List.mem_filter.mpr ⟨List.mem_append_right _ (List.mem_of_getElem? (i := 346) rfl), rfl⟩) (⟨2, rfl, Or.inl ⟨(3 : Fin 4), by decide, (K.1 15 (.astore_n 3, 0) rfl).1, (K.1 16 (.iconst 2, 0) rfl).1, (K.1 17 (.ireturn, 0) rfl).1⟩⟩) (gd_wp_no hc (by decide) rfl (gs_disc_no (by rw [hc]; decide)) hC2 g2) hP hS hl hce hv hcl

set_option maxRecDepth 100000 in
theorem c4_run {l : Launch} (hls : l.stackTraces = false) {D : va_G} {tC : FieldType → ClassId} {ad : Nat → Nat} (hinj : ∀ i j, ad i = ad j → i = j) {S : gs_T} {o : Nat → Nat} (w : gd_W) (hC : gr_C w S o) (hG : gs_Good S) (x : Int32) : gd_Cw l D tC ad 45 7 113 y_A_run c_A_run 4 [(0, 9, 12, 13)] [.ref 0, .int x, .ref 44] w (gd_wp ((gs_run S x).2.2) ((gs_run S x).1) ((nI (gs_run S x).2.1).toInt64) w) := by
  refine gd_Cw_of rfl hinj (Nat.le_of_ble_eq_true rfl) ?_
  intro p e s m args below meth c E X ht hr hlk
  have K := k_A_run
  have hA : ∀ q, gd_A ad 45 s.heap.size q → gd_A ad 45 s.heap.size q := fun _ h => h
  refine gd_r E K 4 (pc' := 4) (lv' := [(0, .ref 0), (1, .int x), (2, .ref 44)]) (st' := [.int x, .ref 0, .int 0, .ref 44]) (w' := w) rfl ?_
  refine gd_cVx E X hA (av := [.int x]) (rest := [.int 0, .ref 44]) (c3_Grun hls hinj w hC hG x) (K.1 4 (.invokevirtual 34, 0) rfl).1 ml_A_34 cv_G_run (by decide) rfl ⟨Nat.le_of_ble_eq_true rfl, Nat.le_of_ble_eq_true rfl⟩ ⟨Nat.le_refl _, Nat.le_refl _⟩ rfl (Nat.le_of_ble_eq_true rfl) (gd_in 460 rfl rfl) (fun r9 w2 h9 => ?_) (fun E0 w2 h9 H locs ls q ce hP hS hl hce hv hcl => ?_)
  · obtain ⟨hc0, rfl, hC2, g2⟩ := h9
    refine gd_r E K 1 (pc' := 8) (lv' := [(0, .ref 0), (1, .int x), (2, .ref 44)]) (st' := [.long ((nI (gs_run S x).2.1).toInt64), .int 0, .ref 44]) (w' := w2) rfl ?_
    refine gd_last E (K.1 8 (.lastore, 0) rfl).1 (j := 0) (by decide) (rfl) (rfl) (by decide) (by decide) ?_
    refine gd_r E K 2 (pc' := 16) (lv' := [(0, .ref 0), (1, .int x), (2, .ref 44)]) (st' := [.int 0]) (w' := gd_rL w2 44 (vp_updL (w2.2.1 44) 0 ((nI (gs_run S x).2.1).toInt64))) rfl ?_
    refine gd_xr1 ?_
    exact gd_iretp E hr hlk (K.1 16 (.ireturn, 0) rfl).1 (gd_wp_ok hc0 hC2 g2)
  · obtain ⟨hc, rfl, hC2, g2⟩ := h9
    exact gd_catch E X hr hlk ht (E0 := "java/lang/IllegalArgumentException") (v := 1) [] ⟨0, 9, 12, 13⟩ [] rfl (fun z hz => nomatch hz) (by decide) (by decide) (gd_in 212 rfl rfl) (List.mem_filter.mpr ⟨List.mem_append_right _ (List.mem_of_getElem? (i := 221) rfl), rfl⟩) (⟨1, rfl, Or.inl ⟨(3 : Fin 4), by decide, (K.1 12 (.astore_n 3, 0) rfl).1, (K.1 13 (.iconst 1, 0) rfl).1, (K.1 14 (.ireturn, 0) rfl).1⟩⟩) (gd_wp_no hc (by decide) rfl (gs_run_no (by rw [hc]; decide)) hC2 g2) hP hS hl hce hv hcl

set_option maxRecDepth 100000 in
theorem c4_look {l : Launch} (hls : l.stackTraces = false) {D : va_G} {tC : FieldType → ClassId} {ad : Nat → Nat} (hinj : ∀ i j, ad i = ad j → i = j) {S : gs_T} {o : Nat → Nat} (w : gd_W) (hC : gr_C w S o) (hG : gs_Good S) (d x : Int32) : gd_Cw l D tC ad 45 7 105 y_A_look c_A_look 5 [(0, 10, 13, 13)] [.ref 0, .int d, .int x, .ref 44] w (gd_wp (S) (gs_lookc S d x) ((gs_lookv S d x).toInt64) w) := by
  refine gd_Cw_of rfl hinj (Nat.le_of_ble_eq_true rfl) ?_
  intro p e s m args below meth c E X ht hr hlk
  have K := k_A_look
  have hA : ∀ q, gd_A ad 45 s.heap.size q → gd_A ad 45 s.heap.size q := fun _ h => h
  refine gd_r E K 5 (pc' := 5) (lv' := [(0, .ref 0), (1, .int d), (2, .int x), (3, .ref 44)]) (st' := [.int x, .int d, .ref 0, .int 0, .ref 44]) (w' := w) rfl ?_
  refine gd_cVx E X hA (av := [.int d, .int x]) (rest := [.int 0, .ref 44]) (c3_Glook hls hinj w hC d x) (K.1 5 (.invokevirtual 37, 0) rfl).1 ml_A_37 cv_G_look (by decide) rfl ⟨Nat.le_of_ble_eq_true rfl, Nat.le_of_ble_eq_true rfl⟩ ⟨Nat.le_refl _, Nat.le_refl _⟩ rfl (Nat.le_of_ble_eq_true rfl) (gd_in 504 rfl rfl) (fun r9 w2 h9 => ?_) (fun E0 w2 h9 H locs ls q ce hP hS hl hce hv hcl => ?_)
  · obtain ⟨hc0, rfl, hC2, g2⟩ := h9
    refine gd_r E K 1 (pc' := 9) (lv' := [(0, .ref 0), (1, .int d), (2, .int x), (3, .ref 44)]) (st' := [.long ((gs_lookv S d x).toInt64), .int 0, .ref 44]) (w' := w2) rfl ?_
    refine gd_last E (K.1 9 (.lastore, 0) rfl).1 (j := 0) (by decide) (rfl) (rfl) (by decide) (by decide) ?_
    refine gd_r E K 2 (pc' := 18) (lv' := [(0, .ref 0), (1, .int d), (2, .int x), (3, .ref 44)]) (st' := [.int 0]) (w' := gd_rL w2 44 (vp_updL (w2.2.1 44) 0 ((gs_lookv S d x).toInt64))) rfl ?_
    refine gd_xr1 ?_
    exact gd_iretp E hr hlk (K.1 18 (.ireturn, 0) rfl).1 (gd_wp_ok hc0 hC2 g2)
  · obtain ⟨hc, rfl, hC2, g2⟩ := h9
    exact gd_catch E X hr hlk ht (E0 := "java/lang/IllegalArgumentException") (v := 1) [] ⟨0, 10, 13, 13⟩ [] rfl (fun z hz => nomatch hz) (by decide) (by decide) (gd_in 212 rfl rfl) (List.mem_filter.mpr ⟨List.mem_append_right _ (List.mem_of_getElem? (i := 221) rfl), rfl⟩) (⟨1, rfl, Or.inr ⟨4, by decide, (K.1 13 (.astore 4, 0) rfl).1, (K.1 15 (.iconst 1, 0) rfl).1, (K.1 16 (.ireturn, 0) rfl).1⟩⟩) (gd_wp_no hc (by decide) rfl (rfl) hC2 g2) hP hS hl hce hv hcl

set_option maxRecDepth 100000 in
theorem c4_share {l : Launch} (hls : l.stackTraces = false) {D : va_G} {tC : FieldType → ClassId} {ad : Nat → Nat} (hinj : ∀ i j, ad i = ad j → i = j) {S : gs_T} {o : Nat → Nat} (w : gd_W) (hC : gr_C w S o) (hG : gs_Good S) (d x : Int32) : gd_Cw l D tC ad 45 7 105 y_A_share c_A_share 5 [(0, 9, 12, 13)] [.ref 0, .int d, .int x, .ref 44] w (gd_wp (S) (gs_lookc S d x) (gs_sharev S d x) w) := by
  refine gd_Cw_of rfl hinj (Nat.le_of_ble_eq_true rfl) ?_
  intro p e s m args below meth c E X ht hr hlk
  have K := k_A_share
  have hA : ∀ q, gd_A ad 45 s.heap.size q → gd_A ad 45 s.heap.size q := fun _ h => h
  refine gd_r E K 5 (pc' := 5) (lv' := [(0, .ref 0), (1, .int d), (2, .int x), (3, .ref 44)]) (st' := [.int x, .int d, .ref 0, .int 0, .ref 44]) (w' := w) rfl ?_
  refine gd_cVx E X hA (av := [.int d, .int x]) (rest := [.int 0, .ref 44]) (c3_Gshare hls hinj w hC d x) (K.1 5 (.invokevirtual 40, 0) rfl).1 ml_A_40 cv_G_share (by decide) rfl ⟨Nat.le_of_ble_eq_true rfl, Nat.le_of_ble_eq_true rfl⟩ ⟨Nat.le_refl _, Nat.le_refl _⟩ rfl (Nat.le_of_ble_eq_true rfl) (gd_in 512 rfl rfl) (fun r9 w2 h9 => ?_) (fun E0 w2 h9 H locs ls q ce hP hS hl hce hv hcl => ?_)
  · obtain ⟨hc0, rfl, hC2, g2⟩ := h9
    refine gd_last E (K.1 8 (.lastore, 0) rfl).1 (j := 0) (by decide) (rfl) (rfl) (by decide) (by decide) ?_
    refine gd_r E K 2 (pc' := 17) (lv' := [(0, .ref 0), (1, .int d), (2, .int x), (3, .ref 44)]) (st' := [.int 0]) (w' := gd_rL w2 44 (vp_updL (w2.2.1 44) 0 (gs_sharev S d x))) rfl ?_
    refine gd_xr1 ?_
    exact gd_iretp E hr hlk (K.1 17 (.ireturn, 0) rfl).1 (gd_wp_ok hc0 hC2 g2)
  · obtain ⟨hc, rfl, hC2, g2⟩ := h9
    exact gd_catch E X hr hlk ht (E0 := "java/lang/IllegalArgumentException") (v := 1) [] ⟨0, 9, 12, 13⟩ [] rfl (fun z hz => nomatch hz) (by decide) (by decide) (gd_in 212 rfl rfl) (List.mem_filter.mpr ⟨List.mem_append_right _ (List.mem_of_getElem? (i := 221) rfl), rfl⟩) (⟨1, rfl, Or.inr ⟨4, by decide, (K.1 12 (.astore 4, 0) rfl).1, (K.1 14 (.iconst 1, 0) rfl).1, (K.1 15 (.ireturn, 0) rfl).1⟩⟩) (gd_wp_no hc (by decide) rfl (rfl) hC2 g2) hP hS hl hce hv hcl

set_option maxRecDepth 100000 in
theorem c4_reading {l : Launch} (hls : l.stackTraces = false) {D : va_G} {tC : FieldType → ClassId} {ad : Nat → Nat} (hinj : ∀ i j, ad i = ad j → i = j) {S : gs_T} {o : Nat → Nat} (w : gd_W) (hC : gr_C w S o) (hG : gs_Good S) (d x : Int32) : gd_Cw l D tC ad 45 7 104 y_A_reading c_A_reading 5 [(0, 10, 13, 47)] [.ref 0, .int d, .int x, .ref 44] w (gd_wp (S) (gs_readc S d x) ((gs_readv S d x).toInt64) w) := by
  refine gd_Cw_of rfl hinj (Nat.le_of_ble_eq_true rfl) ?_
  intro p e s m args below meth c E X ht hr hlk
  have K := k_A_reading
  have hA : ∀ q, gd_A ad 45 s.heap.size q → gd_A ad 45 s.heap.size q := fun _ h => h
  refine gd_r E K 5 (pc' := 5) (lv' := [(0, .ref 0), (1, .int d), (2, .int x), (3, .ref 44)]) (st' := [.int x, .int d, .ref 0, .int 0, .ref 44]) (w' := w) rfl ?_
  refine gd_cVx E X hA (av := [.int d, .int x]) (rest := [.int 0, .ref 44]) (c3_Greading hls hinj w hC d x) (K.1 5 (.invokevirtual 44, 0) rfl).1 ml_A_44 cv_G_reading (by decide) rfl ⟨Nat.le_of_ble_eq_true rfl, Nat.le_of_ble_eq_true rfl⟩ ⟨Nat.le_refl _, Nat.le_refl _⟩ rfl (Nat.le_of_ble_eq_true rfl) (gd_in 521 rfl rfl) (fun r9 w2 h9 => ?_) (fun E0 w2 h9 H locs ls q ce hP hS hl hce hv hcl => ?_)
  · obtain ⟨hc0, rfl, hC2, g2⟩ := h9
    refine gd_r E K 1 (pc' := 9) (lv' := [(0, .ref 0), (1, .int d), (2, .int x), (3, .ref 44)]) (st' := [.long ((gs_readv S d x).toInt64), .int 0, .ref 44]) (w' := w2) rfl ?_
    refine gd_last E (K.1 9 (.lastore, 0) rfl).1 (j := 0) (by decide) (rfl) (rfl) (by decide) (by decide) ?_
    refine gd_r E K 2 (pc' := 18) (lv' := [(0, .ref 0), (1, .int d), (2, .int x), (3, .ref 44)]) (st' := [.int 0]) (w' := gd_rL w2 44 (vp_updL (w2.2.1 44) 0 ((gs_readv S d x).toInt64))) rfl ?_
    refine gd_xr1 ?_
    exact gd_iretp E hr hlk (K.1 18 (.ireturn, 0) rfl).1 (gd_wp_ok hc0 hC2 g2)
  · obtain ⟨hc, rfl, hC2, g2⟩ := h9
    exact gd_catch E X hr hlk ht (E0 := "java/lang/IndexOutOfBoundsException") (v := 1) [] ⟨0, 10, 13, 47⟩ [] rfl (fun z hz => nomatch hz) (by decide) (by decide) (gd_in 520 rfl rfl) (List.mem_filter.mpr ⟨List.mem_append_right _ (List.mem_of_getElem? (i := 531) rfl), rfl⟩) (⟨1, rfl, Or.inr ⟨4, by decide, (K.1 13 (.astore 4, 0) rfl).1, (K.1 15 (.iconst 1, 0) rfl).1, (K.1 16 (.ireturn, 0) rfl).1⟩⟩) (gd_wp_no hc (by decide) rfl (rfl) hC2 g2) hP hS hl hce hv hcl
