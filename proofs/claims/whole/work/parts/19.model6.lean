def gs_li (L : Nat → Nat → Bool) (en : Nat) (w1 w2 : gd_W) (n : Nat) : Prop := gf_r 43 w1 w2 ∧ ∀ i, n ≤ i → i ≤ en → gs_blk w2 43 i 64 (L (en - i))
def gs_lj (L : Nat → Nat → Bool) (en : Nat) (w1 w2 : gd_W) (n c : Nat) : Prop := gs_li L en w1 w2 (n + 1) ∧ gs_blk w2 43 n c (L (en - n))
theorem gs_lj_step {L : Nat → Nat → Bool} {en : Nat} {w1 w2 : gd_W} {n c : Nat} {v : Int32} (h : gs_lj L en w1 w2 n c) (hc : c < 64) (hv : v = gs_b (L (en - n) c)) : gs_lj L en w1 (gd_rI w2 43 (upd (w2.1 43) (64 * n + c) v)) n (c + 1) :=
  ⟨⟨h.1.1.trans (gf_r.upd _ _ _), fun i hi hi2 => gs_blk_keep (h.1.2 i hi hi2) (by omega) (Nat.le_refl _) hc⟩, gs_blk_step h.2 hv⟩
theorem gs_lj_end {L : Nat → Nat → Bool} {en : Nat} {w1 w2 : gd_W} {n : Nat} (h : gs_lj L en w1 w2 n 64) : gs_li L en w1 w2 n :=
  ⟨h.1.1, fun i hi hi2 => by
    by_cases e : i = n
    · subst e; exact h.2
    · exact h.1.2 i (by omega) hi2⟩
/-- the moves of droplet d are laid, the first n of them -/
def gs_lr (w2 w3 : gd_W) (d n : Nat) (mv : Nat → Nat) : Prop := gf_r 33 w2 w3 ∧ (∀ i, i < n → w3.1 33 (60 * d + i) = nI (mv i)) ∧ ∀ j, (j < 60 * d ∨ 60 * d + 60 ≤ j) → w3.1 33 j = w2.1 33 j
theorem gs_lr_step {w2 w3 : gd_W} {d n : Nat} {mv : Nat → Nat} (h : gs_lr w2 w3 d n mv) (hn : n < 60) : gs_lr w2 (gd_rI w3 33 (upd (w3.1 33) (60 * d + n) (nI (mv n)))) d (n + 1) mv := by
  refine ⟨h.1.trans (gf_r.upd _ _ _), fun i hi => ?_, fun j hj => ?_⟩
  · rw [gd_rI_s]
    by_cases e : i = n
    · subst e; rw [gd_u_s]
    · rw [gd_u_n (by omega)]; exact h.2.1 i (by omega)
  · rw [gd_rI_s, gd_u_n (by omega)]
    exact h.2.2 j hj
/-- what laying a way leaves -/
def gs_laid (w w' : gd_W) (d en : Nat) (mv : Nat → Nat) : Prop := (∀ a, a ≠ 33 → a ≠ 34 → a ≠ 35 → a ≠ 42 → a ≠ 43 → w'.1 a = w.1 a) ∧ w'.2 = w.2 ∧ (∀ i, i < en → w'.1 33 (60 * d + i) = nI (mv i)) ∧ (∀ j, (j < 60 * d ∨ 60 * d + 60 ≤ j) → w'.1 33 j = w.1 33 j) ∧ w'.1 34 = upd (w.1 34) d (nI en) ∧ w'.1 35 = upd (w.1 35) d 0
theorem gs_laid_of {w w1 w2 w3 : gd_W} {d en : Nat} {mv : Nat → Nat} (h1 : gf_r 42 w w1) (h2 : gf_r 43 w1 w2) (h3 : gs_lr w2 w3 d en mv) : gs_laid w (gd_rI (gd_rI w3 34 (upd (w3.1 34) d (nI en))) 35 (upd ((gd_rI w3 34 (upd (w3.1 34) d (nI en))).1 35) d 0)) d en mv := by
  obtain ⟨g1, g2, g3⟩ := h3
  have far : ∀ a, a ≠ 33 → a ≠ 42 → a ≠ 43 → w3.1 a = w.1 a := fun a a1 a2 a3 => (g1.1 a a1).trans ((h2.1 a a3).trans (h1.1 a a2))
  refine ⟨fun a a1 a2 a3 a4 a5 => ?_, ?_, fun i hi => ?_, fun j hj => ?_, ?_, ?_⟩
  · rw [gd_rI_n a3, gd_rI_n a2]; exact far a a1 a4 a5
  · show w3.2 = w.2
    exact g1.2.trans (h2.2.trans h1.2)
  · rw [gd_rI_n (by decide), gd_rI_n (by decide)]; exact g2 i hi
  · rw [gd_rI_n (by decide), gd_rI_n (by decide), g3 j hj, h2.1 33 (by decide), h1.1 33 (by decide)]
  · rw [gd_rI_n (by decide), gd_rI_s, far 34 (by decide) (by decide) (by decide)]
  · rw [gd_rI_s, gd_rI_n (by decide), far 35 (by decide) (by decide) (by decide)]
set_option maxRecDepth 100000 in
theorem c2_layJ {l : Launch} {D : va_G} {tC : FieldType → ClassId} {ad : Nat → Nat} (hinj : ∀ i j, ad i = ad j → i = j) {S : gs_T} {cnt : Nat} {T : Nat → Nat → Option Nat} (w : gd_W) (hK : gs_KK w S) (hT : gs_tab w cnt T) (d fr goal : Nat) (hd : d < 60) (hcd : w.1 30 d = nI fr) (hf : fr < 64) (hg : goal < 64) : gd_Cp l D tC ad 45 5 120 y_M_lay c_M_lay 10 (some .int) [.ref 27, .int (nI d), .int (nI goal), .int 1] w (fun r w' => r = some (.int (gm_nO (gs_way S T cnt fr goal true))) ∧ (gs_way S T cnt fr goal true = none → gf_r 42 w w') ∧ ∀ en, gs_way S T cnt fr goal true = some en → gs_laid w w' d en (gs_rtm (gs_led (gs_rch S T cnt fr) goal en) en fr)) := by
  refine gd_Cp_of rfl hinj (Nat.le_of_ble_eq_true rfl) ?_
  intro p e s m args below meth c E hr hlk
  have K := k_M_lay
  have hA : ∀ q, gd_A ad 45 s.heap.size q → gd_A ad 45 s.heap.size q := fun _ h => h
  refine gd_r E K 4 (pc' := 6) (lv' := [(0, .ref 27), (1, .int (nI d)), (2, .int (nI goal)), (3, .int 1)]) (st' := [.int (nI d), .ref 30, .ref 27]) (w' := w) rfl ?_
  refine gd_ialdv E (K.1 6 (.iaload, 0) rfl).1 (j := d) (by decide) (rfl) (rfl) (hd) (by decide) (v := nI fr) (hcd) ?_
  refine gd_r E K 2 (pc' := 9) (lv' := [(0, .ref 27), (1, .int (nI d)), (2, .int (nI goal)), (3, .int 1)]) (st' := [.int 1, .int (nI goal), .int (nI fr), .ref 27]) (w' := w) rfl ?_
  refine gd_cVp E hA (av := [.int (nI fr), .int (nI goal), .int 1]) (rest := []) (c2_spreadJ hinj w hK hT fr goal hf hg) (K.1 9 (.invokevirtual 111, 0) rfl).1 ml_M_111 cv_M_spread (by decide) (rfl) ⟨Nat.le_of_ble_eq_true rfl, Nat.le_of_ble_eq_true rfl⟩ ⟨Nat.zero_le _, Nat.zero_le _⟩ rfl (Nat.le_of_ble_eq_true rfl) (fun r9 w1 h9 => ?_)
  obtain ⟨rfl, hf1, hbl⟩ := h9
  refine gd_r E K 2 (pc' := 16) (lv' := [(0, .ref 27), (1, .int (nI d)), (2, .int (nI goal)), (3, .int 1), (4, .int (gm_nO (gs_way S T cnt fr goal true)))]) (st' := [.int (gm_nO (gs_way S T cnt fr goal true))]) (w' := w1) rfl ?_
  obtain ⟨res, hres⟩ : ∃ x, gs_way S T cnt fr goal true = x := ⟨_, rfl⟩
  cases res with
  | none =>
    refine gd_cg (lv' := [(0, .ref 27), (1, .int (nI d)), (2, .int (nI goal)), (3, .int 1), (4, .int (gm_nO none))]) (st' := [.int (gm_nO none)]) (w' := w1) ?_ (by rw [hres]) (by rw [hres]) (rfl)
    refine gd_r E K 1 (pc' := if 0 ≤ (gm_nO none) then 21 else 19) (lv' := [(0, .ref 27), (1, .int (nI d)), (2, .int (nI goal)), (3, .int 1), (4, .int (gm_nO none))]) (st' := []) (w' := w1) rfl ?_
    refine gd_if (by decide) ?_
    refine gd_r E K 1 (pc' := 20) (lv' := [(0, .ref 27), (1, .int (nI d)), (2, .int (nI goal)), (3, .int 1), (4, .int (gm_nO none))]) (st' := [.int (-1)]) (w' := w1) rfl ?_
    exact gd_iretp E hr hlk (K.1 20 (.ireturn, 0) rfl).1 (⟨by rw [hres]; rfl, fun _ => hf1, fun en he => by rw [hres] at he; cases he⟩)
  | some en =>
    refine gd_cg (lv' := [(0, .ref 27), (1, .int (nI d)), (2, .int (nI goal)), (3, .int 1), (4, .int (gm_nO (some en)))]) (st' := [.int (gm_nO (some en))]) (w' := w1) ?_ (by rw [hres]) (by rw [hres]) (rfl)
    have hen := gs_way_le hres
    have hbl := hbl en hres
    refine gd_r E K 1 (pc' := if 0 ≤ (gm_nO (some en)) then 21 else 19) (lv' := [(0, .ref 27), (1, .int (nI d)), (2, .int (nI goal)), (3, .int 1), (4, .int (gm_nO (some en)))]) (st' := []) (w' := w1) rfl ?_
    refine gd_it (nI_pos' (by omega)) ?_
    refine gd_cg (lv' := [(0, .ref 27), (1, .int (nI d)), (2, .int (nI goal)), (3, .int 1), (4, .int (nI en))]) (st' := []) (w' := w1) ?_ (rfl) (rfl) (rfl)
    have route : ∀ w2, gs_li (gs_led (gs_rch S T cnt fr) goal en) en w1 w2 0 → ∀ j n w3, n + j = en → gs_lr w2 w3 d n (gs_rtm (gs_led (gs_rch S T cnt fr) goal en) en fr) → gd_G p l e (gd_rm 5 120) s m args below meth c D tC ad (gd_A ad 45 s.heap.size) 45 10 0 0 (MQ below (gd_Qp D tC ad 45 s.heap.size (fun r w' => r = some (.int (gm_nO (gs_way S T cnt fr goal true))) ∧ (gs_way S T cnt fr goal true = none → gf_r 42 w w') ∧ ∀ en, gs_way S T cnt fr goal true = some en → gs_laid w w' d en (gs_rtm (gs_led (gs_rch S T cnt fr) goal en) en fr))) args s 0 0 (gd_A ad 45 s.heap.size)) 206 [(0, .ref 27), (1, .int (nI d)), (2, .int (nI goal)), (3, .int 1), (4, .int (nI en)), (5, .int (nI (gs_rtc (gs_led (gs_rch S T cnt fr) goal en) en fr n))), (6, .int (nI n))] [] w3 := by
      intro w2 hli j
      induction j with
      | zero =>
        intro n w3 hn hlr
        refine gd_r E K 2 (pc' := 210) (lv' := [(0, .ref 27), (1, .int (nI d)), (2, .int (nI goal)), (3, .int 1), (4, .int (nI en)), (5, .int (nI (gs_rtc (gs_led (gs_rch S T cnt fr) goal en) en fr n))), (6, .int (nI n))]) (st' := [.int (nI en), .int (nI n)]) (w' := w3) rfl ?_
        refine gd_r E K 1 (pc' := if (nI en) ≤ (nI n) then 287 else 213) (lv' := [(0, .ref 27), (1, .int (nI d)), (2, .int (nI goal)), (3, .int 1), (4, .int (nI en)), (5, .int (nI (gs_rtc (gs_led (gs_rch S T cnt fr) goal en) en fr n))), (6, .int (nI n))]) (st' := []) (w' := w3) rfl ?_
        refine gd_it (nI_le (show en ≤ n by omega) (by omega)) ?_
        refine gd_r E K 4 (pc' := 294) (lv' := [(0, .ref 27), (1, .int (nI d)), (2, .int (nI goal)), (3, .int 1), (4, .int (nI en)), (5, .int (nI (gs_rtc (gs_led (gs_rch S T cnt fr) goal en) en fr n))), (6, .int (nI n))]) (st' := [.int (nI en), .int (nI d), .ref 34]) (w' := w3) rfl ?_
        refine gd_iast E (K.1 294 (.iastore, 0) rfl).1 (j := d) (by decide) (rfl) (rfl) (hd) (by decide) ?_
        refine gd_r E K 4 (pc' := 301) (lv' := [(0, .ref 27), (1, .int (nI d)), (2, .int (nI goal)), (3, .int 1), (4, .int (nI en)), (5, .int (nI (gs_rtc (gs_led (gs_rch S T cnt fr) goal en) en fr n))), (6, .int (nI n))]) (st' := [.int 0, .int (nI d), .ref 35]) (w' := gd_rI w3 34 (upd (w3.1 34) d (nI en))) rfl ?_
        refine gd_iast E (K.1 301 (.iastore, 0) rfl).1 (j := d) (by decide) (rfl) (rfl) (hd) (by decide) ?_
        refine gd_r E K 1 (pc' := 304) (lv' := [(0, .ref 27), (1, .int (nI d)), (2, .int (nI goal)), (3, .int 1), (4, .int (nI en)), (5, .int (nI (gs_rtc (gs_led (gs_rch S T cnt fr) goal en) en fr n))), (6, .int (nI n))]) (st' := [.int (nI en)]) (w' := gd_rI (gd_rI w3 34 (upd (w3.1 34) d (nI en))) 35 (upd ((gd_rI w3 34 (upd (w3.1 34) d (nI en))).1 35) d 0)) rfl ?_
        exact gd_iretp E hr hlk (K.1 304 (.ireturn, 0) rfl).1 (⟨by rw [hres]; rfl, fun h => (by rw [hres] at h; cases h), fun en2 he => by rw [hres] at he; cases he; exact gs_laid_of hf1 hli.1 (by have hne : n = en := (by omega); rw [hne] at hlr; exact hlr)⟩)
      | succ j ih =>
        intro n w3 hn hlr
        refine gd_r E K 2 (pc' := 210) (lv' := [(0, .ref 27), (1, .int (nI d)), (2, .int (nI goal)), (3, .int 1), (4, .int (nI en)), (5, .int (nI (gs_rtc (gs_led (gs_rch S T cnt fr) goal en) en fr n))), (6, .int (nI n))]) (st' := [.int (nI en), .int (nI n)]) (w' := w3) rfl ?_
        refine gd_r E K 1 (pc' := if (nI en) ≤ (nI n) then 287 else 213) (lv' := [(0, .ref 27), (1, .int (nI d)), (2, .int (nI goal)), (3, .int 1), (4, .int (nI en)), (5, .int (nI (gs_rtc (gs_led (gs_rch S T cnt fr) goal en) en fr n))), (6, .int (nI n))]) (st' := []) (w' := w3) rfl ?_
        refine gd_if (nI_ge (show n < en by omega) (by omega)) ?_
        refine gd_r E K 2 (pc' := 216) (lv' := [(0, .ref 27), (1, .int (nI d)), (2, .int (nI goal)), (3, .int 1), (4, .int (nI en)), (5, .int (nI (gs_rtc (gs_led (gs_rch S T cnt fr) goal en) en fr n))), (6, .int (nI n)), (7, .int 0)]) (st' := []) (w' := w3) rfl ?_
        obtain ⟨hex, hmv⟩ := gs_rtc_mv hf hg hres (show n < en by omega)
        obtain ⟨q1, q2, q3⟩ := gs_lm_spec hex
        have hc64 := (gs_rtc_ok hf hg hres n (by omega)).1
        have hrow : gs_blk w3 43 (n + 1) 64 (gs_led (gs_rch S T cnt fr) goal en (en - (n + 1))) := by
          intro c0 hc0
          rw [hlr.1.1 43 (by decide)]
          exact hli.2 (n + 1) (by omega) (by omega) c0 hc0
        have hlm : gs_lm (fun m => gs_atO (gs_led (gs_rch S T cnt fr) goal en (en - (n + 1))) (gm_mv (gs_rtc (gs_led (gs_rch S T cnt fr) goal en) en fr n) m)) = gs_rtm (gs_led (gs_rch S T cnt fr) goal en) en fr n := rfl
        rw [hlm] at q1 q2 q3
        have pick : ∀ i mm, mm + i = gs_rtm (gs_led (gs_rch S T cnt fr) goal en) en fr n → gd_G p l e (gd_rm 5 120) s m args below meth c D tC ad (gd_A ad 45 s.heap.size) 45 10 0 0 (MQ below (gd_Qp D tC ad 45 s.heap.size (fun r w' => r = some (.int (gm_nO (gs_way S T cnt fr goal true))) ∧ (gs_way S T cnt fr goal true = none → gf_r 42 w w') ∧ ∀ en, gs_way S T cnt fr goal true = some en → gs_laid w w' d en (gs_rtm (gs_led (gs_rch S T cnt fr) goal en) en fr))) args s 0 0 (gd_A ad 45 s.heap.size)) 216 [(0, .ref 27), (1, .int (nI d)), (2, .int (nI goal)), (3, .int 1), (4, .int (nI en)), (5, .int (nI (gs_rtc (gs_led (gs_rch S T cnt fr) goal en) en fr n))), (6, .int (nI n)), (7, .int (nI mm))] [] w3 := by
          intro i
          induction i with
          | zero =>
            intro mm hmm
            have hmm2 : mm = gs_rtm (gs_led (gs_rch S T cnt fr) goal en) en fr n := by omega
            obtain ⟨bb, hb1, hb2⟩ := gs_atO_iff.mp q2
            have hb64 := gm_mv_lt hc64 hb1
            have hnb : bb = gs_rtc (gs_led (gs_rch S T cnt fr) goal en) en fr (n + 1) := Option.some.inj (hb1.symm.trans hmv)
            rw [← hmm2] at hb1
            refine gd_r E K 2 (pc' := 220) (lv' := [(0, .ref 27), (1, .int (nI d)), (2, .int (nI goal)), (3, .int 1), (4, .int (nI en)), (5, .int (nI (gs_rtc (gs_led (gs_rch S T cnt fr) goal en) en fr n))), (6, .int (nI n)), (7, .int (nI mm))]) (st' := [.int (nI mm), .int (nI (gs_rtc (gs_led (gs_rch S T cnt fr) goal en) en fr n))]) (w' := w3) rfl ?_
            refine gd_cS E hA (av := [.int (nI (gs_rtc (gs_led (gs_rch S T cnt fr) goal en) en fr n)), .int (nI mm)]) (rest := []) (c2_moved hinj _ mm hc64 (by omega) w3) (K.1 220 (.invokestatic 82, 0) rfl).1 ml_M_82 cv_M_moved ⟨Nat.le_of_ble_eq_true rfl, Nat.le_of_ble_eq_true rfl⟩ ⟨Nat.zero_le _, Nat.zero_le _⟩ rfl (Nat.le_of_ble_eq_true rfl) ?_
            rw [hb1]
            refine gd_r E K 1 (pc' := if (gm_nO (some bb)) < 0 then 249 else 226) (lv' := [(0, .ref 27), (1, .int (nI d)), (2, .int (nI goal)), (3, .int 1), (4, .int (nI en)), (5, .int (nI (gs_rtc (gs_led (gs_rch S T cnt fr) goal en) en fr n))), (6, .int (nI n)), (7, .int (nI mm))]) (st' := []) (w' := w3) rfl ?_
            refine gd_if (gm_nO_some (by omega)) ?_
            refine gd_r E K 9 (pc' := 241) (lv' := [(0, .ref 27), (1, .int (nI d)), (2, .int (nI goal)), (3, .int 1), (4, .int (nI en)), (5, .int (nI (gs_rtc (gs_led (gs_rch S T cnt fr) goal en) en fr n))), (6, .int (nI n)), (7, .int (nI mm))]) (st' := [.int (nI mm), .int (nI (gs_rtc (gs_led (gs_rch S T cnt fr) goal en) en fr n)), .int (64 * ((nI n) + 1)), .ref 43]) (w' := w3) rfl ?_
            refine gd_cS E hA (av := [.int (nI (gs_rtc (gs_led (gs_rch S T cnt fr) goal en) en fr n)), .int (nI mm)]) (rest := [.int (64 * ((nI n) + 1)), .ref 43]) (c2_moved hinj _ mm hc64 (by omega) w3) (K.1 241 (.invokestatic 82, 0) rfl).1 ml_M_82 cv_M_moved ⟨Nat.le_of_ble_eq_true rfl, Nat.le_of_ble_eq_true rfl⟩ ⟨Nat.zero_le _, Nat.zero_le _⟩ rfl (Nat.le_of_ble_eq_true rfl) ?_
            rw [hb1]
            refine gd_r E K 1 (pc' := 245) (lv' := [(0, .ref 27), (1, .int (nI d)), (2, .int (nI goal)), (3, .int 1), (4, .int (nI en)), (5, .int (nI (gs_rtc (gs_led (gs_rch S T cnt fr) goal en) en fr n))), (6, .int (nI n)), (7, .int (nI mm))]) (st' := [.int ((64 * ((nI n) + 1)) + (gm_nO (some bb))), .ref 43]) (w' := w3) rfl ?_
            refine gd_zaldv E (K.1 245 (.baload, 0) rfl).1 (j := 64 * (n + 1) + bb) (by decide) (rfl) (by rw [show (64 : Int32) = nI 64 from rfl, nI_1, pk_mul, gm_nO, nI_add]) (by omega) (by decide) (v := gs_b true) (by rw [hrow bb hb64, hb2]) ?_
            refine gd_r E K 1 (pc' := if (gs_b true) = 0 then 249 else 258) (lv' := [(0, .ref 27), (1, .int (nI d)), (2, .int (nI goal)), (3, .int 1), (4, .int (nI en)), (5, .int (nI (gs_rtc (gs_led (gs_rch S T cnt fr) goal en) en fr n))), (6, .int (nI n)), (7, .int (nI mm))]) (st' := []) (w' := w3) rfl ?_
            refine gd_if (by decide) ?_
            refine gd_r E K 8 (pc' := 271) (lv' := [(0, .ref 27), (1, .int (nI d)), (2, .int (nI goal)), (3, .int 1), (4, .int (nI en)), (5, .int (nI (gs_rtc (gs_led (gs_rch S T cnt fr) goal en) en fr n))), (6, .int (nI n)), (7, .int (nI mm))]) (st' := [.int (nI mm), .int ((60 * (nI d)) + (nI n)), .ref 33]) (w' := w3) rfl ?_
            refine gd_iast E (K.1 271 (.iastore, 0) rfl).1 (j := 60 * d + n) (by decide) (rfl) (by rw [show (60 : Int32) = nI 60 from rfl, pk_mul, nI_add]) (by omega) (by decide) ?_
            refine gd_r E K 2 (pc' := 276) (lv' := [(0, .ref 27), (1, .int (nI d)), (2, .int (nI goal)), (3, .int 1), (4, .int (nI en)), (5, .int (nI (gs_rtc (gs_led (gs_rch S T cnt fr) goal en) en fr n))), (6, .int (nI n)), (7, .int (nI mm))]) (st' := [.int (nI mm), .int (nI (gs_rtc (gs_led (gs_rch S T cnt fr) goal en) en fr n))]) (w' := gd_rI w3 33 (upd (w3.1 33) (60 * d + n) (nI mm))) rfl ?_
            refine gd_cS E hA (av := [.int (nI (gs_rtc (gs_led (gs_rch S T cnt fr) goal en) en fr n)), .int (nI mm)]) (rest := []) (c2_moved hinj _ mm hc64 (by omega) _) (K.1 276 (.invokestatic 82, 0) rfl).1 ml_M_82 cv_M_moved ⟨Nat.le_of_ble_eq_true rfl, Nat.le_of_ble_eq_true rfl⟩ ⟨Nat.zero_le _, Nat.zero_le _⟩ rfl (Nat.le_of_ble_eq_true rfl) ?_
            rw [hb1]
            refine gd_r E K 3 (pc' := 206) (lv' := [(0, .ref 27), (1, .int (nI d)), (2, .int (nI goal)), (3, .int 1), (4, .int (nI en)), (5, .int (gm_nO (some bb))), (6, .int ((nI n) + 1)), (7, .int (nI mm))]) (st' := []) (w' := gd_rI w3 33 (upd (w3.1 33) (60 * d + n) (nI mm))) rfl ?_
            refine gd_lvp [0, 1, 2, 3, 4, 5, 6] (lv' := [(0, .ref 27), (1, .int (nI d)), (2, .int (nI goal)), (3, .int 1), (4, .int (nI en)), (5, .int (gm_nO (some bb))), (6, .int ((nI n) + 1))]) rfl ?_
            exact gd_cg (ih (n + 1) _ (by omega) (gs_lr_step hlr (by omega))) (by rw [nI_1, hnb]; rfl) rfl (by rw [hmm2])
          | succ i ih3 =>
            intro mm hmm
            have hno := q3 mm (by omega)
            refine gd_r E K 2 (pc' := 220) (lv' := [(0, .ref 27), (1, .int (nI d)), (2, .int (nI goal)), (3, .int 1), (4, .int (nI en)), (5, .int (nI (gs_rtc (gs_led (gs_rch S T cnt fr) goal en) en fr n))), (6, .int (nI n)), (7, .int (nI mm))]) (st' := [.int (nI mm), .int (nI (gs_rtc (gs_led (gs_rch S T cnt fr) goal en) en fr n))]) (w' := w3) rfl ?_
            refine gd_cS E hA (av := [.int (nI (gs_rtc (gs_led (gs_rch S T cnt fr) goal en) en fr n)), .int (nI mm)]) (rest := []) (c2_moved hinj _ mm hc64 (by omega) w3) (K.1 220 (.invokestatic 82, 0) rfl).1 ml_M_82 cv_M_moved ⟨Nat.le_of_ble_eq_true rfl, Nat.le_of_ble_eq_true rfl⟩ ⟨Nat.zero_le _, Nat.zero_le _⟩ rfl (Nat.le_of_ble_eq_true rfl) ?_
            cases hb1 : gm_mv (gs_rtc (gs_led (gs_rch S T cnt fr) goal en) en fr n) mm with
            | none =>
              refine gd_r E K 1 (pc' := if (gm_nO (none)) < 0 then 249 else 226) (lv' := [(0, .ref 27), (1, .int (nI d)), (2, .int (nI goal)), (3, .int 1), (4, .int (nI en)), (5, .int (nI (gs_rtc (gs_led (gs_rch S T cnt fr) goal en) en fr n))), (6, .int (nI n)), (7, .int (nI mm))]) (st' := []) (w' := w3) rfl ?_
              refine gd_it (by decide) ?_
              refine gd_r E K 5 (pc' := 216) (lv' := [(0, .ref 27), (1, .int (nI d)), (2, .int (nI goal)), (3, .int 1), (4, .int (nI en)), (5, .int (nI (gs_rtc (gs_led (gs_rch S T cnt fr) goal en) en fr n))), (6, .int (nI n)), (7, .int ((nI mm) + 1))]) (st' := []) (w' := w3) rfl ?_
              exact gd_cg (ih3 (mm + 1) (by omega)) (by rw [nI_1]) rfl rfl
            | some bb =>
              have hb64 := gm_mv_lt hc64 hb1
              have hf0 : gs_led (gs_rch S T cnt fr) goal en (en - (n + 1)) bb = false := by
                have := hno
                rw [hb1] at this
                exact this
              refine gd_r E K 1 (pc' := if (gm_nO (some bb)) < 0 then 249 else 226) (lv' := [(0, .ref 27), (1, .int (nI d)), (2, .int (nI goal)), (3, .int 1), (4, .int (nI en)), (5, .int (nI (gs_rtc (gs_led (gs_rch S T cnt fr) goal en) en fr n))), (6, .int (nI n)), (7, .int (nI mm))]) (st' := []) (w' := w3) rfl ?_
              refine gd_if (gm_nO_some (by omega)) ?_
              refine gd_r E K 9 (pc' := 241) (lv' := [(0, .ref 27), (1, .int (nI d)), (2, .int (nI goal)), (3, .int 1), (4, .int (nI en)), (5, .int (nI (gs_rtc (gs_led (gs_rch S T cnt fr) goal en) en fr n))), (6, .int (nI n)), (7, .int (nI mm))]) (st' := [.int (nI mm), .int (nI (gs_rtc (gs_led (gs_rch S T cnt fr) goal en) en fr n)), .int (64 * ((nI n) + 1)), .ref 43]) (w' := w3) rfl ?_
              refine gd_cS E hA (av := [.int (nI (gs_rtc (gs_led (gs_rch S T cnt fr) goal en) en fr n)), .int (nI mm)]) (rest := [.int (64 * ((nI n) + 1)), .ref 43]) (c2_moved hinj _ mm hc64 (by omega) w3) (K.1 241 (.invokestatic 82, 0) rfl).1 ml_M_82 cv_M_moved ⟨Nat.le_of_ble_eq_true rfl, Nat.le_of_ble_eq_true rfl⟩ ⟨Nat.zero_le _, Nat.zero_le _⟩ rfl (Nat.le_of_ble_eq_true rfl) ?_
              rw [hb1]
              refine gd_r E K 1 (pc' := 245) (lv' := [(0, .ref 27), (1, .int (nI d)), (2, .int (nI goal)), (3, .int 1), (4, .int (nI en)), (5, .int (nI (gs_rtc (gs_led (gs_rch S T cnt fr) goal en) en fr n))), (6, .int (nI n)), (7, .int (nI mm))]) (st' := [.int ((64 * ((nI n) + 1)) + (gm_nO (some bb))), .ref 43]) (w' := w3) rfl ?_
              refine gd_zaldv E (K.1 245 (.baload, 0) rfl).1 (j := 64 * (n + 1) + bb) (by decide) (rfl) (by rw [show (64 : Int32) = nI 64 from rfl, nI_1, pk_mul, gm_nO, nI_add]) (by omega) (by decide) (v := gs_b false) (by rw [hrow bb hb64, hf0]) ?_
              refine gd_r E K 1 (pc' := if (gs_b false) = 0 then 249 else 258) (lv' := [(0, .ref 27), (1, .int (nI d)), (2, .int (nI goal)), (3, .int 1), (4, .int (nI en)), (5, .int (nI (gs_rtc (gs_led (gs_rch S T cnt fr) goal en) en fr n))), (6, .int (nI n)), (7, .int (nI mm))]) (st' := []) (w' := w3) rfl ?_
              refine gd_it (by decide) ?_
              refine gd_r E K 5 (pc' := 216) (lv' := [(0, .ref 27), (1, .int (nI d)), (2, .int (nI goal)), (3, .int 1), (4, .int (nI en)), (5, .int (nI (gs_rtc (gs_led (gs_rch S T cnt fr) goal en) en fr n))), (6, .int (nI n)), (7, .int ((nI mm) + 1))]) (st' := []) (w' := w3) rfl ?_
              exact gd_cg (ih3 (mm + 1) (by omega)) (by rw [nI_1]) rfl rfl
        exact gd_cg (pick (gs_rtm (gs_led (gs_rch S T cnt fr) goal en) en fr n) 0 (by omega)) rfl rfl rfl
    have back : ∀ n w2, n ≤ en → gs_li (gs_led (gs_rch S T cnt fr) goal en) en w1 w2 n → gd_G p l e (gd_rm 5 120) s m args below meth c D tC ad (gd_A ad 45 s.heap.size) 45 10 0 0 (MQ below (gd_Qp D tC ad 45 s.heap.size (fun r w' => r = some (.int (gm_nO (gs_way S T cnt fr goal true))) ∧ (gs_way S T cnt fr goal true = none → gf_r 42 w w') ∧ ∀ en, gs_way S T cnt fr goal true = some en → gs_laid w w' d en (gs_rtm (gs_led (gs_rch S T cnt fr) goal en) en fr))) args s 0 0 (gd_A ad 45 s.heap.size)) 67 [(0, .ref 27), (1, .int (nI d)), (2, .int (nI goal)), (3, .int 1), (4, .int (nI en)), (5, .int (gs_pr n))] [] w2 := by
      intro n
      induction n with
      | zero =>
        intro w2 hn hli
        refine gd_cg (lv' := [(0, .ref 27), (1, .int (nI d)), (2, .int (nI goal)), (3, .int 1), (4, .int (nI en)), (5, .int (-1))]) (st' := []) (w' := w2) ?_ rfl rfl rfl
        refine gd_r E K 1 (pc' := 69) (lv' := [(0, .ref 27), (1, .int (nI d)), (2, .int (nI goal)), (3, .int 1), (4, .int (nI en)), (5, .int (-1))]) (st' := [.int (-1)]) (w' := w2) rfl ?_
        refine gd_r E K 1 (pc' := if (-1) < 0 then 195 else 72) (lv' := [(0, .ref 27), (1, .int (nI d)), (2, .int (nI goal)), (3, .int 1), (4, .int (nI en)), (5, .int (-1))]) (st' := []) (w' := w2) rfl ?_
        refine gd_it (by decide) ?_
        refine gd_r E K 3 (pc' := 200) (lv' := [(0, .ref 27), (1, .int (nI d)), (2, .int (nI goal)), (3, .int 1), (4, .int (nI en)), (5, .int (-1))]) (st' := [.int (nI d), .ref 30]) (w' := w2) rfl ?_
        refine gd_ialdv E (K.1 200 (.iaload, 0) rfl).1 (j := d) (by decide) (rfl) (rfl) (hd) (by decide) (v := nI fr) (by rw [hli.1.1 30 (by decide), hf1.1 30 (by decide)]; exact hcd) ?_
        refine gd_r E K 3 (pc' := 206) (lv' := [(0, .ref 27), (1, .int (nI d)), (2, .int (nI goal)), (3, .int 1), (4, .int (nI en)), (5, .int (nI fr)), (6, .int 0)]) (st' := []) (w' := w2) rfl ?_
        exact gd_cg (route w2 hli en 0 w2 (by omega) ⟨gf_r.refl _ _, fun i hi => by omega, fun _ _ => rfl⟩) rfl rfl rfl
      | succ n ih =>
        intro w2 hn hli
        refine gd_cg (lv' := [(0, .ref 27), (1, .int (nI d)), (2, .int (nI goal)), (3, .int 1), (4, .int (nI en)), (5, .int (nI n))]) (st' := []) (w' := w2) ?_ rfl rfl rfl
        refine gd_r E K 1 (pc' := 69) (lv' := [(0, .ref 27), (1, .int (nI d)), (2, .int (nI goal)), (3, .int 1), (4, .int (nI en)), (5, .int (nI n))]) (st' := [.int (nI n)]) (w' := w2) rfl ?_
        refine gd_r E K 1 (pc' := if (nI n) < 0 then 195 else 72) (lv' := [(0, .ref 27), (1, .int (nI d)), (2, .int (nI goal)), (3, .int 1), (4, .int (nI en)), (5, .int (nI n))]) (st' := []) (w' := w2) rfl ?_
        refine gd_if (nI_pos (by omega)) ?_
        refine gd_r E K 2 (pc' := 75) (lv' := [(0, .ref 27), (1, .int (nI d)), (2, .int (nI goal)), (3, .int 1), (4, .int (nI en)), (5, .int (nI n)), (6, .int 0)]) (st' := []) (w' := w2) rfl ?_
        have cells : ∀ i c0 w3, c0 + i = 64 → gs_lj (gs_led (gs_rch S T cnt fr) goal en) en w1 w3 n c0 → gd_G p l e (gd_rm 5 120) s m args below meth c D tC ad (gd_A ad 45 s.heap.size) 45 10 0 0 (MQ below (gd_Qp D tC ad 45 s.heap.size (fun r w' => r = some (.int (gm_nO (gs_way S T cnt fr goal true))) ∧ (gs_way S T cnt fr goal true = none → gf_r 42 w w') ∧ ∀ en, gs_way S T cnt fr goal true = some en → gs_laid w w' d en (gs_rtm (gs_led (gs_rch S T cnt fr) goal en) en fr))) args s 0 0 (gd_A ad 45 s.heap.size)) 75 [(0, .ref 27), (1, .int (nI d)), (2, .int (nI goal)), (3, .int 1), (4, .int (nI en)), (5, .int (nI n)), (6, .int (nI c0))] [] w3 := by
          intro i
          induction i with
          | zero =>
            intro c0 w3 hc hj
            refine gd_r E K 2 (pc' := 79) (lv' := [(0, .ref 27), (1, .int (nI d)), (2, .int (nI goal)), (3, .int 1), (4, .int (nI en)), (5, .int (nI n)), (6, .int (nI c0))]) (st' := [.int 64, .int (nI c0)]) (w' := w3) rfl ?_
            refine gd_r E K 1 (pc' := if 64 ≤ (nI c0) then 189 else 82) (lv' := [(0, .ref 27), (1, .int (nI d)), (2, .int (nI goal)), (3, .int 1), (4, .int (nI en)), (5, .int (nI n)), (6, .int (nI c0))]) (st' := []) (w' := w3) rfl ?_
            refine gd_it (nI_le (show 64 ≤ c0 by omega) (by omega)) ?_
            refine gd_r E K 2 (pc' := 67) (lv' := [(0, .ref 27), (1, .int (nI d)), (2, .int (nI goal)), (3, .int 1), (4, .int (nI en)), (5, .int ((nI n) + (-1))), (6, .int (nI c0))]) (st' := []) (w' := w3) rfl ?_
            refine gd_lvp [0, 1, 2, 3, 4, 5] (lv' := [(0, .ref 27), (1, .int (nI d)), (2, .int (nI goal)), (3, .int 1), (4, .int (nI en)), (5, .int ((nI n) + (-1)))]) rfl ?_
            exact gd_cg (ih w3 (by omega) (gs_lj_end (by rw [show (64 : Nat) = c0 by omega]; exact hj))) (by rw [gs_pr_add]) rfl rfl
          | succ i ih2 =>
            intro c0 w3 hc hj
            refine gd_r E K 2 (pc' := 79) (lv' := [(0, .ref 27), (1, .int (nI d)), (2, .int (nI goal)), (3, .int 1), (4, .int (nI en)), (5, .int (nI n)), (6, .int (nI c0))]) (st' := [.int 64, .int (nI c0)]) (w' := w3) rfl ?_
            refine gd_r E K 1 (pc' := if 64 ≤ (nI c0) then 189 else 82) (lv' := [(0, .ref 27), (1, .int (nI d)), (2, .int (nI goal)), (3, .int 1), (4, .int (nI en)), (5, .int (nI n)), (6, .int (nI c0))]) (st' := []) (w' := w3) rfl ?_
            refine gd_if (nI_ge (show c0 < 64 by omega) (by decide)) ?_
            refine gd_r E K 4 (pc' := 88) (lv' := [(0, .ref 27), (1, .int (nI d)), (2, .int (nI goal)), (3, .int 1), (4, .int (nI en)), (5, .int (nI n)), (6, .int (nI c0)), (7, .int 0), (8, .int 0)]) (st' := []) (w' := w3) rfl ?_
            have hL : gs_led (gs_rch S T cnt fr) goal en (en - n) c0 = (gs_any (fun m => gs_atO (gs_led (gs_rch S T cnt fr) goal en (en - (n + 1))) (gm_mv c0 m)) 5 && gs_rch S T cnt fr n c0) := by
              rw [show en - n = (en - (n + 1)) + 1 by omega, gs_led, show en - (en - (n + 1) + 1) = n by omega]
            have moves : ∀ i2 mm, mm + i2 = 5 → gd_G p l e (gd_rm 5 120) s m args below meth c D tC ad (gd_A ad 45 s.heap.size) 45 10 0 0 (MQ below (gd_Qp D tC ad 45 s.heap.size (fun r w' => r = some (.int (gm_nO (gs_way S T cnt fr goal true))) ∧ (gs_way S T cnt fr goal true = none → gf_r 42 w w') ∧ ∀ en, gs_way S T cnt fr goal true = some en → gs_laid w w' d en (gs_rtm (gs_led (gs_rch S T cnt fr) goal en) en fr))) args s 0 0 (gd_A ad 45 s.heap.size)) 88 [(0, .ref 27), (1, .int (nI d)), (2, .int (nI goal)), (3, .int 1), (4, .int (nI en)), (5, .int (nI n)), (6, .int (nI c0)), (7, .int (gs_b (gs_any (fun m => gs_atO (gs_led (gs_rch S T cnt fr) goal en (en - (n + 1))) (gm_mv c0 m)) mm))), (8, .int (nI mm))] [] w3 := by
              intro i2
              induction i2 with
              | zero =>
                intro mm hmm
                refine gd_r E K 2 (pc' := 91) (lv' := [(0, .ref 27), (1, .int (nI d)), (2, .int (nI goal)), (3, .int 1), (4, .int (nI en)), (5, .int (nI n)), (6, .int (nI c0)), (7, .int (gs_b (gs_any (fun m => gs_atO (gs_led (gs_rch S T cnt fr) goal en (en - (n + 1))) (gm_mv c0 m)) mm))), (8, .int (nI mm))]) (st' := [.int 5, .int (nI mm)]) (w' := w3) rfl ?_
                refine gd_r E K 1 (pc' := if 5 ≤ (nI mm) then 144 else 94) (lv' := [(0, .ref 27), (1, .int (nI d)), (2, .int (nI goal)), (3, .int 1), (4, .int (nI en)), (5, .int (nI n)), (6, .int (nI c0)), (7, .int (gs_b (gs_any (fun m => gs_atO (gs_led (gs_rch S T cnt fr) goal en (en - (n + 1))) (gm_mv c0 m)) mm))), (8, .int (nI mm))]) (st' := []) (w' := w3) rfl ?_
                refine gd_it (nI_le (show 5 ≤ mm by omega) (by omega)) ?_
                refine gd_r E K 8 (pc' := 158) (lv' := [(0, .ref 27), (1, .int (nI d)), (2, .int (nI goal)), (3, .int 1), (4, .int (nI en)), (5, .int (nI n)), (6, .int (nI c0)), (7, .int (gs_b (gs_any (fun m => gs_atO (gs_led (gs_rch S T cnt fr) goal en (en - (n + 1))) (gm_mv c0 m)) mm))), (8, .int (nI mm))]) (st' := [.int (gs_b (gs_any (fun m => gs_atO (gs_led (gs_rch S T cnt fr) goal en (en - (n + 1))) (gm_mv c0 m)) mm)), .int ((64 * (nI n)) + (nI c0)), .ref 43]) (w' := w3) rfl ?_
                have hm5 : gs_any (fun m => gs_atO (gs_led (gs_rch S T cnt fr) goal en (en - (n + 1))) (gm_mv c0 m)) mm = gs_any (fun m => gs_atO (gs_led (gs_rch S T cnt fr) goal en (en - (n + 1))) (gm_mv c0 m)) 5 := by rw [show mm = 5 by omega]
                cases hb : gs_any (fun m => gs_atO (gs_led (gs_rch S T cnt fr) goal en (en - (n + 1))) (gm_mv c0 m)) mm with
                | true =>
                  refine gd_r E K 1 (pc' := if (gs_b (true)) = 0 then 181 else 161) (lv' := [(0, .ref 27), (1, .int (nI d)), (2, .int (nI goal)), (3, .int 1), (4, .int (nI en)), (5, .int (nI n)), (6, .int (nI c0)), (7, .int (gs_b (true))), (8, .int (nI mm))]) (st' := [.int ((64 * (nI n)) + (nI c0)), .ref 43]) (w' := w3) rfl ?_
                  refine gd_if (by decide) ?_
                  refine gd_r E K 7 (pc' := 173) (lv' := [(0, .ref 27), (1, .int (nI d)), (2, .int (nI goal)), (3, .int 1), (4, .int (nI en)), (5, .int (nI n)), (6, .int (nI c0)), (7, .int (gs_b (true))), (8, .int (nI mm))]) (st' := [.int ((64 * (nI n)) + (nI c0)), .ref 42, .int ((64 * (nI n)) + (nI c0)), .ref 43]) (w' := w3) rfl ?_
                  refine gd_zaldv E (K.1 173 (.baload, 0) rfl).1 (j := 64 * n + c0) (by decide) (rfl) (by rw [show (64 : Int32) = nI 64 from rfl, pk_mul, nI_add]) (by omega) (by decide) (v := gs_b (gs_rch S T cnt fr n c0)) (by rw [hj.1.1.1 42 (by decide)]; exact hbl n (by omega) c0 (by omega)) ?_
                  cases hx : gs_rch S T cnt fr n c0 with
                  | true =>
                    refine gd_r E K 1 (pc' := if (gs_b (true)) = 0 then 181 else 177) (lv' := [(0, .ref 27), (1, .int (nI d)), (2, .int (nI goal)), (3, .int 1), (4, .int (nI en)), (5, .int (nI n)), (6, .int (nI c0)), (7, .int (gs_b (true))), (8, .int (nI mm))]) (st' := [.int ((64 * (nI n)) + (nI c0)), .ref 43]) (w' := w3) rfl ?_
                    refine gd_if (by decide) ?_
                    refine gd_r E K 2 (pc' := 182) (lv' := [(0, .ref 27), (1, .int (nI d)), (2, .int (nI goal)), (3, .int 1), (4, .int (nI en)), (5, .int (nI n)), (6, .int (nI c0)), (7, .int (gs_b (true))), (8, .int (nI mm))]) (st' := [.int 1, .int ((64 * (nI n)) + (nI c0)), .ref 43]) (w' := w3) rfl ?_
                    refine gd_zast E (K.1 182 (.bastore, 0) rfl).1 (j := 64 * n + c0) (by decide) (rfl) (by rw [show (64 : Int32) = nI 64 from rfl, pk_mul, nI_add]) (by omega) (by decide) (by decide) ?_
                    refine gd_r E K 2 (pc' := 75) (lv' := [(0, .ref 27), (1, .int (nI d)), (2, .int (nI goal)), (3, .int 1), (4, .int (nI en)), (5, .int (nI n)), (6, .int ((nI c0) + 1)), (7, .int (gs_b (true))), (8, .int (nI mm))]) (st' := []) (w' := gd_rI w3 43 (upd (w3.1 43) (64 * n + c0) 1)) rfl ?_
                    refine gd_lvp [0, 1, 2, 3, 4, 5, 6] (lv' := [(0, .ref 27), (1, .int (nI d)), (2, .int (nI goal)), (3, .int 1), (4, .int (nI en)), (5, .int (nI n)), (6, .int ((nI c0) + 1))]) rfl ?_
                    exact gd_cg (ih2 (c0 + 1) _ (by omega) (gs_lj_step hj (by omega) (by rw [hL, ← hm5, hb, hx]; rfl))) (by rw [nI_1]) rfl rfl
                  | false =>
                    refine gd_r E K 1 (pc' := if (gs_b (false)) = 0 then 181 else 177) (lv' := [(0, .ref 27), (1, .int (nI d)), (2, .int (nI goal)), (3, .int 1), (4, .int (nI en)), (5, .int (nI n)), (6, .int (nI c0)), (7, .int (gs_b (true))), (8, .int (nI mm))]) (st' := [.int ((64 * (nI n)) + (nI c0)), .ref 43]) (w' := w3) rfl ?_
                    refine gd_it (by decide) ?_
                    refine gd_r E K 1 (pc' := 182) (lv' := [(0, .ref 27), (1, .int (nI d)), (2, .int (nI goal)), (3, .int 1), (4, .int (nI en)), (5, .int (nI n)), (6, .int (nI c0)), (7, .int (gs_b (true))), (8, .int (nI mm))]) (st' := [.int 0, .int ((64 * (nI n)) + (nI c0)), .ref 43]) (w' := w3) rfl ?_
                    refine gd_zast E (K.1 182 (.bastore, 0) rfl).1 (j := 64 * n + c0) (by decide) (rfl) (by rw [show (64 : Int32) = nI 64 from rfl, pk_mul, nI_add]) (by omega) (by decide) (by decide) ?_
                    refine gd_r E K 2 (pc' := 75) (lv' := [(0, .ref 27), (1, .int (nI d)), (2, .int (nI goal)), (3, .int 1), (4, .int (nI en)), (5, .int (nI n)), (6, .int ((nI c0) + 1)), (7, .int (gs_b (true))), (8, .int (nI mm))]) (st' := []) (w' := gd_rI w3 43 (upd (w3.1 43) (64 * n + c0) 0)) rfl ?_
                    refine gd_lvp [0, 1, 2, 3, 4, 5, 6] (lv' := [(0, .ref 27), (1, .int (nI d)), (2, .int (nI goal)), (3, .int 1), (4, .int (nI en)), (5, .int (nI n)), (6, .int ((nI c0) + 1))]) rfl ?_
                    exact gd_cg (ih2 (c0 + 1) _ (by omega) (gs_lj_step hj (by omega) (by rw [hL, ← hm5, hb, hx]; rfl))) (by rw [nI_1]) rfl rfl
                | false =>
                  refine gd_r E K 1 (pc' := if (gs_b (false)) = 0 then 181 else 161) (lv' := [(0, .ref 27), (1, .int (nI d)), (2, .int (nI goal)), (3, .int 1), (4, .int (nI en)), (5, .int (nI n)), (6, .int (nI c0)), (7, .int (gs_b (false))), (8, .int (nI mm))]) (st' := [.int ((64 * (nI n)) + (nI c0)), .ref 43]) (w' := w3) rfl ?_
                  refine gd_it (by decide) ?_
                  refine gd_r E K 1 (pc' := 182) (lv' := [(0, .ref 27), (1, .int (nI d)), (2, .int (nI goal)), (3, .int 1), (4, .int (nI en)), (5, .int (nI n)), (6, .int (nI c0)), (7, .int (gs_b (false))), (8, .int (nI mm))]) (st' := [.int 0, .int ((64 * (nI n)) + (nI c0)), .ref 43]) (w' := w3) rfl ?_
                  refine gd_zast E (K.1 182 (.bastore, 0) rfl).1 (j := 64 * n + c0) (by decide) (rfl) (by rw [show (64 : Int32) = nI 64 from rfl, pk_mul, nI_add]) (by omega) (by decide) (by decide) ?_
                  refine gd_r E K 2 (pc' := 75) (lv' := [(0, .ref 27), (1, .int (nI d)), (2, .int (nI goal)), (3, .int 1), (4, .int (nI en)), (5, .int (nI n)), (6, .int ((nI c0) + 1)), (7, .int (gs_b (false))), (8, .int (nI mm))]) (st' := []) (w' := gd_rI w3 43 (upd (w3.1 43) (64 * n + c0) 0)) rfl ?_
                  refine gd_lvp [0, 1, 2, 3, 4, 5, 6] (lv' := [(0, .ref 27), (1, .int (nI d)), (2, .int (nI goal)), (3, .int 1), (4, .int (nI en)), (5, .int (nI n)), (6, .int ((nI c0) + 1))]) rfl ?_
                  exact gd_cg (ih2 (c0 + 1) _ (by omega) (gs_lj_step hj (by omega) (by rw [hL, ← hm5, hb, Bool.false_and]; rfl))) (by rw [nI_1]) rfl rfl
              | succ i2 ih3 =>
                intro mm hmm
                refine gd_r E K 2 (pc' := 91) (lv' := [(0, .ref 27), (1, .int (nI d)), (2, .int (nI goal)), (3, .int 1), (4, .int (nI en)), (5, .int (nI n)), (6, .int (nI c0)), (7, .int (gs_b (gs_any (fun m => gs_atO (gs_led (gs_rch S T cnt fr) goal en (en - (n + 1))) (gm_mv c0 m)) mm))), (8, .int (nI mm))]) (st' := [.int 5, .int (nI mm)]) (w' := w3) rfl ?_
                refine gd_r E K 1 (pc' := if 5 ≤ (nI mm) then 144 else 94) (lv' := [(0, .ref 27), (1, .int (nI d)), (2, .int (nI goal)), (3, .int 1), (4, .int (nI en)), (5, .int (nI n)), (6, .int (nI c0)), (7, .int (gs_b (gs_any (fun m => gs_atO (gs_led (gs_rch S T cnt fr) goal en (en - (n + 1))) (gm_mv c0 m)) mm))), (8, .int (nI mm))]) (st' := []) (w' := w3) rfl ?_
                refine gd_if (nI_ge (show mm < 5 by omega) (by decide)) ?_
                refine gd_r E K 2 (pc' := 98) (lv' := [(0, .ref 27), (1, .int (nI d)), (2, .int (nI goal)), (3, .int 1), (4, .int (nI en)), (5, .int (nI n)), (6, .int (nI c0)), (7, .int (gs_b (gs_any (fun m => gs_atO (gs_led (gs_rch S T cnt fr) goal en (en - (n + 1))) (gm_mv c0 m)) mm))), (8, .int (nI mm))]) (st' := [.int (nI mm), .int (nI c0)]) (w' := w3) rfl ?_
                refine gd_cS E hA (av := [.int (nI c0), .int (nI mm)]) (rest := []) (c2_moved hinj c0 mm (by omega) (by omega) w3) (K.1 98 (.invokestatic 82, 0) rfl).1 ml_M_82 cv_M_moved ⟨Nat.le_of_ble_eq_true rfl, Nat.le_of_ble_eq_true rfl⟩ ⟨Nat.zero_le _, Nat.zero_le _⟩ rfl (Nat.le_of_ble_eq_true rfl) ?_
                refine gd_r E K 2 (pc' := 105) (lv' := [(0, .ref 27), (1, .int (nI d)), (2, .int (nI goal)), (3, .int 1), (4, .int (nI en)), (5, .int (nI n)), (6, .int (nI c0)), (7, .int (gs_b (gs_any (fun m => gs_atO (gs_led (gs_rch S T cnt fr) goal en (en - (n + 1))) (gm_mv c0 m)) mm))), (8, .int (nI mm)), (9, .int (gm_nO (gm_mv c0 mm)))]) (st' := [.int (gs_b (gs_any (fun m => gs_atO (gs_led (gs_rch S T cnt fr) goal en (en - (n + 1))) (gm_mv c0 m)) mm))]) (w' := w3) rfl ?_
                cases hb : gs_any (fun m => gs_atO (gs_led (gs_rch S T cnt fr) goal en (en - (n + 1))) (gm_mv c0 m)) mm with
                | true =>
                  refine gd_r E K 1 (pc' := if (gs_b (true)) = 0 then 108 else 131) (lv' := [(0, .ref 27), (1, .int (nI d)), (2, .int (nI goal)), (3, .int 1), (4, .int (nI en)), (5, .int (nI n)), (6, .int (nI c0)), (7, .int (gs_b (true))), (8, .int (nI mm)), (9, .int (gm_nO (gm_mv c0 mm)))]) (st' := []) (w' := w3) rfl ?_
                  refine gd_if (by decide) ?_
                  refine gd_r E K 5 (pc' := 88) (lv' := [(0, .ref 27), (1, .int (nI d)), (2, .int (nI goal)), (3, .int 1), (4, .int (nI en)), (5, .int (nI n)), (6, .int (nI c0)), (7, .int 1), (8, .int ((nI mm) + 1)), (9, .int (gm_nO (gm_mv c0 mm)))]) (st' := []) (w' := w3) rfl ?_
                  refine gd_lvp [0, 1, 2, 3, 4, 5, 6, 7, 8] (lv' := [(0, .ref 27), (1, .int (nI d)), (2, .int (nI goal)), (3, .int 1), (4, .int (nI en)), (5, .int (nI n)), (6, .int (nI c0)), (7, .int 1), (8, .int ((nI mm) + 1))]) rfl ?_
                  exact gd_cg (ih3 (mm + 1) (by omega)) (by rw [gs_any_s, hb, Bool.true_or, nI_1]; rfl) rfl rfl
                | false =>
                  refine gd_r E K 1 (pc' := if (gs_b (false)) = 0 then 108 else 131) (lv' := [(0, .ref 27), (1, .int (nI d)), (2, .int (nI goal)), (3, .int 1), (4, .int (nI en)), (5, .int (nI n)), (6, .int (nI c0)), (7, .int (gs_b (false))), (8, .int (nI mm)), (9, .int (gm_nO (gm_mv c0 mm)))]) (st' := []) (w' := w3) rfl ?_
                  refine gd_it (by decide) ?_
                  refine gd_r E K 1 (pc' := 110) (lv' := [(0, .ref 27), (1, .int (nI d)), (2, .int (nI goal)), (3, .int 1), (4, .int (nI en)), (5, .int (nI n)), (6, .int (nI c0)), (7, .int (gs_b (false))), (8, .int (nI mm)), (9, .int (gm_nO (gm_mv c0 mm)))]) (st' := [.int (gm_nO (gm_mv c0 mm))]) (w' := w3) rfl ?_
                  cases ht : gm_mv c0 mm with
                  | none =>
                    refine gd_r E K 1 (pc' := if (gm_nO (none)) < 0 then 135 else 113) (lv' := [(0, .ref 27), (1, .int (nI d)), (2, .int (nI goal)), (3, .int 1), (4, .int (nI en)), (5, .int (nI n)), (6, .int (nI c0)), (7, .int (gs_b (false))), (8, .int (nI mm)), (9, .int (gm_nO (none)))]) (st' := []) (w' := w3) rfl ?_
                    refine gd_it (by decide) ?_
                    refine gd_r E K 4 (pc' := 88) (lv' := [(0, .ref 27), (1, .int (nI d)), (2, .int (nI goal)), (3, .int 1), (4, .int (nI en)), (5, .int (nI n)), (6, .int (nI c0)), (7, .int 0), (8, .int ((nI mm) + 1)), (9, .int (gm_nO (none)))]) (st' := []) (w' := w3) rfl ?_
                    refine gd_lvp [0, 1, 2, 3, 4, 5, 6, 7, 8] (lv' := [(0, .ref 27), (1, .int (nI d)), (2, .int (nI goal)), (3, .int 1), (4, .int (nI en)), (5, .int (nI n)), (6, .int (nI c0)), (7, .int 0), (8, .int ((nI mm) + 1))]) rfl ?_
                    exact gd_cg (ih3 (mm + 1) (by omega)) (by rw [gs_any_s, hb, ht, Bool.false_or, gs_atO, nI_1]; rfl) rfl rfl
                  | some bb =>
                    have hb64 := gm_mv_lt (by omega) ht
                    refine gd_r E K 1 (pc' := if (gm_nO (some bb)) < 0 then 135 else 113) (lv' := [(0, .ref 27), (1, .int (nI d)), (2, .int (nI goal)), (3, .int 1), (4, .int (nI en)), (5, .int (nI n)), (6, .int (nI c0)), (7, .int (gs_b (false))), (8, .int (nI mm)), (9, .int (gm_nO (some bb)))]) (st' := []) (w' := w3) rfl ?_
                    refine gd_if (gm_nO_some (by omega)) ?_
                    refine gd_r E K 9 (pc' := 127) (lv' := [(0, .ref 27), (1, .int (nI d)), (2, .int (nI goal)), (3, .int 1), (4, .int (nI en)), (5, .int (nI n)), (6, .int (nI c0)), (7, .int (gs_b (false))), (8, .int (nI mm)), (9, .int (gm_nO (some bb)))]) (st' := [.int ((64 * ((nI n) + 1)) + (gm_nO (some bb))), .ref 43]) (w' := w3) rfl ?_
                    refine gd_zaldv E (K.1 127 (.baload, 0) rfl).1 (j := 64 * (n + 1) + bb) (by decide) (rfl) (by rw [show (64 : Int32) = nI 64 from rfl, nI_1, pk_mul, gm_nO, nI_add]) (by omega) (by decide) (v := gs_b (gs_led (gs_rch S T cnt fr) goal en (en - (n + 1)) bb)) (hj.1.2 (n + 1) (by omega) (by omega) bb hb64) ?_
                    cases hx : gs_led (gs_rch S T cnt fr) goal en (en - (n + 1)) bb with
                    | true =>
                      refine gd_r E K 1 (pc' := if (gs_b (true)) = 0 then 135 else 131) (lv' := [(0, .ref 27), (1, .int (nI d)), (2, .int (nI goal)), (3, .int 1), (4, .int (nI en)), (5, .int (nI n)), (6, .int (nI c0)), (7, .int (gs_b (false))), (8, .int (nI mm)), (9, .int (gm_nO (some bb)))]) (st' := []) (w' := w3) rfl ?_
                      refine gd_if (by decide) ?_
                      refine gd_r E K 5 (pc' := 88) (lv' := [(0, .ref 27), (1, .int (nI d)), (2, .int (nI goal)), (3, .int 1), (4, .int (nI en)), (5, .int (nI n)), (6, .int (nI c0)), (7, .int 1), (8, .int ((nI mm) + 1)), (9, .int (gm_nO (some bb)))]) (st' := []) (w' := w3) rfl ?_
                      refine gd_lvp [0, 1, 2, 3, 4, 5, 6, 7, 8] (lv' := [(0, .ref 27), (1, .int (nI d)), (2, .int (nI goal)), (3, .int 1), (4, .int (nI en)), (5, .int (nI n)), (6, .int (nI c0)), (7, .int 1), (8, .int ((nI mm) + 1))]) rfl ?_
                      exact gd_cg (ih3 (mm + 1) (by omega)) (by rw [gs_any_s, hb, ht, Bool.false_or, gs_atO, hx, nI_1]; rfl) rfl rfl
                    | false =>
                      refine gd_r E K 1 (pc' := if (gs_b (false)) = 0 then 135 else 131) (lv' := [(0, .ref 27), (1, .int (nI d)), (2, .int (nI goal)), (3, .int 1), (4, .int (nI en)), (5, .int (nI n)), (6, .int (nI c0)), (7, .int (gs_b (false))), (8, .int (nI mm)), (9, .int (gm_nO (some bb)))]) (st' := []) (w' := w3) rfl ?_
                      refine gd_it (by decide) ?_
                      refine gd_r E K 4 (pc' := 88) (lv' := [(0, .ref 27), (1, .int (nI d)), (2, .int (nI goal)), (3, .int 1), (4, .int (nI en)), (5, .int (nI n)), (6, .int (nI c0)), (7, .int 0), (8, .int ((nI mm) + 1)), (9, .int (gm_nO (some bb)))]) (st' := []) (w' := w3) rfl ?_
                      refine gd_lvp [0, 1, 2, 3, 4, 5, 6, 7, 8] (lv' := [(0, .ref 27), (1, .int (nI d)), (2, .int (nI goal)), (3, .int 1), (4, .int (nI en)), (5, .int (nI n)), (6, .int (nI c0)), (7, .int 0), (8, .int ((nI mm) + 1))]) rfl ?_
                      exact gd_cg (ih3 (mm + 1) (by omega)) (by rw [gs_any_s, hb, ht, Bool.false_or, gs_atO, hx, nI_1]; rfl) rfl rfl
            exact gd_cg (moves 5 0 (by omega)) rfl rfl rfl
        exact gd_cg (cells 64 0 w2 (by omega) ⟨hli, fun c hc => by omega⟩) rfl rfl rfl
    have goalrow : ∀ i c0 w2, c0 + i = 64 → gs_lj (gs_led (gs_rch S T cnt fr) goal en) en w1 w2 en c0 → gd_G p l e (gd_rm 5 120) s m args below meth c D tC ad (gd_A ad 45 s.heap.size) 45 10 0 0 (MQ below (gd_Qp D tC ad 45 s.heap.size (fun r w' => r = some (.int (gm_nO (gs_way S T cnt fr goal true))) ∧ (gs_way S T cnt fr goal true = none → gf_r 42 w w') ∧ ∀ en, gs_way S T cnt fr goal true = some en → gs_laid w w' d en (gs_rtm (gs_led (gs_rch S T cnt fr) goal en) en fr))) args s 0 0 (gd_A ad 45 s.heap.size)) 24 [(0, .ref 27), (1, .int (nI d)), (2, .int (nI goal)), (3, .int 1), (4, .int (nI en)), (5, .int (nI c0))] [] w2 := by
      intro i
      induction i with
      | zero =>
        intro c0 w2 hc hj
        refine gd_r E K 2 (pc' := 28) (lv' := [(0, .ref 27), (1, .int (nI d)), (2, .int (nI goal)), (3, .int 1), (4, .int (nI en)), (5, .int (nI c0))]) (st' := [.int 64, .int (nI c0)]) (w' := w2) rfl ?_
        refine gd_r E K 1 (pc' := if 64 ≤ (nI c0) then 61 else 31) (lv' := [(0, .ref 27), (1, .int (nI d)), (2, .int (nI goal)), (3, .int 1), (4, .int (nI en)), (5, .int (nI c0))]) (st' := []) (w' := w2) rfl ?_
        refine gd_it (nI_le (show 64 ≤ c0 by omega) (by omega)) ?_
        refine gd_r E K 4 (pc' := 67) (lv' := [(0, .ref 27), (1, .int (nI d)), (2, .int (nI goal)), (3, .int 1), (4, .int (nI en)), (5, .int ((nI en) - 1))]) (st' := []) (w' := w2) rfl ?_
        exact gd_cg (back en w2 (by omega) (gs_lj_end (by rw [show (64 : Nat) = c0 by omega]; exact hj))) (by rw [gs_pr_sub]) rfl rfl
      | succ i ih =>
        intro c0 w2 hc hj
        refine gd_r E K 2 (pc' := 28) (lv' := [(0, .ref 27), (1, .int (nI d)), (2, .int (nI goal)), (3, .int 1), (4, .int (nI en)), (5, .int (nI c0))]) (st' := [.int 64, .int (nI c0)]) (w' := w2) rfl ?_
        refine gd_r E K 1 (pc' := if 64 ≤ (nI c0) then 61 else 31) (lv' := [(0, .ref 27), (1, .int (nI d)), (2, .int (nI goal)), (3, .int 1), (4, .int (nI en)), (5, .int (nI c0))]) (st' := []) (w' := w2) rfl ?_
        refine gd_if (nI_ge (show c0 < 64 by omega) (by decide)) ?_
        refine gd_r E K 9 (pc' := 46) (lv' := [(0, .ref 27), (1, .int (nI d)), (2, .int (nI goal)), (3, .int 1), (4, .int (nI en)), (5, .int (nI c0))]) (st' := [.int (nI goal), .int (nI c0), .int ((64 * (nI en)) + (nI c0)), .ref 43]) (w' := w2) rfl ?_
        by_cases hcg : c0 = goal
        · refine gd_r E K 1 (pc' := if (nI c0) = (nI goal) then 49 else 53) (lv' := [(0, .ref 27), (1, .int (nI d)), (2, .int (nI goal)), (3, .int 1), (4, .int (nI en)), (5, .int (nI c0))]) (st' := [.int ((64 * (nI en)) + (nI c0)), .ref 43]) (w' := w2) rfl ?_
          refine gd_it (by rw [hcg]) ?_
          refine gd_r E K 2 (pc' := 54) (lv' := [(0, .ref 27), (1, .int (nI d)), (2, .int (nI goal)), (3, .int 1), (4, .int (nI en)), (5, .int (nI c0))]) (st' := [.int 1, .int ((64 * (nI en)) + (nI c0)), .ref 43]) (w' := w2) rfl ?_
          refine gd_zast E (K.1 54 (.bastore, 0) rfl).1 (j := 64 * en + c0) (by decide) (rfl) (by rw [show (64 : Int32) = nI 64 from rfl, pk_mul, nI_add]) (by omega) (by decide) (by decide) ?_
          refine gd_r E K 2 (pc' := 24) (lv' := [(0, .ref 27), (1, .int (nI d)), (2, .int (nI goal)), (3, .int 1), (4, .int (nI en)), (5, .int ((nI c0) + 1))]) (st' := []) (w' := gd_rI w2 43 (upd (w2.1 43) (64 * en + c0) 1)) rfl ?_
          exact gd_cg (ih (c0 + 1) _ (by omega) (gs_lj_step hj (by omega) (by rw [Nat.sub_self, gs_led, decide_eq_true hcg]; rfl))) (by rw [nI_1]) rfl rfl
        · refine gd_r E K 1 (pc' := if (nI c0) = (nI goal) then 49 else 53) (lv' := [(0, .ref 27), (1, .int (nI d)), (2, .int (nI goal)), (3, .int 1), (4, .int (nI en)), (5, .int (nI c0))]) (st' := [.int ((64 * (nI en)) + (nI c0)), .ref 43]) (w' := w2) rfl ?_
          refine gd_if (by rw [nI_eq (by omega) (by omega)]; exact hcg) ?_
          refine gd_r E K 1 (pc' := 54) (lv' := [(0, .ref 27), (1, .int (nI d)), (2, .int (nI goal)), (3, .int 1), (4, .int (nI en)), (5, .int (nI c0))]) (st' := [.int 0, .int ((64 * (nI en)) + (nI c0)), .ref 43]) (w' := w2) rfl ?_
          refine gd_zast E (K.1 54 (.bastore, 0) rfl).1 (j := 64 * en + c0) (by decide) (rfl) (by rw [show (64 : Int32) = nI 64 from rfl, pk_mul, nI_add]) (by omega) (by decide) (by decide) ?_
          refine gd_r E K 2 (pc' := 24) (lv' := [(0, .ref 27), (1, .int (nI d)), (2, .int (nI goal)), (3, .int 1), (4, .int (nI en)), (5, .int ((nI c0) + 1))]) (st' := []) (w' := gd_rI w2 43 (upd (w2.1 43) (64 * en + c0) 0)) rfl ?_
          exact gd_cg (ih (c0 + 1) _ (by omega) (gs_lj_step hj (by omega) (by rw [Nat.sub_self, gs_led, decide_eq_false hcg]; rfl))) (by rw [nI_1]) rfl rfl
    refine gd_r E K 2 (pc' := 24) (lv' := [(0, .ref 27), (1, .int (nI d)), (2, .int (nI goal)), (3, .int 1), (4, .int (nI en)), (5, .int 0)]) (st' := []) (w' := w1) rfl ?_
    exact gd_cg (goalrow 64 0 w1 (by omega) ⟨⟨gf_r.refl _ _, fun i hi hi2 => by omega⟩, fun c hc => by omega⟩) rfl rfl rfl
set_option maxRecDepth 100000 in
theorem c2_layS {l : Launch} {D : va_G} {tC : FieldType → ClassId} {ad : Nat → Nat} (hinj : ∀ i j, ad i = ad j → i = j) {S : gs_T} {cnt : Nat} {T : Nat → Nat → Option Nat} (w : gd_W) (hK : gs_KK w S) (hT : gs_tab w cnt T) (d fr goal : Nat) (hd : d < 60) (hcd : w.1 30 d = nI fr) (hf : fr < 64) (hg : goal < 64) : gd_Cp l D tC ad 45 5 120 y_M_lay c_M_lay 10 (some .int) [.ref 27, .int (nI d), .int (nI goal), .int 0] w (fun r w' => r = some (.int (gm_nO (gs_way S T cnt fr goal false))) ∧ (gs_way S T cnt fr goal false = none → gf_r 42 w w') ∧ ∀ en, gs_way S T cnt fr goal false = some en → gs_laid w w' d en (gs_rtm (gs_led (gs_rch S T cnt fr) goal en) en fr)) := by
  refine gd_Cp_of rfl hinj (Nat.le_of_ble_eq_true rfl) ?_
  intro p e s m args below meth c E hr hlk
  have K := k_M_lay
  have hA : ∀ q, gd_A ad 45 s.heap.size q → gd_A ad 45 s.heap.size q := fun _ h => h
  refine gd_r E K 4 (pc' := 6) (lv' := [(0, .ref 27), (1, .int (nI d)), (2, .int (nI goal)), (3, .int 0)]) (st' := [.int (nI d), .ref 30, .ref 27]) (w' := w) rfl ?_
  refine gd_ialdv E (K.1 6 (.iaload, 0) rfl).1 (j := d) (by decide) (rfl) (rfl) (hd) (by decide) (v := nI fr) (hcd) ?_
  refine gd_r E K 2 (pc' := 9) (lv' := [(0, .ref 27), (1, .int (nI d)), (2, .int (nI goal)), (3, .int 0)]) (st' := [.int 0, .int (nI goal), .int (nI fr), .ref 27]) (w' := w) rfl ?_
  refine gd_cVp E hA (av := [.int (nI fr), .int (nI goal), .int 0]) (rest := []) (c2_spreadS hinj w hK hT fr goal hf hg) (K.1 9 (.invokevirtual 111, 0) rfl).1 ml_M_111 cv_M_spread (by decide) (rfl) ⟨Nat.le_of_ble_eq_true rfl, Nat.le_of_ble_eq_true rfl⟩ ⟨Nat.zero_le _, Nat.zero_le _⟩ rfl (Nat.le_of_ble_eq_true rfl) (fun r9 w1 h9 => ?_)
  obtain ⟨rfl, hf1, hbl⟩ := h9
  refine gd_r E K 2 (pc' := 16) (lv' := [(0, .ref 27), (1, .int (nI d)), (2, .int (nI goal)), (3, .int 0), (4, .int (gm_nO (gs_way S T cnt fr goal false)))]) (st' := [.int (gm_nO (gs_way S T cnt fr goal false))]) (w' := w1) rfl ?_
  obtain ⟨res, hres⟩ : ∃ x, gs_way S T cnt fr goal false = x := ⟨_, rfl⟩
  cases res with
  | none =>
    refine gd_cg (lv' := [(0, .ref 27), (1, .int (nI d)), (2, .int (nI goal)), (3, .int 0), (4, .int (gm_nO none))]) (st' := [.int (gm_nO none)]) (w' := w1) ?_ (by rw [hres]) (by rw [hres]) (rfl)
    refine gd_r E K 1 (pc' := if 0 ≤ (gm_nO none) then 21 else 19) (lv' := [(0, .ref 27), (1, .int (nI d)), (2, .int (nI goal)), (3, .int 0), (4, .int (gm_nO none))]) (st' := []) (w' := w1) rfl ?_
    refine gd_if (by decide) ?_
    refine gd_r E K 1 (pc' := 20) (lv' := [(0, .ref 27), (1, .int (nI d)), (2, .int (nI goal)), (3, .int 0), (4, .int (gm_nO none))]) (st' := [.int (-1)]) (w' := w1) rfl ?_
    exact gd_iretp E hr hlk (K.1 20 (.ireturn, 0) rfl).1 (⟨by rw [hres]; rfl, fun _ => hf1, fun en he => by rw [hres] at he; cases he⟩)
  | some en =>
    refine gd_cg (lv' := [(0, .ref 27), (1, .int (nI d)), (2, .int (nI goal)), (3, .int 0), (4, .int (gm_nO (some en)))]) (st' := [.int (gm_nO (some en))]) (w' := w1) ?_ (by rw [hres]) (by rw [hres]) (rfl)
    have hen := gs_way_le hres
    have hbl := hbl en hres
    refine gd_r E K 1 (pc' := if 0 ≤ (gm_nO (some en)) then 21 else 19) (lv' := [(0, .ref 27), (1, .int (nI d)), (2, .int (nI goal)), (3, .int 0), (4, .int (gm_nO (some en)))]) (st' := []) (w' := w1) rfl ?_
    refine gd_it (nI_pos' (by omega)) ?_
    refine gd_cg (lv' := [(0, .ref 27), (1, .int (nI d)), (2, .int (nI goal)), (3, .int 0), (4, .int (nI en))]) (st' := []) (w' := w1) ?_ (rfl) (rfl) (rfl)
    have route : ∀ w2, gs_li (gs_led (gs_rch S T cnt fr) goal en) en w1 w2 0 → ∀ j n w3, n + j = en → gs_lr w2 w3 d n (gs_rtm (gs_led (gs_rch S T cnt fr) goal en) en fr) → gd_G p l e (gd_rm 5 120) s m args below meth c D tC ad (gd_A ad 45 s.heap.size) 45 10 0 0 (MQ below (gd_Qp D tC ad 45 s.heap.size (fun r w' => r = some (.int (gm_nO (gs_way S T cnt fr goal false))) ∧ (gs_way S T cnt fr goal false = none → gf_r 42 w w') ∧ ∀ en, gs_way S T cnt fr goal false = some en → gs_laid w w' d en (gs_rtm (gs_led (gs_rch S T cnt fr) goal en) en fr))) args s 0 0 (gd_A ad 45 s.heap.size)) 206 [(0, .ref 27), (1, .int (nI d)), (2, .int (nI goal)), (3, .int 0), (4, .int (nI en)), (5, .int (nI (gs_rtc (gs_led (gs_rch S T cnt fr) goal en) en fr n))), (6, .int (nI n))] [] w3 := by
      intro w2 hli j
      induction j with
      | zero =>
        intro n w3 hn hlr
        refine gd_r E K 2 (pc' := 210) (lv' := [(0, .ref 27), (1, .int (nI d)), (2, .int (nI goal)), (3, .int 0), (4, .int (nI en)), (5, .int (nI (gs_rtc (gs_led (gs_rch S T cnt fr) goal en) en fr n))), (6, .int (nI n))]) (st' := [.int (nI en), .int (nI n)]) (w' := w3) rfl ?_
        refine gd_r E K 1 (pc' := if (nI en) ≤ (nI n) then 287 else 213) (lv' := [(0, .ref 27), (1, .int (nI d)), (2, .int (nI goal)), (3, .int 0), (4, .int (nI en)), (5, .int (nI (gs_rtc (gs_led (gs_rch S T cnt fr) goal en) en fr n))), (6, .int (nI n))]) (st' := []) (w' := w3) rfl ?_
        refine gd_it (nI_le (show en ≤ n by omega) (by omega)) ?_
        refine gd_r E K 4 (pc' := 294) (lv' := [(0, .ref 27), (1, .int (nI d)), (2, .int (nI goal)), (3, .int 0), (4, .int (nI en)), (5, .int (nI (gs_rtc (gs_led (gs_rch S T cnt fr) goal en) en fr n))), (6, .int (nI n))]) (st' := [.int (nI en), .int (nI d), .ref 34]) (w' := w3) rfl ?_
        refine gd_iast E (K.1 294 (.iastore, 0) rfl).1 (j := d) (by decide) (rfl) (rfl) (hd) (by decide) ?_
        refine gd_r E K 4 (pc' := 301) (lv' := [(0, .ref 27), (1, .int (nI d)), (2, .int (nI goal)), (3, .int 0), (4, .int (nI en)), (5, .int (nI (gs_rtc (gs_led (gs_rch S T cnt fr) goal en) en fr n))), (6, .int (nI n))]) (st' := [.int 0, .int (nI d), .ref 35]) (w' := gd_rI w3 34 (upd (w3.1 34) d (nI en))) rfl ?_
        refine gd_iast E (K.1 301 (.iastore, 0) rfl).1 (j := d) (by decide) (rfl) (rfl) (hd) (by decide) ?_
        refine gd_r E K 1 (pc' := 304) (lv' := [(0, .ref 27), (1, .int (nI d)), (2, .int (nI goal)), (3, .int 0), (4, .int (nI en)), (5, .int (nI (gs_rtc (gs_led (gs_rch S T cnt fr) goal en) en fr n))), (6, .int (nI n))]) (st' := [.int (nI en)]) (w' := gd_rI (gd_rI w3 34 (upd (w3.1 34) d (nI en))) 35 (upd ((gd_rI w3 34 (upd (w3.1 34) d (nI en))).1 35) d 0)) rfl ?_
        exact gd_iretp E hr hlk (K.1 304 (.ireturn, 0) rfl).1 (⟨by rw [hres]; rfl, fun h => (by rw [hres] at h; cases h), fun en2 he => by rw [hres] at he; cases he; exact gs_laid_of hf1 hli.1 (by have hne : n = en := (by omega); rw [hne] at hlr; exact hlr)⟩)
      | succ j ih =>
        intro n w3 hn hlr
        refine gd_r E K 2 (pc' := 210) (lv' := [(0, .ref 27), (1, .int (nI d)), (2, .int (nI goal)), (3, .int 0), (4, .int (nI en)), (5, .int (nI (gs_rtc (gs_led (gs_rch S T cnt fr) goal en) en fr n))), (6, .int (nI n))]) (st' := [.int (nI en), .int (nI n)]) (w' := w3) rfl ?_
        refine gd_r E K 1 (pc' := if (nI en) ≤ (nI n) then 287 else 213) (lv' := [(0, .ref 27), (1, .int (nI d)), (2, .int (nI goal)), (3, .int 0), (4, .int (nI en)), (5, .int (nI (gs_rtc (gs_led (gs_rch S T cnt fr) goal en) en fr n))), (6, .int (nI n))]) (st' := []) (w' := w3) rfl ?_
        refine gd_if (nI_ge (show n < en by omega) (by omega)) ?_
        refine gd_r E K 2 (pc' := 216) (lv' := [(0, .ref 27), (1, .int (nI d)), (2, .int (nI goal)), (3, .int 0), (4, .int (nI en)), (5, .int (nI (gs_rtc (gs_led (gs_rch S T cnt fr) goal en) en fr n))), (6, .int (nI n)), (7, .int 0)]) (st' := []) (w' := w3) rfl ?_
        obtain ⟨hex, hmv⟩ := gs_rtc_mv hf hg hres (show n < en by omega)
        obtain ⟨q1, q2, q3⟩ := gs_lm_spec hex
        have hc64 := (gs_rtc_ok hf hg hres n (by omega)).1
        have hrow : gs_blk w3 43 (n + 1) 64 (gs_led (gs_rch S T cnt fr) goal en (en - (n + 1))) := by
          intro c0 hc0
          rw [hlr.1.1 43 (by decide)]
          exact hli.2 (n + 1) (by omega) (by omega) c0 hc0
        have hlm : gs_lm (fun m => gs_atO (gs_led (gs_rch S T cnt fr) goal en (en - (n + 1))) (gm_mv (gs_rtc (gs_led (gs_rch S T cnt fr) goal en) en fr n) m)) = gs_rtm (gs_led (gs_rch S T cnt fr) goal en) en fr n := rfl
        rw [hlm] at q1 q2 q3
        have pick : ∀ i mm, mm + i = gs_rtm (gs_led (gs_rch S T cnt fr) goal en) en fr n → gd_G p l e (gd_rm 5 120) s m args below meth c D tC ad (gd_A ad 45 s.heap.size) 45 10 0 0 (MQ below (gd_Qp D tC ad 45 s.heap.size (fun r w' => r = some (.int (gm_nO (gs_way S T cnt fr goal false))) ∧ (gs_way S T cnt fr goal false = none → gf_r 42 w w') ∧ ∀ en, gs_way S T cnt fr goal false = some en → gs_laid w w' d en (gs_rtm (gs_led (gs_rch S T cnt fr) goal en) en fr))) args s 0 0 (gd_A ad 45 s.heap.size)) 216 [(0, .ref 27), (1, .int (nI d)), (2, .int (nI goal)), (3, .int 0), (4, .int (nI en)), (5, .int (nI (gs_rtc (gs_led (gs_rch S T cnt fr) goal en) en fr n))), (6, .int (nI n)), (7, .int (nI mm))] [] w3 := by
          intro i
          induction i with
          | zero =>
            intro mm hmm
            have hmm2 : mm = gs_rtm (gs_led (gs_rch S T cnt fr) goal en) en fr n := by omega
            obtain ⟨bb, hb1, hb2⟩ := gs_atO_iff.mp q2
            have hb64 := gm_mv_lt hc64 hb1
            have hnb : bb = gs_rtc (gs_led (gs_rch S T cnt fr) goal en) en fr (n + 1) := Option.some.inj (hb1.symm.trans hmv)
            rw [← hmm2] at hb1
            refine gd_r E K 2 (pc' := 220) (lv' := [(0, .ref 27), (1, .int (nI d)), (2, .int (nI goal)), (3, .int 0), (4, .int (nI en)), (5, .int (nI (gs_rtc (gs_led (gs_rch S T cnt fr) goal en) en fr n))), (6, .int (nI n)), (7, .int (nI mm))]) (st' := [.int (nI mm), .int (nI (gs_rtc (gs_led (gs_rch S T cnt fr) goal en) en fr n))]) (w' := w3) rfl ?_
            refine gd_cS E hA (av := [.int (nI (gs_rtc (gs_led (gs_rch S T cnt fr) goal en) en fr n)), .int (nI mm)]) (rest := []) (c2_moved hinj _ mm hc64 (by omega) w3) (K.1 220 (.invokestatic 82, 0) rfl).1 ml_M_82 cv_M_moved ⟨Nat.le_of_ble_eq_true rfl, Nat.le_of_ble_eq_true rfl⟩ ⟨Nat.zero_le _, Nat.zero_le _⟩ rfl (Nat.le_of_ble_eq_true rfl) ?_
            rw [hb1]
            refine gd_r E K 1 (pc' := if (gm_nO (some bb)) < 0 then 249 else 226) (lv' := [(0, .ref 27), (1, .int (nI d)), (2, .int (nI goal)), (3, .int 0), (4, .int (nI en)), (5, .int (nI (gs_rtc (gs_led (gs_rch S T cnt fr) goal en) en fr n))), (6, .int (nI n)), (7, .int (nI mm))]) (st' := []) (w' := w3) rfl ?_
            refine gd_if (gm_nO_some (by omega)) ?_
            refine gd_r E K 9 (pc' := 241) (lv' := [(0, .ref 27), (1, .int (nI d)), (2, .int (nI goal)), (3, .int 0), (4, .int (nI en)), (5, .int (nI (gs_rtc (gs_led (gs_rch S T cnt fr) goal en) en fr n))), (6, .int (nI n)), (7, .int (nI mm))]) (st' := [.int (nI mm), .int (nI (gs_rtc (gs_led (gs_rch S T cnt fr) goal en) en fr n)), .int (64 * ((nI n) + 1)), .ref 43]) (w' := w3) rfl ?_
            refine gd_cS E hA (av := [.int (nI (gs_rtc (gs_led (gs_rch S T cnt fr) goal en) en fr n)), .int (nI mm)]) (rest := [.int (64 * ((nI n) + 1)), .ref 43]) (c2_moved hinj _ mm hc64 (by omega) w3) (K.1 241 (.invokestatic 82, 0) rfl).1 ml_M_82 cv_M_moved ⟨Nat.le_of_ble_eq_true rfl, Nat.le_of_ble_eq_true rfl⟩ ⟨Nat.zero_le _, Nat.zero_le _⟩ rfl (Nat.le_of_ble_eq_true rfl) ?_
            rw [hb1]
            refine gd_r E K 1 (pc' := 245) (lv' := [(0, .ref 27), (1, .int (nI d)), (2, .int (nI goal)), (3, .int 0), (4, .int (nI en)), (5, .int (nI (gs_rtc (gs_led (gs_rch S T cnt fr) goal en) en fr n))), (6, .int (nI n)), (7, .int (nI mm))]) (st' := [.int ((64 * ((nI n) + 1)) + (gm_nO (some bb))), .ref 43]) (w' := w3) rfl ?_
            refine gd_zaldv E (K.1 245 (.baload, 0) rfl).1 (j := 64 * (n + 1) + bb) (by decide) (rfl) (by rw [show (64 : Int32) = nI 64 from rfl, nI_1, pk_mul, gm_nO, nI_add]) (by omega) (by decide) (v := gs_b true) (by rw [hrow bb hb64, hb2]) ?_
            refine gd_r E K 1 (pc' := if (gs_b true) = 0 then 249 else 258) (lv' := [(0, .ref 27), (1, .int (nI d)), (2, .int (nI goal)), (3, .int 0), (4, .int (nI en)), (5, .int (nI (gs_rtc (gs_led (gs_rch S T cnt fr) goal en) en fr n))), (6, .int (nI n)), (7, .int (nI mm))]) (st' := []) (w' := w3) rfl ?_
            refine gd_if (by decide) ?_
            refine gd_r E K 8 (pc' := 271) (lv' := [(0, .ref 27), (1, .int (nI d)), (2, .int (nI goal)), (3, .int 0), (4, .int (nI en)), (5, .int (nI (gs_rtc (gs_led (gs_rch S T cnt fr) goal en) en fr n))), (6, .int (nI n)), (7, .int (nI mm))]) (st' := [.int (nI mm), .int ((60 * (nI d)) + (nI n)), .ref 33]) (w' := w3) rfl ?_
            refine gd_iast E (K.1 271 (.iastore, 0) rfl).1 (j := 60 * d + n) (by decide) (rfl) (by rw [show (60 : Int32) = nI 60 from rfl, pk_mul, nI_add]) (by omega) (by decide) ?_
            refine gd_r E K 2 (pc' := 276) (lv' := [(0, .ref 27), (1, .int (nI d)), (2, .int (nI goal)), (3, .int 0), (4, .int (nI en)), (5, .int (nI (gs_rtc (gs_led (gs_rch S T cnt fr) goal en) en fr n))), (6, .int (nI n)), (7, .int (nI mm))]) (st' := [.int (nI mm), .int (nI (gs_rtc (gs_led (gs_rch S T cnt fr) goal en) en fr n))]) (w' := gd_rI w3 33 (upd (w3.1 33) (60 * d + n) (nI mm))) rfl ?_
            refine gd_cS E hA (av := [.int (nI (gs_rtc (gs_led (gs_rch S T cnt fr) goal en) en fr n)), .int (nI mm)]) (rest := []) (c2_moved hinj _ mm hc64 (by omega) _) (K.1 276 (.invokestatic 82, 0) rfl).1 ml_M_82 cv_M_moved ⟨Nat.le_of_ble_eq_true rfl, Nat.le_of_ble_eq_true rfl⟩ ⟨Nat.zero_le _, Nat.zero_le _⟩ rfl (Nat.le_of_ble_eq_true rfl) ?_
            rw [hb1]
            refine gd_r E K 3 (pc' := 206) (lv' := [(0, .ref 27), (1, .int (nI d)), (2, .int (nI goal)), (3, .int 0), (4, .int (nI en)), (5, .int (gm_nO (some bb))), (6, .int ((nI n) + 1)), (7, .int (nI mm))]) (st' := []) (w' := gd_rI w3 33 (upd (w3.1 33) (60 * d + n) (nI mm))) rfl ?_
            refine gd_lvp [0, 1, 2, 3, 4, 5, 6] (lv' := [(0, .ref 27), (1, .int (nI d)), (2, .int (nI goal)), (3, .int 0), (4, .int (nI en)), (5, .int (gm_nO (some bb))), (6, .int ((nI n) + 1))]) rfl ?_
            exact gd_cg (ih (n + 1) _ (by omega) (gs_lr_step hlr (by omega))) (by rw [nI_1, hnb]; rfl) rfl (by rw [hmm2])
          | succ i ih3 =>
            intro mm hmm
            have hno := q3 mm (by omega)
            refine gd_r E K 2 (pc' := 220) (lv' := [(0, .ref 27), (1, .int (nI d)), (2, .int (nI goal)), (3, .int 0), (4, .int (nI en)), (5, .int (nI (gs_rtc (gs_led (gs_rch S T cnt fr) goal en) en fr n))), (6, .int (nI n)), (7, .int (nI mm))]) (st' := [.int (nI mm), .int (nI (gs_rtc (gs_led (gs_rch S T cnt fr) goal en) en fr n))]) (w' := w3) rfl ?_
            refine gd_cS E hA (av := [.int (nI (gs_rtc (gs_led (gs_rch S T cnt fr) goal en) en fr n)), .int (nI mm)]) (rest := []) (c2_moved hinj _ mm hc64 (by omega) w3) (K.1 220 (.invokestatic 82, 0) rfl).1 ml_M_82 cv_M_moved ⟨Nat.le_of_ble_eq_true rfl, Nat.le_of_ble_eq_true rfl⟩ ⟨Nat.zero_le _, Nat.zero_le _⟩ rfl (Nat.le_of_ble_eq_true rfl) ?_
            cases hb1 : gm_mv (gs_rtc (gs_led (gs_rch S T cnt fr) goal en) en fr n) mm with
            | none =>
              refine gd_r E K 1 (pc' := if (gm_nO (none)) < 0 then 249 else 226) (lv' := [(0, .ref 27), (1, .int (nI d)), (2, .int (nI goal)), (3, .int 0), (4, .int (nI en)), (5, .int (nI (gs_rtc (gs_led (gs_rch S T cnt fr) goal en) en fr n))), (6, .int (nI n)), (7, .int (nI mm))]) (st' := []) (w' := w3) rfl ?_
              refine gd_it (by decide) ?_
              refine gd_r E K 5 (pc' := 216) (lv' := [(0, .ref 27), (1, .int (nI d)), (2, .int (nI goal)), (3, .int 0), (4, .int (nI en)), (5, .int (nI (gs_rtc (gs_led (gs_rch S T cnt fr) goal en) en fr n))), (6, .int (nI n)), (7, .int ((nI mm) + 1))]) (st' := []) (w' := w3) rfl ?_
              exact gd_cg (ih3 (mm + 1) (by omega)) (by rw [nI_1]) rfl rfl
            | some bb =>
              have hb64 := gm_mv_lt hc64 hb1
              have hf0 : gs_led (gs_rch S T cnt fr) goal en (en - (n + 1)) bb = false := by
                have := hno
                rw [hb1] at this
                exact this
              refine gd_r E K 1 (pc' := if (gm_nO (some bb)) < 0 then 249 else 226) (lv' := [(0, .ref 27), (1, .int (nI d)), (2, .int (nI goal)), (3, .int 0), (4, .int (nI en)), (5, .int (nI (gs_rtc (gs_led (gs_rch S T cnt fr) goal en) en fr n))), (6, .int (nI n)), (7, .int (nI mm))]) (st' := []) (w' := w3) rfl ?_
              refine gd_if (gm_nO_some (by omega)) ?_
              refine gd_r E K 9 (pc' := 241) (lv' := [(0, .ref 27), (1, .int (nI d)), (2, .int (nI goal)), (3, .int 0), (4, .int (nI en)), (5, .int (nI (gs_rtc (gs_led (gs_rch S T cnt fr) goal en) en fr n))), (6, .int (nI n)), (7, .int (nI mm))]) (st' := [.int (nI mm), .int (nI (gs_rtc (gs_led (gs_rch S T cnt fr) goal en) en fr n)), .int (64 * ((nI n) + 1)), .ref 43]) (w' := w3) rfl ?_
              refine gd_cS E hA (av := [.int (nI (gs_rtc (gs_led (gs_rch S T cnt fr) goal en) en fr n)), .int (nI mm)]) (rest := [.int (64 * ((nI n) + 1)), .ref 43]) (c2_moved hinj _ mm hc64 (by omega) w3) (K.1 241 (.invokestatic 82, 0) rfl).1 ml_M_82 cv_M_moved ⟨Nat.le_of_ble_eq_true rfl, Nat.le_of_ble_eq_true rfl⟩ ⟨Nat.zero_le _, Nat.zero_le _⟩ rfl (Nat.le_of_ble_eq_true rfl) ?_
              rw [hb1]
              refine gd_r E K 1 (pc' := 245) (lv' := [(0, .ref 27), (1, .int (nI d)), (2, .int (nI goal)), (3, .int 0), (4, .int (nI en)), (5, .int (nI (gs_rtc (gs_led (gs_rch S T cnt fr) goal en) en fr n))), (6, .int (nI n)), (7, .int (nI mm))]) (st' := [.int ((64 * ((nI n) + 1)) + (gm_nO (some bb))), .ref 43]) (w' := w3) rfl ?_
              refine gd_zaldv E (K.1 245 (.baload, 0) rfl).1 (j := 64 * (n + 1) + bb) (by decide) (rfl) (by rw [show (64 : Int32) = nI 64 from rfl, nI_1, pk_mul, gm_nO, nI_add]) (by omega) (by decide) (v := gs_b false) (by rw [hrow bb hb64, hf0]) ?_
              refine gd_r E K 1 (pc' := if (gs_b false) = 0 then 249 else 258) (lv' := [(0, .ref 27), (1, .int (nI d)), (2, .int (nI goal)), (3, .int 0), (4, .int (nI en)), (5, .int (nI (gs_rtc (gs_led (gs_rch S T cnt fr) goal en) en fr n))), (6, .int (nI n)), (7, .int (nI mm))]) (st' := []) (w' := w3) rfl ?_
              refine gd_it (by decide) ?_
              refine gd_r E K 5 (pc' := 216) (lv' := [(0, .ref 27), (1, .int (nI d)), (2, .int (nI goal)), (3, .int 0), (4, .int (nI en)), (5, .int (nI (gs_rtc (gs_led (gs_rch S T cnt fr) goal en) en fr n))), (6, .int (nI n)), (7, .int ((nI mm) + 1))]) (st' := []) (w' := w3) rfl ?_
              exact gd_cg (ih3 (mm + 1) (by omega)) (by rw [nI_1]) rfl rfl
        exact gd_cg (pick (gs_rtm (gs_led (gs_rch S T cnt fr) goal en) en fr n) 0 (by omega)) rfl rfl rfl
    have back : ∀ n w2, n ≤ en → gs_li (gs_led (gs_rch S T cnt fr) goal en) en w1 w2 n → gd_G p l e (gd_rm 5 120) s m args below meth c D tC ad (gd_A ad 45 s.heap.size) 45 10 0 0 (MQ below (gd_Qp D tC ad 45 s.heap.size (fun r w' => r = some (.int (gm_nO (gs_way S T cnt fr goal false))) ∧ (gs_way S T cnt fr goal false = none → gf_r 42 w w') ∧ ∀ en, gs_way S T cnt fr goal false = some en → gs_laid w w' d en (gs_rtm (gs_led (gs_rch S T cnt fr) goal en) en fr))) args s 0 0 (gd_A ad 45 s.heap.size)) 67 [(0, .ref 27), (1, .int (nI d)), (2, .int (nI goal)), (3, .int 0), (4, .int (nI en)), (5, .int (gs_pr n))] [] w2 := by
      intro n
      induction n with
      | zero =>
        intro w2 hn hli
        refine gd_cg (lv' := [(0, .ref 27), (1, .int (nI d)), (2, .int (nI goal)), (3, .int 0), (4, .int (nI en)), (5, .int (-1))]) (st' := []) (w' := w2) ?_ rfl rfl rfl
        refine gd_r E K 1 (pc' := 69) (lv' := [(0, .ref 27), (1, .int (nI d)), (2, .int (nI goal)), (3, .int 0), (4, .int (nI en)), (5, .int (-1))]) (st' := [.int (-1)]) (w' := w2) rfl ?_
        refine gd_r E K 1 (pc' := if (-1) < 0 then 195 else 72) (lv' := [(0, .ref 27), (1, .int (nI d)), (2, .int (nI goal)), (3, .int 0), (4, .int (nI en)), (5, .int (-1))]) (st' := []) (w' := w2) rfl ?_
        refine gd_it (by decide) ?_
        refine gd_r E K 3 (pc' := 200) (lv' := [(0, .ref 27), (1, .int (nI d)), (2, .int (nI goal)), (3, .int 0), (4, .int (nI en)), (5, .int (-1))]) (st' := [.int (nI d), .ref 30]) (w' := w2) rfl ?_
        refine gd_ialdv E (K.1 200 (.iaload, 0) rfl).1 (j := d) (by decide) (rfl) (rfl) (hd) (by decide) (v := nI fr) (by rw [hli.1.1 30 (by decide), hf1.1 30 (by decide)]; exact hcd) ?_
        refine gd_r E K 3 (pc' := 206) (lv' := [(0, .ref 27), (1, .int (nI d)), (2, .int (nI goal)), (3, .int 0), (4, .int (nI en)), (5, .int (nI fr)), (6, .int 0)]) (st' := []) (w' := w2) rfl ?_
        exact gd_cg (route w2 hli en 0 w2 (by omega) ⟨gf_r.refl _ _, fun i hi => by omega, fun _ _ => rfl⟩) rfl rfl rfl
      | succ n ih =>
        intro w2 hn hli
        refine gd_cg (lv' := [(0, .ref 27), (1, .int (nI d)), (2, .int (nI goal)), (3, .int 0), (4, .int (nI en)), (5, .int (nI n))]) (st' := []) (w' := w2) ?_ rfl rfl rfl
        refine gd_r E K 1 (pc' := 69) (lv' := [(0, .ref 27), (1, .int (nI d)), (2, .int (nI goal)), (3, .int 0), (4, .int (nI en)), (5, .int (nI n))]) (st' := [.int (nI n)]) (w' := w2) rfl ?_
        refine gd_r E K 1 (pc' := if (nI n) < 0 then 195 else 72) (lv' := [(0, .ref 27), (1, .int (nI d)), (2, .int (nI goal)), (3, .int 0), (4, .int (nI en)), (5, .int (nI n))]) (st' := []) (w' := w2) rfl ?_
        refine gd_if (nI_pos (by omega)) ?_
        refine gd_r E K 2 (pc' := 75) (lv' := [(0, .ref 27), (1, .int (nI d)), (2, .int (nI goal)), (3, .int 0), (4, .int (nI en)), (5, .int (nI n)), (6, .int 0)]) (st' := []) (w' := w2) rfl ?_
        have cells : ∀ i c0 w3, c0 + i = 64 → gs_lj (gs_led (gs_rch S T cnt fr) goal en) en w1 w3 n c0 → gd_G p l e (gd_rm 5 120) s m args below meth c D tC ad (gd_A ad 45 s.heap.size) 45 10 0 0 (MQ below (gd_Qp D tC ad 45 s.heap.size (fun r w' => r = some (.int (gm_nO (gs_way S T cnt fr goal false))) ∧ (gs_way S T cnt fr goal false = none → gf_r 42 w w') ∧ ∀ en, gs_way S T cnt fr goal false = some en → gs_laid w w' d en (gs_rtm (gs_led (gs_rch S T cnt fr) goal en) en fr))) args s 0 0 (gd_A ad 45 s.heap.size)) 75 [(0, .ref 27), (1, .int (nI d)), (2, .int (nI goal)), (3, .int 0), (4, .int (nI en)), (5, .int (nI n)), (6, .int (nI c0))] [] w3 := by
          intro i
          induction i with
          | zero =>
            intro c0 w3 hc hj
            refine gd_r E K 2 (pc' := 79) (lv' := [(0, .ref 27), (1, .int (nI d)), (2, .int (nI goal)), (3, .int 0), (4, .int (nI en)), (5, .int (nI n)), (6, .int (nI c0))]) (st' := [.int 64, .int (nI c0)]) (w' := w3) rfl ?_
            refine gd_r E K 1 (pc' := if 64 ≤ (nI c0) then 189 else 82) (lv' := [(0, .ref 27), (1, .int (nI d)), (2, .int (nI goal)), (3, .int 0), (4, .int (nI en)), (5, .int (nI n)), (6, .int (nI c0))]) (st' := []) (w' := w3) rfl ?_
            refine gd_it (nI_le (show 64 ≤ c0 by omega) (by omega)) ?_
            refine gd_r E K 2 (pc' := 67) (lv' := [(0, .ref 27), (1, .int (nI d)), (2, .int (nI goal)), (3, .int 0), (4, .int (nI en)), (5, .int ((nI n) + (-1))), (6, .int (nI c0))]) (st' := []) (w' := w3) rfl ?_
            refine gd_lvp [0, 1, 2, 3, 4, 5] (lv' := [(0, .ref 27), (1, .int (nI d)), (2, .int (nI goal)), (3, .int 0), (4, .int (nI en)), (5, .int ((nI n) + (-1)))]) rfl ?_
            exact gd_cg (ih w3 (by omega) (gs_lj_end (by rw [show (64 : Nat) = c0 by omega]; exact hj))) (by rw [gs_pr_add]) rfl rfl
          | succ i ih2 =>
            intro c0 w3 hc hj
            refine gd_r E K 2 (pc' := 79) (lv' := [(0, .ref 27), (1, .int (nI d)), (2, .int (nI goal)), (3, .int 0), (4, .int (nI en)), (5, .int (nI n)), (6, .int (nI c0))]) (st' := [.int 64, .int (nI c0)]) (w' := w3) rfl ?_
            refine gd_r E K 1 (pc' := if 64 ≤ (nI c0) then 189 else 82) (lv' := [(0, .ref 27), (1, .int (nI d)), (2, .int (nI goal)), (3, .int 0), (4, .int (nI en)), (5, .int (nI n)), (6, .int (nI c0))]) (st' := []) (w' := w3) rfl ?_
            refine gd_if (nI_ge (show c0 < 64 by omega) (by decide)) ?_
            refine gd_r E K 4 (pc' := 88) (lv' := [(0, .ref 27), (1, .int (nI d)), (2, .int (nI goal)), (3, .int 0), (4, .int (nI en)), (5, .int (nI n)), (6, .int (nI c0)), (7, .int 0), (8, .int 0)]) (st' := []) (w' := w3) rfl ?_
            have hL : gs_led (gs_rch S T cnt fr) goal en (en - n) c0 = (gs_any (fun m => gs_atO (gs_led (gs_rch S T cnt fr) goal en (en - (n + 1))) (gm_mv c0 m)) 5 && gs_rch S T cnt fr n c0) := by
              rw [show en - n = (en - (n + 1)) + 1 by omega, gs_led, show en - (en - (n + 1) + 1) = n by omega]
            have moves : ∀ i2 mm, mm + i2 = 5 → gd_G p l e (gd_rm 5 120) s m args below meth c D tC ad (gd_A ad 45 s.heap.size) 45 10 0 0 (MQ below (gd_Qp D tC ad 45 s.heap.size (fun r w' => r = some (.int (gm_nO (gs_way S T cnt fr goal false))) ∧ (gs_way S T cnt fr goal false = none → gf_r 42 w w') ∧ ∀ en, gs_way S T cnt fr goal false = some en → gs_laid w w' d en (gs_rtm (gs_led (gs_rch S T cnt fr) goal en) en fr))) args s 0 0 (gd_A ad 45 s.heap.size)) 88 [(0, .ref 27), (1, .int (nI d)), (2, .int (nI goal)), (3, .int 0), (4, .int (nI en)), (5, .int (nI n)), (6, .int (nI c0)), (7, .int (gs_b (gs_any (fun m => gs_atO (gs_led (gs_rch S T cnt fr) goal en (en - (n + 1))) (gm_mv c0 m)) mm))), (8, .int (nI mm))] [] w3 := by
              intro i2
              induction i2 with
              | zero =>
                intro mm hmm
                refine gd_r E K 2 (pc' := 91) (lv' := [(0, .ref 27), (1, .int (nI d)), (2, .int (nI goal)), (3, .int 0), (4, .int (nI en)), (5, .int (nI n)), (6, .int (nI c0)), (7, .int (gs_b (gs_any (fun m => gs_atO (gs_led (gs_rch S T cnt fr) goal en (en - (n + 1))) (gm_mv c0 m)) mm))), (8, .int (nI mm))]) (st' := [.int 5, .int (nI mm)]) (w' := w3) rfl ?_
                refine gd_r E K 1 (pc' := if 5 ≤ (nI mm) then 144 else 94) (lv' := [(0, .ref 27), (1, .int (nI d)), (2, .int (nI goal)), (3, .int 0), (4, .int (nI en)), (5, .int (nI n)), (6, .int (nI c0)), (7, .int (gs_b (gs_any (fun m => gs_atO (gs_led (gs_rch S T cnt fr) goal en (en - (n + 1))) (gm_mv c0 m)) mm))), (8, .int (nI mm))]) (st' := []) (w' := w3) rfl ?_
                refine gd_it (nI_le (show 5 ≤ mm by omega) (by omega)) ?_
                refine gd_r E K 8 (pc' := 158) (lv' := [(0, .ref 27), (1, .int (nI d)), (2, .int (nI goal)), (3, .int 0), (4, .int (nI en)), (5, .int (nI n)), (6, .int (nI c0)), (7, .int (gs_b (gs_any (fun m => gs_atO (gs_led (gs_rch S T cnt fr) goal en (en - (n + 1))) (gm_mv c0 m)) mm))), (8, .int (nI mm))]) (st' := [.int (gs_b (gs_any (fun m => gs_atO (gs_led (gs_rch S T cnt fr) goal en (en - (n + 1))) (gm_mv c0 m)) mm)), .int ((64 * (nI n)) + (nI c0)), .ref 43]) (w' := w3) rfl ?_
                have hm5 : gs_any (fun m => gs_atO (gs_led (gs_rch S T cnt fr) goal en (en - (n + 1))) (gm_mv c0 m)) mm = gs_any (fun m => gs_atO (gs_led (gs_rch S T cnt fr) goal en (en - (n + 1))) (gm_mv c0 m)) 5 := by rw [show mm = 5 by omega]
                cases hb : gs_any (fun m => gs_atO (gs_led (gs_rch S T cnt fr) goal en (en - (n + 1))) (gm_mv c0 m)) mm with
                | true =>
                  refine gd_r E K 1 (pc' := if (gs_b (true)) = 0 then 181 else 161) (lv' := [(0, .ref 27), (1, .int (nI d)), (2, .int (nI goal)), (3, .int 0), (4, .int (nI en)), (5, .int (nI n)), (6, .int (nI c0)), (7, .int (gs_b (true))), (8, .int (nI mm))]) (st' := [.int ((64 * (nI n)) + (nI c0)), .ref 43]) (w' := w3) rfl ?_
                  refine gd_if (by decide) ?_
                  refine gd_r E K 7 (pc' := 173) (lv' := [(0, .ref 27), (1, .int (nI d)), (2, .int (nI goal)), (3, .int 0), (4, .int (nI en)), (5, .int (nI n)), (6, .int (nI c0)), (7, .int (gs_b (true))), (8, .int (nI mm))]) (st' := [.int ((64 * (nI n)) + (nI c0)), .ref 42, .int ((64 * (nI n)) + (nI c0)), .ref 43]) (w' := w3) rfl ?_
                  refine gd_zaldv E (K.1 173 (.baload, 0) rfl).1 (j := 64 * n + c0) (by decide) (rfl) (by rw [show (64 : Int32) = nI 64 from rfl, pk_mul, nI_add]) (by omega) (by decide) (v := gs_b (gs_rch S T cnt fr n c0)) (by rw [hj.1.1.1 42 (by decide)]; exact hbl n (by omega) c0 (by omega)) ?_
                  cases hx : gs_rch S T cnt fr n c0 with
                  | true =>
                    refine gd_r E K 1 (pc' := if (gs_b (true)) = 0 then 181 else 177) (lv' := [(0, .ref 27), (1, .int (nI d)), (2, .int (nI goal)), (3, .int 0), (4, .int (nI en)), (5, .int (nI n)), (6, .int (nI c0)), (7, .int (gs_b (true))), (8, .int (nI mm))]) (st' := [.int ((64 * (nI n)) + (nI c0)), .ref 43]) (w' := w3) rfl ?_
                    refine gd_if (by decide) ?_
                    refine gd_r E K 2 (pc' := 182) (lv' := [(0, .ref 27), (1, .int (nI d)), (2, .int (nI goal)), (3, .int 0), (4, .int (nI en)), (5, .int (nI n)), (6, .int (nI c0)), (7, .int (gs_b (true))), (8, .int (nI mm))]) (st' := [.int 1, .int ((64 * (nI n)) + (nI c0)), .ref 43]) (w' := w3) rfl ?_
                    refine gd_zast E (K.1 182 (.bastore, 0) rfl).1 (j := 64 * n + c0) (by decide) (rfl) (by rw [show (64 : Int32) = nI 64 from rfl, pk_mul, nI_add]) (by omega) (by decide) (by decide) ?_
                    refine gd_r E K 2 (pc' := 75) (lv' := [(0, .ref 27), (1, .int (nI d)), (2, .int (nI goal)), (3, .int 0), (4, .int (nI en)), (5, .int (nI n)), (6, .int ((nI c0) + 1)), (7, .int (gs_b (true))), (8, .int (nI mm))]) (st' := []) (w' := gd_rI w3 43 (upd (w3.1 43) (64 * n + c0) 1)) rfl ?_
                    refine gd_lvp [0, 1, 2, 3, 4, 5, 6] (lv' := [(0, .ref 27), (1, .int (nI d)), (2, .int (nI goal)), (3, .int 0), (4, .int (nI en)), (5, .int (nI n)), (6, .int ((nI c0) + 1))]) rfl ?_
                    exact gd_cg (ih2 (c0 + 1) _ (by omega) (gs_lj_step hj (by omega) (by rw [hL, ← hm5, hb, hx]; rfl))) (by rw [nI_1]) rfl rfl
                  | false =>
                    refine gd_r E K 1 (pc' := if (gs_b (false)) = 0 then 181 else 177) (lv' := [(0, .ref 27), (1, .int (nI d)), (2, .int (nI goal)), (3, .int 0), (4, .int (nI en)), (5, .int (nI n)), (6, .int (nI c0)), (7, .int (gs_b (true))), (8, .int (nI mm))]) (st' := [.int ((64 * (nI n)) + (nI c0)), .ref 43]) (w' := w3) rfl ?_
                    refine gd_it (by decide) ?_
                    refine gd_r E K 1 (pc' := 182) (lv' := [(0, .ref 27), (1, .int (nI d)), (2, .int (nI goal)), (3, .int 0), (4, .int (nI en)), (5, .int (nI n)), (6, .int (nI c0)), (7, .int (gs_b (true))), (8, .int (nI mm))]) (st' := [.int 0, .int ((64 * (nI n)) + (nI c0)), .ref 43]) (w' := w3) rfl ?_
                    refine gd_zast E (K.1 182 (.bastore, 0) rfl).1 (j := 64 * n + c0) (by decide) (rfl) (by rw [show (64 : Int32) = nI 64 from rfl, pk_mul, nI_add]) (by omega) (by decide) (by decide) ?_
                    refine gd_r E K 2 (pc' := 75) (lv' := [(0, .ref 27), (1, .int (nI d)), (2, .int (nI goal)), (3, .int 0), (4, .int (nI en)), (5, .int (nI n)), (6, .int ((nI c0) + 1)), (7, .int (gs_b (true))), (8, .int (nI mm))]) (st' := []) (w' := gd_rI w3 43 (upd (w3.1 43) (64 * n + c0) 0)) rfl ?_
                    refine gd_lvp [0, 1, 2, 3, 4, 5, 6] (lv' := [(0, .ref 27), (1, .int (nI d)), (2, .int (nI goal)), (3, .int 0), (4, .int (nI en)), (5, .int (nI n)), (6, .int ((nI c0) + 1))]) rfl ?_
                    exact gd_cg (ih2 (c0 + 1) _ (by omega) (gs_lj_step hj (by omega) (by rw [hL, ← hm5, hb, hx]; rfl))) (by rw [nI_1]) rfl rfl
                | false =>
                  refine gd_r E K 1 (pc' := if (gs_b (false)) = 0 then 181 else 161) (lv' := [(0, .ref 27), (1, .int (nI d)), (2, .int (nI goal)), (3, .int 0), (4, .int (nI en)), (5, .int (nI n)), (6, .int (nI c0)), (7, .int (gs_b (false))), (8, .int (nI mm))]) (st' := [.int ((64 * (nI n)) + (nI c0)), .ref 43]) (w' := w3) rfl ?_
                  refine gd_it (by decide) ?_
                  refine gd_r E K 1 (pc' := 182) (lv' := [(0, .ref 27), (1, .int (nI d)), (2, .int (nI goal)), (3, .int 0), (4, .int (nI en)), (5, .int (nI n)), (6, .int (nI c0)), (7, .int (gs_b (false))), (8, .int (nI mm))]) (st' := [.int 0, .int ((64 * (nI n)) + (nI c0)), .ref 43]) (w' := w3) rfl ?_
                  refine gd_zast E (K.1 182 (.bastore, 0) rfl).1 (j := 64 * n + c0) (by decide) (rfl) (by rw [show (64 : Int32) = nI 64 from rfl, pk_mul, nI_add]) (by omega) (by decide) (by decide) ?_
                  refine gd_r E K 2 (pc' := 75) (lv' := [(0, .ref 27), (1, .int (nI d)), (2, .int (nI goal)), (3, .int 0), (4, .int (nI en)), (5, .int (nI n)), (6, .int ((nI c0) + 1)), (7, .int (gs_b (false))), (8, .int (nI mm))]) (st' := []) (w' := gd_rI w3 43 (upd (w3.1 43) (64 * n + c0) 0)) rfl ?_
                  refine gd_lvp [0, 1, 2, 3, 4, 5, 6] (lv' := [(0, .ref 27), (1, .int (nI d)), (2, .int (nI goal)), (3, .int 0), (4, .int (nI en)), (5, .int (nI n)), (6, .int ((nI c0) + 1))]) rfl ?_
                  exact gd_cg (ih2 (c0 + 1) _ (by omega) (gs_lj_step hj (by omega) (by rw [hL, ← hm5, hb, Bool.false_and]; rfl))) (by rw [nI_1]) rfl rfl
              | succ i2 ih3 =>
                intro mm hmm
                refine gd_r E K 2 (pc' := 91) (lv' := [(0, .ref 27), (1, .int (nI d)), (2, .int (nI goal)), (3, .int 0), (4, .int (nI en)), (5, .int (nI n)), (6, .int (nI c0)), (7, .int (gs_b (gs_any (fun m => gs_atO (gs_led (gs_rch S T cnt fr) goal en (en - (n + 1))) (gm_mv c0 m)) mm))), (8, .int (nI mm))]) (st' := [.int 5, .int (nI mm)]) (w' := w3) rfl ?_
                refine gd_r E K 1 (pc' := if 5 ≤ (nI mm) then 144 else 94) (lv' := [(0, .ref 27), (1, .int (nI d)), (2, .int (nI goal)), (3, .int 0), (4, .int (nI en)), (5, .int (nI n)), (6, .int (nI c0)), (7, .int (gs_b (gs_any (fun m => gs_atO (gs_led (gs_rch S T cnt fr) goal en (en - (n + 1))) (gm_mv c0 m)) mm))), (8, .int (nI mm))]) (st' := []) (w' := w3) rfl ?_
                refine gd_if (nI_ge (show mm < 5 by omega) (by decide)) ?_
                refine gd_r E K 2 (pc' := 98) (lv' := [(0, .ref 27), (1, .int (nI d)), (2, .int (nI goal)), (3, .int 0), (4, .int (nI en)), (5, .int (nI n)), (6, .int (nI c0)), (7, .int (gs_b (gs_any (fun m => gs_atO (gs_led (gs_rch S T cnt fr) goal en (en - (n + 1))) (gm_mv c0 m)) mm))), (8, .int (nI mm))]) (st' := [.int (nI mm), .int (nI c0)]) (w' := w3) rfl ?_
                refine gd_cS E hA (av := [.int (nI c0), .int (nI mm)]) (rest := []) (c2_moved hinj c0 mm (by omega) (by omega) w3) (K.1 98 (.invokestatic 82, 0) rfl).1 ml_M_82 cv_M_moved ⟨Nat.le_of_ble_eq_true rfl, Nat.le_of_ble_eq_true rfl⟩ ⟨Nat.zero_le _, Nat.zero_le _⟩ rfl (Nat.le_of_ble_eq_true rfl) ?_
                refine gd_r E K 2 (pc' := 105) (lv' := [(0, .ref 27), (1, .int (nI d)), (2, .int (nI goal)), (3, .int 0), (4, .int (nI en)), (5, .int (nI n)), (6, .int (nI c0)), (7, .int (gs_b (gs_any (fun m => gs_atO (gs_led (gs_rch S T cnt fr) goal en (en - (n + 1))) (gm_mv c0 m)) mm))), (8, .int (nI mm)), (9, .int (gm_nO (gm_mv c0 mm)))]) (st' := [.int (gs_b (gs_any (fun m => gs_atO (gs_led (gs_rch S T cnt fr) goal en (en - (n + 1))) (gm_mv c0 m)) mm))]) (w' := w3) rfl ?_
                cases hb : gs_any (fun m => gs_atO (gs_led (gs_rch S T cnt fr) goal en (en - (n + 1))) (gm_mv c0 m)) mm with
                | true =>
                  refine gd_r E K 1 (pc' := if (gs_b (true)) = 0 then 108 else 131) (lv' := [(0, .ref 27), (1, .int (nI d)), (2, .int (nI goal)), (3, .int 0), (4, .int (nI en)), (5, .int (nI n)), (6, .int (nI c0)), (7, .int (gs_b (true))), (8, .int (nI mm)), (9, .int (gm_nO (gm_mv c0 mm)))]) (st' := []) (w' := w3) rfl ?_
                  refine gd_if (by decide) ?_
                  refine gd_r E K 5 (pc' := 88) (lv' := [(0, .ref 27), (1, .int (nI d)), (2, .int (nI goal)), (3, .int 0), (4, .int (nI en)), (5, .int (nI n)), (6, .int (nI c0)), (7, .int 1), (8, .int ((nI mm) + 1)), (9, .int (gm_nO (gm_mv c0 mm)))]) (st' := []) (w' := w3) rfl ?_
                  refine gd_lvp [0, 1, 2, 3, 4, 5, 6, 7, 8] (lv' := [(0, .ref 27), (1, .int (nI d)), (2, .int (nI goal)), (3, .int 0), (4, .int (nI en)), (5, .int (nI n)), (6, .int (nI c0)), (7, .int 1), (8, .int ((nI mm) + 1))]) rfl ?_
                  exact gd_cg (ih3 (mm + 1) (by omega)) (by rw [gs_any_s, hb, Bool.true_or, nI_1]; rfl) rfl rfl
                | false =>
                  refine gd_r E K 1 (pc' := if (gs_b (false)) = 0 then 108 else 131) (lv' := [(0, .ref 27), (1, .int (nI d)), (2, .int (nI goal)), (3, .int 0), (4, .int (nI en)), (5, .int (nI n)), (6, .int (nI c0)), (7, .int (gs_b (false))), (8, .int (nI mm)), (9, .int (gm_nO (gm_mv c0 mm)))]) (st' := []) (w' := w3) rfl ?_
                  refine gd_it (by decide) ?_
                  refine gd_r E K 1 (pc' := 110) (lv' := [(0, .ref 27), (1, .int (nI d)), (2, .int (nI goal)), (3, .int 0), (4, .int (nI en)), (5, .int (nI n)), (6, .int (nI c0)), (7, .int (gs_b (false))), (8, .int (nI mm)), (9, .int (gm_nO (gm_mv c0 mm)))]) (st' := [.int (gm_nO (gm_mv c0 mm))]) (w' := w3) rfl ?_
                  cases ht : gm_mv c0 mm with
                  | none =>
                    refine gd_r E K 1 (pc' := if (gm_nO (none)) < 0 then 135 else 113) (lv' := [(0, .ref 27), (1, .int (nI d)), (2, .int (nI goal)), (3, .int 0), (4, .int (nI en)), (5, .int (nI n)), (6, .int (nI c0)), (7, .int (gs_b (false))), (8, .int (nI mm)), (9, .int (gm_nO (none)))]) (st' := []) (w' := w3) rfl ?_
                    refine gd_it (by decide) ?_
                    refine gd_r E K 4 (pc' := 88) (lv' := [(0, .ref 27), (1, .int (nI d)), (2, .int (nI goal)), (3, .int 0), (4, .int (nI en)), (5, .int (nI n)), (6, .int (nI c0)), (7, .int 0), (8, .int ((nI mm) + 1)), (9, .int (gm_nO (none)))]) (st' := []) (w' := w3) rfl ?_
                    refine gd_lvp [0, 1, 2, 3, 4, 5, 6, 7, 8] (lv' := [(0, .ref 27), (1, .int (nI d)), (2, .int (nI goal)), (3, .int 0), (4, .int (nI en)), (5, .int (nI n)), (6, .int (nI c0)), (7, .int 0), (8, .int ((nI mm) + 1))]) rfl ?_
                    exact gd_cg (ih3 (mm + 1) (by omega)) (by rw [gs_any_s, hb, ht, Bool.false_or, gs_atO, nI_1]; rfl) rfl rfl
                  | some bb =>
                    have hb64 := gm_mv_lt (by omega) ht
                    refine gd_r E K 1 (pc' := if (gm_nO (some bb)) < 0 then 135 else 113) (lv' := [(0, .ref 27), (1, .int (nI d)), (2, .int (nI goal)), (3, .int 0), (4, .int (nI en)), (5, .int (nI n)), (6, .int (nI c0)), (7, .int (gs_b (false))), (8, .int (nI mm)), (9, .int (gm_nO (some bb)))]) (st' := []) (w' := w3) rfl ?_
                    refine gd_if (gm_nO_some (by omega)) ?_
                    refine gd_r E K 9 (pc' := 127) (lv' := [(0, .ref 27), (1, .int (nI d)), (2, .int (nI goal)), (3, .int 0), (4, .int (nI en)), (5, .int (nI n)), (6, .int (nI c0)), (7, .int (gs_b (false))), (8, .int (nI mm)), (9, .int (gm_nO (some bb)))]) (st' := [.int ((64 * ((nI n) + 1)) + (gm_nO (some bb))), .ref 43]) (w' := w3) rfl ?_
                    refine gd_zaldv E (K.1 127 (.baload, 0) rfl).1 (j := 64 * (n + 1) + bb) (by decide) (rfl) (by rw [show (64 : Int32) = nI 64 from rfl, nI_1, pk_mul, gm_nO, nI_add]) (by omega) (by decide) (v := gs_b (gs_led (gs_rch S T cnt fr) goal en (en - (n + 1)) bb)) (hj.1.2 (n + 1) (by omega) (by omega) bb hb64) ?_
                    cases hx : gs_led (gs_rch S T cnt fr) goal en (en - (n + 1)) bb with
                    | true =>
                      refine gd_r E K 1 (pc' := if (gs_b (true)) = 0 then 135 else 131) (lv' := [(0, .ref 27), (1, .int (nI d)), (2, .int (nI goal)), (3, .int 0), (4, .int (nI en)), (5, .int (nI n)), (6, .int (nI c0)), (7, .int (gs_b (false))), (8, .int (nI mm)), (9, .int (gm_nO (some bb)))]) (st' := []) (w' := w3) rfl ?_
                      refine gd_if (by decide) ?_
                      refine gd_r E K 5 (pc' := 88) (lv' := [(0, .ref 27), (1, .int (nI d)), (2, .int (nI goal)), (3, .int 0), (4, .int (nI en)), (5, .int (nI n)), (6, .int (nI c0)), (7, .int 1), (8, .int ((nI mm) + 1)), (9, .int (gm_nO (some bb)))]) (st' := []) (w' := w3) rfl ?_
                      refine gd_lvp [0, 1, 2, 3, 4, 5, 6, 7, 8] (lv' := [(0, .ref 27), (1, .int (nI d)), (2, .int (nI goal)), (3, .int 0), (4, .int (nI en)), (5, .int (nI n)), (6, .int (nI c0)), (7, .int 1), (8, .int ((nI mm) + 1))]) rfl ?_
                      exact gd_cg (ih3 (mm + 1) (by omega)) (by rw [gs_any_s, hb, ht, Bool.false_or, gs_atO, hx, nI_1]; rfl) rfl rfl
                    | false =>
                      refine gd_r E K 1 (pc' := if (gs_b (false)) = 0 then 135 else 131) (lv' := [(0, .ref 27), (1, .int (nI d)), (2, .int (nI goal)), (3, .int 0), (4, .int (nI en)), (5, .int (nI n)), (6, .int (nI c0)), (7, .int (gs_b (false))), (8, .int (nI mm)), (9, .int (gm_nO (some bb)))]) (st' := []) (w' := w3) rfl ?_
                      refine gd_it (by decide) ?_
                      refine gd_r E K 4 (pc' := 88) (lv' := [(0, .ref 27), (1, .int (nI d)), (2, .int (nI goal)), (3, .int 0), (4, .int (nI en)), (5, .int (nI n)), (6, .int (nI c0)), (7, .int 0), (8, .int ((nI mm) + 1)), (9, .int (gm_nO (some bb)))]) (st' := []) (w' := w3) rfl ?_
                      refine gd_lvp [0, 1, 2, 3, 4, 5, 6, 7, 8] (lv' := [(0, .ref 27), (1, .int (nI d)), (2, .int (nI goal)), (3, .int 0), (4, .int (nI en)), (5, .int (nI n)), (6, .int (nI c0)), (7, .int 0), (8, .int ((nI mm) + 1))]) rfl ?_
                      exact gd_cg (ih3 (mm + 1) (by omega)) (by rw [gs_any_s, hb, ht, Bool.false_or, gs_atO, hx, nI_1]; rfl) rfl rfl
            exact gd_cg (moves 5 0 (by omega)) rfl rfl rfl
        exact gd_cg (cells 64 0 w2 (by omega) ⟨hli, fun c hc => by omega⟩) rfl rfl rfl
    have goalrow : ∀ i c0 w2, c0 + i = 64 → gs_lj (gs_led (gs_rch S T cnt fr) goal en) en w1 w2 en c0 → gd_G p l e (gd_rm 5 120) s m args below meth c D tC ad (gd_A ad 45 s.heap.size) 45 10 0 0 (MQ below (gd_Qp D tC ad 45 s.heap.size (fun r w' => r = some (.int (gm_nO (gs_way S T cnt fr goal false))) ∧ (gs_way S T cnt fr goal false = none → gf_r 42 w w') ∧ ∀ en, gs_way S T cnt fr goal false = some en → gs_laid w w' d en (gs_rtm (gs_led (gs_rch S T cnt fr) goal en) en fr))) args s 0 0 (gd_A ad 45 s.heap.size)) 24 [(0, .ref 27), (1, .int (nI d)), (2, .int (nI goal)), (3, .int 0), (4, .int (nI en)), (5, .int (nI c0))] [] w2 := by
      intro i
      induction i with
      | zero =>
        intro c0 w2 hc hj
        refine gd_r E K 2 (pc' := 28) (lv' := [(0, .ref 27), (1, .int (nI d)), (2, .int (nI goal)), (3, .int 0), (4, .int (nI en)), (5, .int (nI c0))]) (st' := [.int 64, .int (nI c0)]) (w' := w2) rfl ?_
        refine gd_r E K 1 (pc' := if 64 ≤ (nI c0) then 61 else 31) (lv' := [(0, .ref 27), (1, .int (nI d)), (2, .int (nI goal)), (3, .int 0), (4, .int (nI en)), (5, .int (nI c0))]) (st' := []) (w' := w2) rfl ?_
        refine gd_it (nI_le (show 64 ≤ c0 by omega) (by omega)) ?_
        refine gd_r E K 4 (pc' := 67) (lv' := [(0, .ref 27), (1, .int (nI d)), (2, .int (nI goal)), (3, .int 0), (4, .int (nI en)), (5, .int ((nI en) - 1))]) (st' := []) (w' := w2) rfl ?_
        exact gd_cg (back en w2 (by omega) (gs_lj_end (by rw [show (64 : Nat) = c0 by omega]; exact hj))) (by rw [gs_pr_sub]) rfl rfl
      | succ i ih =>
        intro c0 w2 hc hj
        refine gd_r E K 2 (pc' := 28) (lv' := [(0, .ref 27), (1, .int (nI d)), (2, .int (nI goal)), (3, .int 0), (4, .int (nI en)), (5, .int (nI c0))]) (st' := [.int 64, .int (nI c0)]) (w' := w2) rfl ?_
        refine gd_r E K 1 (pc' := if 64 ≤ (nI c0) then 61 else 31) (lv' := [(0, .ref 27), (1, .int (nI d)), (2, .int (nI goal)), (3, .int 0), (4, .int (nI en)), (5, .int (nI c0))]) (st' := []) (w' := w2) rfl ?_
        refine gd_if (nI_ge (show c0 < 64 by omega) (by decide)) ?_
        refine gd_r E K 9 (pc' := 46) (lv' := [(0, .ref 27), (1, .int (nI d)), (2, .int (nI goal)), (3, .int 0), (4, .int (nI en)), (5, .int (nI c0))]) (st' := [.int (nI goal), .int (nI c0), .int ((64 * (nI en)) + (nI c0)), .ref 43]) (w' := w2) rfl ?_
        by_cases hcg : c0 = goal
        · refine gd_r E K 1 (pc' := if (nI c0) = (nI goal) then 49 else 53) (lv' := [(0, .ref 27), (1, .int (nI d)), (2, .int (nI goal)), (3, .int 0), (4, .int (nI en)), (5, .int (nI c0))]) (st' := [.int ((64 * (nI en)) + (nI c0)), .ref 43]) (w' := w2) rfl ?_
          refine gd_it (by rw [hcg]) ?_
          refine gd_r E K 2 (pc' := 54) (lv' := [(0, .ref 27), (1, .int (nI d)), (2, .int (nI goal)), (3, .int 0), (4, .int (nI en)), (5, .int (nI c0))]) (st' := [.int 1, .int ((64 * (nI en)) + (nI c0)), .ref 43]) (w' := w2) rfl ?_
          refine gd_zast E (K.1 54 (.bastore, 0) rfl).1 (j := 64 * en + c0) (by decide) (rfl) (by rw [show (64 : Int32) = nI 64 from rfl, pk_mul, nI_add]) (by omega) (by decide) (by decide) ?_
          refine gd_r E K 2 (pc' := 24) (lv' := [(0, .ref 27), (1, .int (nI d)), (2, .int (nI goal)), (3, .int 0), (4, .int (nI en)), (5, .int ((nI c0) + 1))]) (st' := []) (w' := gd_rI w2 43 (upd (w2.1 43) (64 * en + c0) 1)) rfl ?_
          exact gd_cg (ih (c0 + 1) _ (by omega) (gs_lj_step hj (by omega) (by rw [Nat.sub_self, gs_led, decide_eq_true hcg]; rfl))) (by rw [nI_1]) rfl rfl
        · refine gd_r E K 1 (pc' := if (nI c0) = (nI goal) then 49 else 53) (lv' := [(0, .ref 27), (1, .int (nI d)), (2, .int (nI goal)), (3, .int 0), (4, .int (nI en)), (5, .int (nI c0))]) (st' := [.int ((64 * (nI en)) + (nI c0)), .ref 43]) (w' := w2) rfl ?_
          refine gd_if (by rw [nI_eq (by omega) (by omega)]; exact hcg) ?_
          refine gd_r E K 1 (pc' := 54) (lv' := [(0, .ref 27), (1, .int (nI d)), (2, .int (nI goal)), (3, .int 0), (4, .int (nI en)), (5, .int (nI c0))]) (st' := [.int 0, .int ((64 * (nI en)) + (nI c0)), .ref 43]) (w' := w2) rfl ?_
          refine gd_zast E (K.1 54 (.bastore, 0) rfl).1 (j := 64 * en + c0) (by decide) (rfl) (by rw [show (64 : Int32) = nI 64 from rfl, pk_mul, nI_add]) (by omega) (by decide) (by decide) ?_
          refine gd_r E K 2 (pc' := 24) (lv' := [(0, .ref 27), (1, .int (nI d)), (2, .int (nI goal)), (3, .int 0), (4, .int (nI en)), (5, .int ((nI c0) + 1))]) (st' := []) (w' := gd_rI w2 43 (upd (w2.1 43) (64 * en + c0) 0)) rfl ?_
          exact gd_cg (ih (c0 + 1) _ (by omega) (gs_lj_step hj (by omega) (by rw [Nat.sub_self, gs_led, decide_eq_false hcg]; rfl))) (by rw [nI_1]) rfl rfl
    refine gd_r E K 2 (pc' := 24) (lv' := [(0, .ref 27), (1, .int (nI d)), (2, .int (nI goal)), (3, .int 0), (4, .int (nI en)), (5, .int 0)]) (st' := []) (w' := w1) rfl ?_
    exact gd_cg (goalrow 64 0 w1 (by omega) ⟨⟨gf_r.refl _ _, fun i hi hi2 => by omega⟩, fun c hc => by omega⟩) rfl rfl rfl
