/-! Numerators and exponents. -/
def gm_shr (x : Int64) (y : Int32) : Int64 := x >>> (y.toInt64 &&& 63)
theorem gs_pw_two : ∀ n, n < 64 → (gs_pw n).toBitVec = BitVec.twoPow 64 n := by decide +kernel
theorem gm_shl_pw (x : Int64) {n : Nat} (hn : n < 64) : gm_shl x (nI n) = x * gs_pw n := by
  apply Int64.toBitVec_inj.mp
  rw [Int64.toBitVec_mul, gs_pw_two n hn, ← BitVec.shiftLeft_eq_mul_twoPow]
  simp only [gm_shl, Int64.toBitVec_shiftLeft, BitVec.shiftLeft_eq', gm_one_k n hn]
theorem gm_td (a : Int) : (0 ≤ a ∧ a.tdiv 2 = a / 2) ∨ (a < 0 ∧ a.tdiv 2 = -((-a) / 2)) := by
  by_cases h : 0 ≤ a
  · exact Or.inl ⟨h, Int.tdiv_eq_ediv_of_nonneg h⟩
  · refine Or.inr ⟨by omega, ?_⟩
    rw [← Int.tdiv_eq_ediv_of_nonneg (show 0 ≤ -a by omega), Int.neg_tdiv, Int.neg_neg]
theorem gm_half_int (x : Int64) : (x / 2).toInt = x.toInt.tdiv 2 := by
  rw [Int64.toInt_div]
  have h1 := Int64.le_toInt x
  have h2 := Int64.toInt_lt x
  have h3 : (2 : Int64).toInt = 2 := by decide
  rw [h3]
  have h4 := gm_td x.toInt
  apply Int.bmod_eq_of_le <;> omega
theorem gs_ev_int (x : Int64) : gs_ev x = true ↔ x.toInt % 2 = 0 := by
  have h4 := gm_td x.toInt
  have h1 := Int64.le_toInt x
  have h2 := Int64.toInt_lt x
  have h3 : (2 : Int64).toInt = 2 := by decide
  have e : (x - x / 2 * 2).toInt = x.toInt - x.toInt.tdiv 2 * 2 := by
    rw [Int64.toInt_sub, Int64.toInt_mul, gm_half_int, h3]
    have e2 : (x.toInt.tdiv 2 * 2).bmod (2 ^ 64) = x.toInt.tdiv 2 * 2 := by apply Int.bmod_eq_of_le <;> omega
    rw [e2]
    apply Int.bmod_eq_of_le <;> omega
  unfold gs_ev
  rw [decide_eq_true_iff]
  constructor
  · intro h
    rw [h] at e
    have h0 : (0 : Int64).toInt = 0 := by decide
    rw [h0] at e
    omega
  · intro h
    apply Int64.toInt_inj.mp
    rw [e]
    have h0 : (0 : Int64).toInt = 0 := by decide
    rw [h0]
    omega
theorem gm_bit0_int (x : Int64) : gm_bit x 0 = false ↔ x.toInt % 2 = 0 := by
  unfold gm_bit
  have h : x.toBitVec.getLsbD 0 = decide (x.toBitVec.toNat % 2 = 1) := by simp [BitVec.getLsbD, Nat.testBit_zero]
  have h2 : x.toInt = x.toBitVec.toInt := rfl
  rw [h, h2, BitVec.toInt_eq_toNat_cond, decide_eq_false_iff_not]
  split <;> omega
theorem gs_ev_bit (x : Int64) : gs_ev x = !gm_bit x 0 := by
  cases hb : gm_bit x 0 with
  | false => exact (gs_ev_int x).mpr ((gm_bit0_int x).mp hb)
  | true =>
    cases he : gs_ev x with
    | false => rfl
    | true =>
      have := (gm_bit0_int x).mpr ((gs_ev_int x).mp he)
      rw [hb] at this
      cases this
theorem gm_shr_half {x : Int64} (h : gs_ev x = true) : gm_shr x 1 = x / 2 := by
  apply Int64.toInt_inj.mp
  rw [gm_half_int]
  have he := (gs_ev_int x).mp h
  have h4 := gm_td x.toInt
  have e1 : (gm_shr x 1).toInt = x.toInt >>> 1 := by
    show (gm_shr x 1).toBitVec.toInt = x.toBitVec.toInt >>> 1
    have hk : (((1 : Int32).toInt64 &&& 63).toBitVec.smod 64).toNat = 1 := by decide
    simp only [gm_shr, Int64.toBitVec_shiftRight, BitVec.sshiftRight_eq', hk, BitVec.toInt_sshiftRight]
  rw [e1, Int.shiftRight_eq_div_pow]
  have : ((2 ^ 1 : Nat) : Int) = 2 := rfl
  rw [this]
  omega
theorem gs_all4 (f : Nat → Int64) : gs_all f 4 = true ↔ gs_ev (f 0) = true ∧ gs_ev (f 1) = true ∧ gs_ev (f 2) = true ∧ gs_ev (f 3) = true := by
  simp only [gs_all, Bool.and_eq_true, Bool.true_and, and_assoc]
theorem gm_even4 (a b c d : Int64) : ((((0 ||| a) ||| b) ||| c) ||| d) &&& 1 = 0 ↔ gs_ev a = true ∧ gs_ev b = true ∧ gs_ev c = true ∧ gs_ev d = true := by
  have h := gm_and_one (x := (((0 ||| a) ||| b) ||| c) ||| d) (k := 0) (by decide)
  have e : gm_one 0 = 1 := by decide
  rw [e] at h
  rw [h, gm_bit_or, gm_bit_or, gm_bit_or, gm_bit_or, gm_bit_0, gs_ev_bit, gs_ev_bit, gs_ev_bit, gs_ev_bit]
  cases gm_bit a 0 <;> cases gm_bit b 0 <;> cases gm_bit c 0 <;> cases gm_bit d 0 <;> decide
/-- only the shares of object q have changed -/
def gc_num (q : Nat) (w w' : gd_W) (p : Nat) (f : Nat → Int64) : Prop := (∀ a, a ≠ 4 + 3 * q → w'.1 a = w.1 a) ∧ (∀ j, j ≠ 5 → w'.1 (4 + 3 * q) j = w.1 (4 + 3 * q) j) ∧ w'.1 (4 + 3 * q) 5 = nI p ∧ (∀ a, a ≠ 6 + 3 * q → w'.2.1 a = w.2.1 a) ∧ w'.2.2 = w.2.2 ∧ ∀ j, j < 4 → w'.2.1 (6 + 3 * q) j = f j
theorem gc_num.trans {q : Nat} {a b c : gd_W} {p p2 : Nat} {f f2 : Nat → Int64} (h : gc_num q a b p f) (k : gc_num q b c p2 f2) : gc_num q a c p2 f2 :=
  ⟨fun x hx => (k.1 x hx).trans (h.1 x hx), fun j hj => (k.2.1 j hj).trans (h.2.1 j hj), k.2.2.1, fun x hx => (k.2.2.2.1 x hx).trans (h.2.2.2.1 x hx), k.2.2.2.2.1.trans h.2.2.2.2.1, k.2.2.2.2.2⟩
theorem gc_num.exp {q : Nat} {a b : gd_W} {p : Nat} {f : Nat → Int64} (h : gc_num q a b p f) (p2 : Nat) : gc_num q a (gd_rI b (4 + 3 * q) (upd (b.1 (4 + 3 * q)) 5 (nI p2))) p2 f :=
  ⟨fun x hx => by rw [gd_rI_n hx]; exact h.1 x hx, fun j hj => by rw [gd_rI_s, gd_u_n hj]; exact h.2.1 j hj, by rw [gd_rI_s, gd_u_s], h.2.2.2.1, h.2.2.2.2.1, h.2.2.2.2.2⟩
theorem gc_num.set4 (q : Nat) {w : gd_W} {p : Nat} (hp : w.1 (4 + 3 * q) 5 = nI p) (v : Nat → Int64) {v0 v1 v2 v3 : Int64} (e0 : v0 = v 0) (e1 : v1 = v 1) (e2 : v2 = v 2) (e3 : v3 = v 3) : gc_num q w (gd_rL (gd_rL (gd_rL (gd_rL w (6 + 3 * q) (vp_updL (w.2.1 (6 + 3 * q)) 0 v0)) (6 + 3 * q) (vp_updL ((gd_rL w (6 + 3 * q) (vp_updL (w.2.1 (6 + 3 * q)) 0 v0)).2.1 (6 + 3 * q)) 1 v1)) (6 + 3 * q) (vp_updL ((gd_rL (gd_rL w (6 + 3 * q) (vp_updL (w.2.1 (6 + 3 * q)) 0 v0)) (6 + 3 * q) (vp_updL ((gd_rL w (6 + 3 * q) (vp_updL (w.2.1 (6 + 3 * q)) 0 v0)).2.1 (6 + 3 * q)) 1 v1)).2.1 (6 + 3 * q)) 2 v2)) (6 + 3 * q) (vp_updL ((gd_rL (gd_rL (gd_rL w (6 + 3 * q) (vp_updL (w.2.1 (6 + 3 * q)) 0 v0)) (6 + 3 * q) (vp_updL ((gd_rL w (6 + 3 * q) (vp_updL (w.2.1 (6 + 3 * q)) 0 v0)).2.1 (6 + 3 * q)) 1 v1)) (6 + 3 * q) (vp_updL ((gd_rL (gd_rL w (6 + 3 * q) (vp_updL (w.2.1 (6 + 3 * q)) 0 v0)) (6 + 3 * q) (vp_updL ((gd_rL w (6 + 3 * q) (vp_updL (w.2.1 (6 + 3 * q)) 0 v0)).2.1 (6 + 3 * q)) 1 v1)).2.1 (6 + 3 * q)) 2 v2)).2.1 (6 + 3 * q)) 3 v3)) p v := by
  subst e0; subst e1; subst e2; subst e3
  refine ⟨fun _ _ => rfl, fun _ _ => rfl, hp, fun a ha => by simp [gd_rL, ha], rfl, fun j hj => ?_⟩
  rcases (by omega : j = 0 ∨ j = 1 ∨ j = 2 ∨ j = 3) with rfl | rfl | rfl | rfl <;> simp [gd_rL, vp_updL]
section CPY
variable {p : Program} {l : Launch} {e : Env} {R : Room} {s : State} {m : MethodId} {args : Array Value} {below : List Frame} {meth : Method} {c : Code} {D : va_G} {tC : FieldType → ClassId} {ad : Nat → Nat} {A : Nat → Prop} {n nL cells slots : Nat} {Q : State → Prop} {pc : Nat} {lv : List (Nat × Value)} {w : gd_W} {cc : ByteArray} {own : String}
theorem ac_ln : Cond.methodLink R_D 54 arraycopyName ∈ gd_all := gd_in 442 rfl rfl
theorem ac_st : Cond.static arraycopyName ∈ gd_all := gd_in 443 rfl rfl
theorem ac_na : Cond.native arraycopyName ∈ gd_all := gd_in 444 rfl rfl
theorem ac_in : Cond.initialized "java/lang/System" ∈ gd_all := gd_in 15 rfl rfl
theorem gd_copyl (E : gd_E p s m args c cc nL own D tC ad A n) {idx k0 k1 len : Nat} (hd : decode cc pc = .ok (.invokestatic idx, 3)) (hl : Cond.methodLink own idx arraycopyName ∈ gd_all) (h0 : k0 < n) (h1 : k1 < n) (hs0 : gd_sh k0 = .inr (.long, 4)) (hs1 : gd_sh k1 = .inr (.long, 4)) (hR : 1 ≤ R.frames ∧ 30 ≤ R.locals)
    (kk : gd_G p l e R s m args below meth c D tC ad A n nL cells slots Q (pc + 3) lv [] (gd_rL w k1 (va_cpy (w.2.1 k0) (w.2.1 k1) 0 0 4))) : gd_G p l e R s m args below meth c D tC ad A n nL cells slots Q pc lv [.int 4, .int 0, .ref k1, .int 0, .ref k0] w := by
  intro H locs ls hP hS hl2
  obtain ⟨⟨hx, hb, hml, hown, hts⟩, hK, hDD, hinj, hN⟩ := E
  have he0 : (gd_wl tC ad n w)[k0]? = some (ad k0, .inl (tC .long, 4, .inr (.inl (w.2.1 k0)))) := by rw [gd_wl_at h0, hs0]; rfl
  have he1 : (gd_wl tC ad n w)[k1]? = some (ad k1, .inl (tC .long, 4, .inr (.inl (w.2.1 k1)))) := by rw [gd_wl_at h1, hs1]; rfl
  have hset : (gd_wl tC ad n w).set k1 (ad k1, .inl (tC .long, 4, .inr (.inl (va_cpy (w.2.1 k0) (w.2.1 k1) 0 0 4)))) = gd_wl tC ad n (gd_rL w k1 (va_cpy (w.2.1 k0) (w.2.1 k1) 0 0 4)) := gd_wl_set (gd_off_L _ _ _) (by rw [hs1]; simp [gd_ce, gd_ar, gd_rL])
  exact va_copyl hx hb (by rw [hml]; exact hl2.1.symm) hown (hts _ hl) (hts _ ac_na) (hts _ ac_st) (hts _ ac_in) hK hP (hDD w) hS k0 k1 1 1 he0 he1 rfl rfl rfl (by decide) (by decide) (by decide) (by decide) (by decide) (fun _ _ => rfl) hR.1 (Nat.le_trans (show 0 + (nativeFrameWords "java/lang/System" "arraycopy" 5 + 11) ≤ 30 by decide) hR.2) hd (fun H1 locs1 hP1 _ hS1 => kk H1 locs1 ls (by rw [← hset]; exact hP1) hS1 hl2)
theorem mx_ln : Cond.methodLink R_D 70 Lib.Math.max.name ∈ gd_all := gd_in 482 rfl rfl
theorem mx_st : Cond.static Lib.Math.max.name ∈ gd_all := gd_in 483 rfl rfl
theorem mx_co : Cond.code Lib.Math.max.name Lib.Math.max.code 2 (some .int) ∈ gd_all := gd_in 484 rfl rfl
theorem mx_in : Cond.initialized "java/lang/Math" ∈ gd_all := gd_in 16 rfl rfl
theorem gd_mmax (E : gd_E p s m args c cc nL own D tC ad A n) {idx a b : Nat} {st : List Value} (hd : decode cc pc = .ok (.invokestatic idx, 3)) (hl : Cond.methodLink own idx Lib.Math.max.name ∈ gd_all) (ha : a < 2 ^ 31) (hb2 : b < 2 ^ 31) (hR : 1 ≤ R.frames ∧ 21 ≤ R.locals) (hcs : cells ≤ R.cells ∧ slots ≤ R.slots) (hsum : (st.map fun v => v.category).sum ≤ 8)
    (kk : gd_G p l e R s m args below meth c D tC ad A n nL cells slots Q (pc + 3) lv (.int (nI (max a b)) :: st) w) : gd_G p l e R s m args below meth c D tC ad A n nL cells slots Q pc lv (.int (nI b) :: .int (nI a) :: st) w := by
  intro H locs ls hP hS hl2
  obtain ⟨⟨hx, hb, hml, hown, hts⟩, hK, hDD, hinj, hN⟩ := E
  have h1 := gd_sum (ad := ad) hsum
  have e : (if nI a < nI b then nI b else nI a) = nI (max a b) := by
    by_cases h : a < b
    · rw [if_pos (nI_lt h hb2)]; congr 1; omega
    · rw [if_neg (nI_nlt (by omega) ha)]; congr 1; omega
  exact va_mmax hx hb (by rw [hml]; exact hl2.1.symm) hown (hts _ hl) (hts _ mx_st) (hts _ mx_in) (hts _ mx_co) hR.1 (by omega) hcs.1 hcs.2 hd (by rw [e]; exact kk H locs ls hP hS hl2)
end CPY
theorem gd_ul_if (f : Nat → Int64) (k : Nat) (x : Int64) (j : Nat) : vp_updL f k x j = if j = k then x else f j := by simp [vp_updL]
set_option maxRecDepth 100000 in
theorem c3_fill {l : Launch} {D : va_G} {tC : FieldType → ClassId} {ad : Nat → Nat} (hinj : ∀ i j, ad i = ad j → i = j) (w : gd_W) (k len : Nat) (hk : k < 45) (hs : gd_sh k = .inr (.long, len)) (hl : len < 1000) (v : Int64) : gd_Cp l D tC ad 45 0 0 y_J_fill c_J_fill 5 none [.ref k, .long v] w (fun r w' => r = none ∧ w'.1 = w.1 ∧ w'.2.2 = w.2.2 ∧ (∀ a, a ≠ k → w'.2.1 a = w.2.1 a) ∧ ∀ j, j < len → w'.2.1 k j = v) := by
  refine gd_Cp_of rfl hinj (Nat.le_of_ble_eq_true rfl) ?_
  intro p e s m args below meth c E hr hlk
  have K := k_J_fill
  have hA : ∀ q, gd_A ad 45 s.heap.size q → gd_A ad 45 s.heap.size q := fun _ h => h
  have loop : ∀ j i w1, i + j = len → (w1.1 = w.1 ∧ w1.2.2 = w.2.2 ∧ (∀ a, a ≠ k → w1.2.1 a = w.2.1 a) ∧ ∀ j, j < i → w1.2.1 k j = v) → gd_G p l e (gd_rm 0 0) s m args below meth c D tC ad (gd_A ad 45 s.heap.size) 45 5 0 0 (MQ below (gd_Qp D tC ad 45 s.heap.size (fun r w' => r = none ∧ w'.1 = w.1 ∧ w'.2.2 = w.2.2 ∧ (∀ a, a ≠ k → w'.2.1 a = w.2.1 a) ∧ ∀ j, j < len → w'.2.1 k j = v)) args s 0 0 (gd_A ad 45 s.heap.size)) 6 [(0, .ref k), (1, .long v), (3, .int (nI i)), (4, .int (nI len))] [] w1 := by
    intro j
    induction j with
    | zero =>
      intro i w1 hi hw
      refine gd_r E K 2 (pc' := 9) (lv' := [(0, .ref k), (1, .long v), (3, .int (nI i)), (4, .int (nI len))]) (st' := [.int (nI len), .int (nI i)]) (w' := w1) rfl ?_
      refine gd_r E K 1 (pc' := if (nI len) ≤ (nI i) then 22 else 12) (lv' := [(0, .ref k), (1, .long v), (3, .int (nI i)), (4, .int (nI len))]) (st' := []) (w' := w1) rfl ?_
      refine gd_it (nI_le (by omega) (by omega)) ?_
      exact gd_vretp E hr hlk (K.1 22 (.return_, 0) rfl).1 (⟨rfl, hw.1, hw.2.1, hw.2.2.1, fun j hj => hw.2.2.2 j (by omega)⟩)
    | succ j ih =>
      intro i w1 hi hw
      refine gd_r E K 2 (pc' := 9) (lv' := [(0, .ref k), (1, .long v), (3, .int (nI i)), (4, .int (nI len))]) (st' := [.int (nI len), .int (nI i)]) (w' := w1) rfl ?_
      refine gd_r E K 1 (pc' := if (nI len) ≤ (nI i) then 22 else 12) (lv' := [(0, .ref k), (1, .long v), (3, .int (nI i)), (4, .int (nI len))]) (st' := []) (w' := w1) rfl ?_
      refine gd_if (nI_ge (by omega) (by omega)) ?_
      refine gd_r E K 3 (pc' := 15) (lv' := [(0, .ref k), (1, .long v), (3, .int (nI i)), (4, .int (nI len))]) (st' := [.long v, .int (nI i), .ref k]) (w' := w1) rfl ?_
      refine gd_last E (K.1 15 (.lastore, 0) rfl).1 (j := i) hk hs rfl (by omega) (by omega) ?_
      refine gd_r E K 2 (pc' := 6) (lv' := [(0, .ref k), (1, .long v), (3, .int ((nI i) + 1)), (4, .int (nI len))]) (st' := []) (w' := gd_rL w1 k (vp_updL (w1.2.1 k) i v)) rfl ?_
      refine gd_cg (ih (i + 1) (gd_rL w1 k (vp_updL (w1.2.1 k) i v)) (by omega) ⟨hw.1, hw.2.1, fun a ha => by rw [gd_rL_n ha]; exact hw.2.2.1 a ha, fun j hj => ?_⟩) (by rw [nI_1]) rfl rfl
      rw [gd_rL_s]
      by_cases e0 : j = i
      · subst e0; rw [gd_ul_s]
      · rw [gd_ul_n e0]; exact hw.2.2.2 j (by omega)
  refine gd_r E K 3 (pc' := 3) (lv' := [(0, .ref k), (1, .long v), (3, .int 0)]) (st' := [.ref k]) (w' := w) rfl ?_
  refine gd_alen E (K.1 3 (.arraylength, 0) rfl).1 (t0 := 1) hk hs rfl ?_
  refine gd_r E K 1 (pc' := 6) (lv' := [(0, .ref k), (1, .long v), (3, .int 0), (4, .int (nI len))]) (st' := []) (w' := w) rfl ?_
  exact gd_cg (loop len 0 w (by omega) ⟨rfl, rfl, fun _ _ => rfl, fun j hj => by omega⟩) rfl rfl rfl
set_option maxRecDepth 100000 in
theorem c3_fillWith {l : Launch} {D : va_G} {tC : FieldType → ClassId} {ad : Nat → Nat} (hinj : ∀ i j, ad i = ad j → i = j) (w : gd_W) (q : Nat) (hq : q < 6) (k : Nat) (hk : k < 4) : gd_Cp l D tC ad 45 1 24 y_D_fillWith c_D_fillWith 2 none [.ref (4 + 3 * q), .int (nI k)] w (fun r w' => r = none ∧ gc_num q w w' 0 (fun j => if j = k then 1 else 0)) := by
  refine gd_Cp_of rfl hinj (Nat.le_of_ble_eq_true rfl) ?_
  intro p e s m args below meth c E hr hlk
  have K := k_D_fillWith
  have hA : ∀ q, gd_A ad 45 s.heap.size q → gd_A ad 45 s.heap.size q := fun _ h => h
  refine gd_r E K 1 (pc' := 1) (lv' := [(0, .ref (4 + 3 * q)), (1, .int (nI k))]) (st' := [.ref (4 + 3 * q)]) (w' := w) rfl ?_
  refine gd_getd E K (K.1 1 (.getfield 15, 0) rfl).1 rfl (by omega) (gd_shd hq) rfl (v := .ref (6 + 3 * q)) (gd_avd1 _ hq) ?_
  refine gd_r E K 1 (pc' := 5) (lv' := [(0, .ref (4 + 3 * q)), (1, .int (nI k))]) (st' := [.long 0, .ref (6 + 3 * q)]) (w' := w) rfl ?_
  refine gd_cSp E hA (av := [.ref (6 + 3 * q), .long 0]) (rest := []) (c3_fill hinj w (6 + 3 * q) 4 (by omega) (gd_shd1 hq) (by decide) 0) (K.1 5 (.invokestatic 48, 0) rfl).1 ml_D_48 cv_J_fill ⟨Nat.le_of_ble_eq_true rfl, Nat.le_of_ble_eq_true rfl⟩ ⟨Nat.zero_le _, Nat.zero_le _⟩ rfl (Nat.le_of_ble_eq_true rfl) (fun r9 w1 h9 => ?_)
  obtain ⟨rfl, f1, f2, f3, f4⟩ := h9
  refine gd_r E K 1 (pc' := 9) (lv' := [(0, .ref (4 + 3 * q)), (1, .int (nI k))]) (st' := [.ref (4 + 3 * q)]) (w' := w1) rfl ?_
  refine gd_getd E K (K.1 9 (.getfield 15, 0) rfl).1 rfl (by omega) (gd_shd hq) rfl (v := .ref (6 + 3 * q)) (gd_avd1 _ hq) ?_
  refine gd_r E K 2 (pc' := 14) (lv' := [(0, .ref (4 + 3 * q)), (1, .int (nI k))]) (st' := [.long 1, .int (nI k), .ref (6 + 3 * q)]) (w' := w1) rfl ?_
  refine gd_last E (K.1 14 (.lastore, 0) rfl).1 (j := k) (by omega) (gd_shd1 hq) (rfl) (hk) (by decide) ?_
  refine gd_r E K 2 (pc' := 17) (lv' := [(0, .ref (4 + 3 * q)), (1, .int (nI k))]) (st' := [.int 0, .ref (4 + 3 * q)]) (w' := gd_rL w1 (6 + 3 * q) (vp_updL (w1.2.1 (6 + 3 * q)) k 1)) rfl ?_
  refine gd_putd E K (K.1 17 (.putfield 29, 0) rfl).1 rfl (by omega) (gd_shd hq) rfl ?_
  exact gd_vretp E hr hlk (K.1 20 (.return_, 0) rfl).1 (⟨rfl, fun a ha => by rw [gd_rI_n ha, gd_rL_I, f1], fun j hj => by rw [gd_rI_s, gd_u_n hj, gd_rL_I, f1], by rw [gd_rI_s, gd_u_s]; rfl, fun a ha => by rw [gd_rI_L, gd_rL_n ha]; exact f3 a ha, f2, fun j hj => by rw [gd_rI_L, gd_rL_s, gd_ul_if, f4 j hj]⟩)
set_option maxRecDepth 100000 in
theorem c3_fillLike {l : Launch} {D : va_G} {tC : FieldType → ClassId} {ad : Nat → Nat} (hinj : ∀ i j, ad i = ad j → i = j) (w : gd_W) (q : Nat) (hq : q < 6) (q2 : Nat) (hq2 : q2 < 6) (p0 : Nat) (f : Nat → Int64) (hp : w.1 (4 + 3 * q2) 5 = nI p0) (hf : ∀ j, j < 4 → w.2.1 (6 + 3 * q2) j = f j) : gd_Cp l D tC ad 45 1 30 y_D_fillLike c_D_fillLike 2 none [.ref (4 + 3 * q), .ref (4 + 3 * q2)] w (fun r w' => r = none ∧ gc_num q w w' p0 f) := by
  refine gd_Cp_of rfl hinj (Nat.le_of_ble_eq_true rfl) ?_
  intro p e s m args below meth c E hr hlk
  have K := k_D_fillLike
  have hA : ∀ q, gd_A ad 45 s.heap.size q → gd_A ad 45 s.heap.size q := fun _ h => h
  refine gd_r E K 1 (pc' := 1) (lv' := [(0, .ref (4 + 3 * q)), (1, .ref (4 + 3 * q2))]) (st' := [.ref (4 + 3 * q2)]) (w' := w) rfl ?_
  refine gd_getd E K (K.1 1 (.getfield 15, 0) rfl).1 rfl (by omega) (gd_shd hq2) rfl (v := .ref (6 + 3 * q2)) (gd_avd1 _ hq2) ?_
  refine gd_r E K 2 (pc' := 6) (lv' := [(0, .ref (4 + 3 * q)), (1, .ref (4 + 3 * q2))]) (st' := [.ref (4 + 3 * q), .int 0, .ref (6 + 3 * q2)]) (w' := w) rfl ?_
  refine gd_getd E K (K.1 6 (.getfield 15, 0) rfl).1 rfl (by omega) (gd_shd hq) rfl (v := .ref (6 + 3 * q)) (gd_avd1 _ hq) ?_
  refine gd_r E K 2 (pc' := 11) (lv' := [(0, .ref (4 + 3 * q)), (1, .ref (4 + 3 * q2))]) (st' := [.int 4, .int 0, .ref (6 + 3 * q), .int 0, .ref (6 + 3 * q2)]) (w' := w) rfl ?_
  refine gd_copyl E (len := 4) (K.1 11 (.invokestatic 54, 0) rfl).1 ac_ln (by omega) (by omega) (gd_shd1 hq2) (gd_shd1 hq) (by decide) ?_
  refine gd_r E K 2 (pc' := 16) (lv' := [(0, .ref (4 + 3 * q)), (1, .ref (4 + 3 * q2))]) (st' := [.ref (4 + 3 * q2), .ref (4 + 3 * q)]) (w' := gd_rL w (6 + 3 * q) (va_cpy (w.2.1 (6 + 3 * q2)) (w.2.1 (6 + 3 * q)) 0 0 4)) rfl ?_
  refine gd_getd E K (K.1 16 (.getfield 29, 0) rfl).1 rfl (by omega) (gd_shd hq2) rfl (v := .int (nI p0)) (by show Value.int _ = Value.int _; rw [gd_rL_I, hp]) ?_
  refine gd_putd E K (K.1 19 (.putfield 29, 0) rfl).1 rfl (by omega) (gd_shd hq) rfl ?_
  exact gd_vretp E hr hlk (K.1 22 (.return_, 0) rfl).1 (⟨rfl, fun a ha => gd_rI_n ha, fun j hj => by rw [gd_rI_s, gd_u_n hj, gd_rL_I], by rw [gd_rI_s, gd_u_s], fun a ha => by rw [gd_rI_L, gd_rL_n ha], rfl, fun j hj => by rw [gd_rI_L, gd_rL_s, pk_cpy_in (by omega) (by omega)]; simpa using hf j hj⟩)
set_option maxRecDepth 100000 in
theorem c3_allEven {l : Launch} {D : va_G} {tC : FieldType → ClassId} {ad : Nat → Nat} (hinj : ∀ i j, ad i = ad j → i = j) (w : gd_W) (q : Nat) (hq : q < 6) (f : Nat → Int64) (hf : ∀ j, j < 4 → w.2.1 (6 + 3 * q) j = f j) : gd_Ct l D tC ad 45 0 0 y_D_allEven c_D_allEven 4 (some .boolean) [.ref (4 + 3 * q)] w (some (.int (gs_b (gs_all f 4)))) w := by
  refine gd_Ct_of rfl hinj (Nat.le_of_ble_eq_true rfl) ?_
  intro p e s m args below meth c E hr hlk
  have K := k_D_allEven
  have hA : ∀ q, gd_A ad 45 s.heap.size q → gd_A ad 45 s.heap.size q := fun _ h => h
  refine gd_r E K 9 (pc' := 11) (lv' := [(0, .ref (4 + 3 * q)), (1, .long 0), (3, .int 0)]) (st' := [.ref (4 + 3 * q), .long 0]) (w' := w) rfl ?_
  refine gd_getd E K (K.1 11 (.getfield 15, 0) rfl).1 rfl (by omega) (gd_shd hq) rfl (v := .ref (6 + 3 * q)) (gd_avd1 _ hq) ?_
  refine gd_r E K 1 (pc' := 15) (lv' := [(0, .ref (4 + 3 * q)), (1, .long 0), (3, .int 0)]) (st' := [.int 0, .ref (6 + 3 * q), .long 0]) (w' := w) rfl ?_
  refine gd_laldv E (K.1 15 (.laload, 0) rfl).1 (j := 0) (by omega) (gd_shd1 hq) (rfl) (by decide) (by decide) (v := f 0) (hf 0 (by decide)) ?_
  refine gd_r E K 9 (pc' := 11) (lv' := [(0, .ref (4 + 3 * q)), (1, .long (0 ||| (f 0))), (3, .int 1)]) (st' := [.ref (4 + 3 * q), .long (0 ||| (f 0))]) (w' := w) rfl ?_
  refine gd_getd E K (K.1 11 (.getfield 15, 0) rfl).1 rfl (by omega) (gd_shd hq) rfl (v := .ref (6 + 3 * q)) (gd_avd1 _ hq) ?_
  refine gd_r E K 1 (pc' := 15) (lv' := [(0, .ref (4 + 3 * q)), (1, .long (0 ||| (f 0))), (3, .int 1)]) (st' := [.int 1, .ref (6 + 3 * q), .long (0 ||| (f 0))]) (w' := w) rfl ?_
  refine gd_laldv E (K.1 15 (.laload, 0) rfl).1 (j := 1) (by omega) (gd_shd1 hq) (rfl) (by decide) (by decide) (v := f 1) (hf 1 (by decide)) ?_
  refine gd_r E K 9 (pc' := 11) (lv' := [(0, .ref (4 + 3 * q)), (1, .long ((0 ||| (f 0)) ||| (f 1))), (3, .int 2)]) (st' := [.ref (4 + 3 * q), .long ((0 ||| (f 0)) ||| (f 1))]) (w' := w) rfl ?_
  refine gd_getd E K (K.1 11 (.getfield 15, 0) rfl).1 rfl (by omega) (gd_shd hq) rfl (v := .ref (6 + 3 * q)) (gd_avd1 _ hq) ?_
  refine gd_r E K 1 (pc' := 15) (lv' := [(0, .ref (4 + 3 * q)), (1, .long ((0 ||| (f 0)) ||| (f 1))), (3, .int 2)]) (st' := [.int 2, .ref (6 + 3 * q), .long ((0 ||| (f 0)) ||| (f 1))]) (w' := w) rfl ?_
  refine gd_laldv E (K.1 15 (.laload, 0) rfl).1 (j := 2) (by omega) (gd_shd1 hq) (rfl) (by decide) (by decide) (v := f 2) (hf 2 (by decide)) ?_
  refine gd_r E K 9 (pc' := 11) (lv' := [(0, .ref (4 + 3 * q)), (1, .long (((0 ||| (f 0)) ||| (f 1)) ||| (f 2))), (3, .int 3)]) (st' := [.ref (4 + 3 * q), .long (((0 ||| (f 0)) ||| (f 1)) ||| (f 2))]) (w' := w) rfl ?_
  refine gd_getd E K (K.1 11 (.getfield 15, 0) rfl).1 rfl (by omega) (gd_shd hq) rfl (v := .ref (6 + 3 * q)) (gd_avd1 _ hq) ?_
  refine gd_r E K 1 (pc' := 15) (lv' := [(0, .ref (4 + 3 * q)), (1, .long (((0 ||| (f 0)) ||| (f 1)) ||| (f 2))), (3, .int 3)]) (st' := [.int 3, .ref (6 + 3 * q), .long (((0 ||| (f 0)) ||| (f 1)) ||| (f 2))]) (w' := w) rfl ?_
  refine gd_laldv E (K.1 15 (.laload, 0) rfl).1 (j := 3) (by omega) (gd_shd1 hq) (rfl) (by decide) (by decide) (v := f 3) (hf 3 (by decide)) ?_
  refine gd_r E K 12 (pc' := 29) (lv' := [(0, .ref (4 + 3 * q)), (1, .long ((((0 ||| (f 0)) ||| (f 1)) ||| (f 2)) ||| (f 3))), (3, .int 4)]) (st' := [.int (lg_cmp (((((0 ||| (f 0)) ||| (f 1)) ||| (f 2)) ||| (f 3)) &&& 1) 0)]) (w' := w) rfl ?_
  have he := (gm_even4 (f 0) (f 1) (f 2) (f 3)).trans (gs_all4 f).symm
  cases ha : gs_all f 4 with
  | true =>
    refine gd_r E K 1 (pc' := if (lg_cmp (((((0 ||| (f 0)) ||| (f 1)) ||| (f 2)) ||| (f 3)) &&& 1) 0) = 0 then 32 else 36) (lv' := [(0, .ref (4 + 3 * q)), (1, .long ((((0 ||| (f 0)) ||| (f 1)) ||| (f 2)) ||| (f 3))), (3, .int 4)]) (st' := []) (w' := w) rfl ?_
    refine gd_it ((lg_cmp_eq _ _).mpr (he.mpr ha)) ?_
    refine gd_r E K 2 (pc' := 37) (lv' := [(0, .ref (4 + 3 * q)), (1, .long ((((0 ||| (f 0)) ||| (f 1)) ||| (f 2)) ||| (f 3))), (3, .int 4)]) (st' := [.int 1]) (w' := w) rfl ?_
    exact gd_zretq E hr hlk (K.1 37 (.ireturn, 0) rfl).1 (by decide) (rfl) (rfl)
  | false =>
    refine gd_r E K 1 (pc' := if (lg_cmp (((((0 ||| (f 0)) ||| (f 1)) ||| (f 2)) ||| (f 3)) &&& 1) 0) = 0 then 32 else 36) (lv' := [(0, .ref (4 + 3 * q)), (1, .long ((((0 ||| (f 0)) ||| (f 1)) ||| (f 2)) ||| (f 3))), (3, .int 4)]) (st' := []) (w' := w) rfl ?_
    refine gd_if (fun h => by rw [he.mp ((lg_cmp_eq _ _).mp h)] at ha; cases ha) ?_
    refine gd_r E K 1 (pc' := 37) (lv' := [(0, .ref (4 + 3 * q)), (1, .long ((((0 ||| (f 0)) ||| (f 1)) ||| (f 2)) ||| (f 3))), (3, .int 4)]) (st' := [.int 0]) (w' := w) rfl ?_
    exact gd_zretq E hr hlk (K.1 37 (.ireturn, 0) rfl).1 (by decide) (rfl) (rfl)
