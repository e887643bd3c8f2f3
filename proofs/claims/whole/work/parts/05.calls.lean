abbrev gd_X : Type := Nat × List (Nat × Value) × List Value × gd_W
-- a step, fields of known cells too
def gd_hs (n nL : Nat) (fl : Nat → Option (Nat × Nat × Bool)) (lc : Nat → Option Int64) (i : Instr) (tgt : Nat) (x : gd_X) : Option gd_X := match i with
  | .getfield a => match fl a, x.2.2.1 with
    | some q, .ref k :: st => match gd_sh k, (gd_ft q.1)[q.2.1]? with
      | .inl ci, some ty => bif Nat.blt k n && Nat.beq ci q.1 then some (x.1 + 3, x.2.1, gd_av x.2.2.2 k q.2.1 ty :: st, x.2.2.2) else none
      | _, _ => none
    | _, _ => none
  | .putfield a => match fl a, x.2.2.1 with
    | some q, .int v :: .ref k :: st => match gd_sh k, (gd_ft q.1)[q.2.1]? with
      | .inl ci, some .int => bif Nat.blt k n && Nat.beq ci q.1 && q.2.2 then some (x.1 + 3, x.2.1, st, gd_rI x.2.2.2 k (upd (x.2.2.2.1 k) q.2.1 v)) else none
      | _, _ => none
    | some q, .long v :: .ref k :: st => match gd_sh k, (gd_ft q.1)[q.2.1]? with
      | .inl ci, some .long => bif Nat.blt k n && Nat.beq ci q.1 && q.2.2 then some (x.1 + 3, x.2.1, st, gd_rL x.2.2.2 k (vp_updL (x.2.2.2.2.1 k) q.2.1 v)) else none
      | _, _ => none
    | _, _ => none
  | .ldc2_w a => match lc a with
    | some v => some (x.1 + 3, x.2.1, .long v :: x.2.2.1, x.2.2.2)
    | none => none
  | i => match gd_ps nL i tgt x.1 x.2.1 x.2.2.1 with
    | some r => some (r.1, r.2.1, r.2.2, x.2.2.2)
    | none => none
def gd_run (n nL : Nat) (f : Nat → Option (Instr × Nat)) (fl : Nat → Option (Nat × Nat × Bool)) (lc : Nat → Option Int64) : Nat → gd_X → Option gd_X
  | 0, x => some x
  | k + 1, x => match f x.1 with
    | some q => match gd_hs n nL fl lc q.1 q.2 x with
      | some y => gd_run n nL f fl lc k y
      | none => none
    | none => none
-- a method's instructions, by their places
abbrev gd_K : Type := List (Nat × Instr × Nat)
def gd_find : gd_K → Nat → Option (Instr × Nat)
  | [], _ => none
  | q :: t, i => bif Nat.beq q.1 i then some q.2 else gd_find t i
def gd_ff : gd_F → Nat → Option (Nat × Nat × Bool)
  | [], _ => none
  | q :: t, i => bif Nat.beq q.1 i then some q.2 else gd_ff t i
def gd_lf : gd_L → Nat → Option Int64
  | [], _ => none
  | q :: t, i => bif Nat.beq q.1 i then some q.2 else gd_lf t i
theorem gd_find_mem : ∀ {l : gd_K} {i : Nat} {v : Instr × Nat}, gd_find l i = some v → (i, v) ∈ l
  | [], i, v, h => by cases h
  | (j, x) :: t, i, v, h => by
    rw [gd_find] at h
    cases hb : Nat.beq j i with
    | true => rw [hb] at h; have hji : j = i := Nat.eq_of_beq_eq_true hb; cases h; rw [hji]; exact List.mem_cons_self
    | false => rw [hb] at h; exact List.mem_cons_of_mem _ (gd_find_mem h)
theorem gd_ff_mem : ∀ {l : gd_F} {i : Nat} {v : Nat × Nat × Bool}, gd_ff l i = some v → (i, v) ∈ l
  | [], i, v, h => by cases h
  | (j, x) :: t, i, v, h => by
    rw [gd_ff] at h
    cases hb : Nat.beq j i with
    | true => rw [hb] at h; have hji : j = i := Nat.eq_of_beq_eq_true hb; cases h; rw [hji]; exact List.mem_cons_self
    | false => rw [hb] at h; exact List.mem_cons_of_mem _ (gd_ff_mem h)
theorem gd_lf_mem : ∀ {l : gd_L} {i : Nat} {v : Int64}, gd_lf l i = some v → (i, v) ∈ l
  | [], i, v, h => by cases h
  | (j, x) :: t, i, v, h => by
    rw [gd_lf] at h
    cases hb : Nat.beq j i with
    | true => rw [hb] at h; have hji : j = i := Nat.eq_of_beq_eq_true hb; cases h; rw [hji]; exact List.mem_cons_self
    | false => rw [hb] at h; exact List.mem_cons_of_mem _ (gd_lf_mem h)
/-- what the tables of a method say -/
def gd_MK (cc : ByteArray) (own : String) (f : Nat → Option (Instr × Nat)) (fl : Nat → Option (Nat × Nat × Bool)) (lc : Nat → Option Int64) : Prop :=
  (∀ pc q, f pc = some q → decode cc pc = .ok (q.1, gd_len q.1) ∧ gd_tg q.1 pc q.2 = true) ∧ (∀ x q, fl x = some q → ∃ (C : String) (T : u_T) (N : Nat), gd_cf q.1 C T N ∧ q.2.1 < N ∧ gd_lk own x (T q.2.1) ∧ (q.2.2 = true → (T q.2.1).2.2.2 = false)) ∧ ∀ x v, lc x = some v → Cond.constantLong own x v ∈ gd_all
theorem gd_mk {cc : ByteArray} {own : String} {ct : gd_K} {fl : gd_F} {lc : gd_L} (h : ∀ q ∈ ct, decode cc q.1 = .ok (q.2.1, gd_len q.2.1) ∧ gd_tg q.2.1 q.1 q.2.2 = true) (hf : gd_FB own fl) (hl : gd_LB own lc) : gd_MK cc own (gd_find ct) (gd_ff fl) (gd_lf lc) :=
  ⟨fun pc q hq => h (pc, q) (gd_find_mem hq), fun x q hq => hf (x, q) (gd_ff_mem hq), fun x v hv => hl (x, v) (gd_lf_mem hv)⟩
section GR
variable {p : Program} {l : Launch} {e : Env} {R : Room} {s : State} {m : MethodId} {args : Array Value} {below : List Frame} {meth : Method} {c : Code} {D : va_G} {tC : FieldType → ClassId} {ad : Nat → Nat} {A : Nat → Prop} {n nL cells slots : Nat} {Q : State → Prop} {cc : ByteArray} {own : String} {f : Nat → Option (Instr × Nat)} {fl : Nat → Option (Nat × Nat × Bool)} {lc : Nat → Option Int64}
set_option maxHeartbeats 1000000 in
theorem gd_hs_ok (E : gd_E p s m args c cc nL own D tC ad A n) (K : gd_MK cc own f fl lc) {q : Instr × Nat} {x y : gd_X} (hf : f x.1 = some q) (h : gd_hs n nL fl lc q.1 q.2 x = some y)
    (k : gd_G p l e R s m args below meth c D tC ad A n nL cells slots Q y.1 y.2.1 y.2.2.1 y.2.2.2) : gd_G p l e R s m args below meth c D tC ad A n nL cells slots Q x.1 x.2.1 x.2.2.1 x.2.2.2 := by
  obtain ⟨i, tgt⟩ := q
  obtain ⟨pc, lv, st, w⟩ := x
  obtain ⟨hd, ht⟩ := K.1 _ _ hf
  dsimp only at hd ht h ⊢
  unfold gd_hs at h
  split at h
  · dsimp only at h
    split at h
    · rename_i _ _ q kc st' hfa
      split at h
      · rename_i ci ty hs hty
        obtain ⟨hc, rfl⟩ := gd_bf h
        obtain ⟨h1, h2⟩ := (Bool.and_eq_true _ _).mp hc
        obtain ⟨C, T, N, g1, g2, g3, -⟩ := K.2.1 _ _ hfa
        have h2 := gd_beq h2
        subst h2
        exact gd_getf E hd g1 g2 g3 (gd_blt h1) hs hty k
      · cases h
    · cases h
  · dsimp only at h
    split at h
    · rename_i _ _ q v kc st' hfa
      split at h
      · rename_i ci hs hty
        obtain ⟨hc, rfl⟩ := gd_bf h
        obtain ⟨h0, h3⟩ := (Bool.and_eq_true _ _).mp hc
        obtain ⟨h1, h2⟩ := (Bool.and_eq_true _ _).mp h0
        obtain ⟨C, T, N, g1, g2, g3, g4⟩ := K.2.1 _ _ hfa
        have h2 := gd_beq h2
        subst h2
        exact gd_puti E hd g1 g2 g3 (g4 h3) (gd_blt h1) hs hty k
      · cases h
    · rename_i _ _ q v kc st' hfa
      split at h
      · rename_i ci hs hty
        obtain ⟨hc, rfl⟩ := gd_bf h
        obtain ⟨h0, h3⟩ := (Bool.and_eq_true _ _).mp hc
        obtain ⟨h1, h2⟩ := (Bool.and_eq_true _ _).mp h0
        obtain ⟨C, T, N, g1, g2, g3, g4⟩ := K.2.1 _ _ hfa
        have h2 := gd_beq h2
        subst h2
        exact gd_putl E hd g1 g2 g3 (g4 h3) (gd_blt h1) hs hty k
      · cases h
    · cases h
  · dsimp only at h
    split at h
    · rename_i a v hv
      cases h
      intro H locs ls hP hS hl
      exact lv_ldc2 E.1.1 E.1.2.1 E.1.2.2.2.1 (E.1.2.2.2.2 _ (K.2.2 _ _ hv)) hd (k H locs ls hP hS hl)
    · cases h
  · split at h
    · rename_i r hr
      cases h
      exact gd_ps_ok E.1.1 E.1.2.1 E.2.2.2.1 hd ht hr k
    · cases h
theorem gd_go (E : gd_E p s m args c cc nL own D tC ad A n) (K : gd_MK cc own f fl lc) : ∀ (k : Nat) {x y : gd_X}, gd_run n nL f fl lc k x = some y →
    gd_G p l e R s m args below meth c D tC ad A n nL cells slots Q y.1 y.2.1 y.2.2.1 y.2.2.2 → gd_G p l e R s m args below meth c D tC ad A n nL cells slots Q x.1 x.2.1 x.2.2.1 x.2.2.2
  | 0, x, y, h, k => by cases h; exact k
  | j + 1, x, y, h, k => by
    unfold gd_run at h
    split at h
    · rename_i q hf
      split at h
      · rename_i z hz
        exact gd_hs_ok E K hf hz (gd_go E K j h k)
      · cases h
    · cases h
/-- a straight stretch: k steps from here to there -/
theorem gd_r (E : gd_E p s m args c cc nL own D tC ad A n) (K : gd_MK cc own f fl lc) (k : Nat) {pc pc' : Nat} {lv lv' : List (Nat × Value)} {st st' : List Value} {w w' : gd_W} (h : gd_run n nL f fl lc k (pc, lv, st, w) = some (pc', lv', st', w'))
    (kk : gd_G p l e R s m args below meth c D tC ad A n nL cells slots Q pc' lv' st' w') : gd_G p l e R s m args below meth c D tC ad A n nL cells slots Q pc lv st w := gd_go E K k (x := (pc, lv, st, w)) (y := (pc', lv', st', w')) h kk
end GR
-- contracts: the method, begun with these arguments in this world, ends with this answer in that world, and makes no cell
def gd_rm (fr lo : Nat) : Room := { frames := fr, cells := 0, slots := 0, locals := lo }
def gd_A (ad : Nat → Nat) (n sz : Nat) : Nat → Prop := fun q => (∃ k, k < n ∧ q = ad k) ∨ sz ≤ q
def gd_Pre (D : va_G) (tC : FieldType → ClassId) (ad : Nat → Nat) (n sz : Nat) (w : gd_W) (U : State) : Prop := U.heap.size = sz ∧ va_P D gd_cl (gd_wl tC ad n w) U.heap ∧ va_K D gd_cl (gd_tys tC) U ∧ ∀ x ∈ gd_nw, va_Nw x U
def gd_Q (D : va_G) (tC : FieldType → ClassId) (ad : Nat → Nat) (n sz : Nat) (r : Option Value) (w' : gd_W) : Array Value → State → Outcome → State → Prop := fun _ st oc t => oc = .returned (r.map (gd_tr ad)) ∧ va_P D gd_cl (gd_wl tC ad n w') t.heap ∧ va_F (gd_A ad n sz) st t
def gd_Ct (l : Launch) (D : va_G) (tC : FieldType → ClassId) (ad : Nat → Nat) (n fr lo : Nat) (y : MethodName) (cc : ByteArray) (nL : Nat) (ret : Option FieldType) (av : List Value) (w : gd_W) (r : Option Value) (w' : gd_W) : Prop :=
  ∀ sz, Met l y (.code y cc nL ret :: gd_all) (gd_rm fr lo) (va_Pc (av.map (gd_tr ad)) (gd_Pre D tC ad n sz w)) (gd_Q D tC ad n sz r w') 0 0 (gd_A ad n sz)
theorem gd_largs (ad : Nat → Nat) : ∀ (av : List Value) (i : Nat), lv_args i (av.map (gd_tr ad)) = gd_lt ad (lv_args i av)
  | [], i => rfl
  | v :: av, i => by
    show (i, gd_tr ad v) :: lv_args (if (gd_tr ad v).category = 2 then i + 2 else i + 1) (av.map (gd_tr ad)) = _
    rw [gd_tr_cat, gd_largs ad av]
    rfl
theorem gd_sl_len (ad : Nat → Nat) (av : List Value) : (lg_sl (av.map (gd_tr ad))).length = (lg_sl av).length := by
  induction av with
  | nil => rfl
  | cons v av ih =>
    have e1 : lg_sl (List.map (gd_tr ad) (v :: av)) = lg_sl [gd_tr ad v] ++ lg_sl (List.map (gd_tr ad) av) := by simp [lg_sl]
    have e2 : lg_sl (v :: av) = lg_sl [v] ++ lg_sl av := by simp [lg_sl]
    rw [e1, e2, List.length_append, List.length_append, ih]
    congr 1
    simp [lg_sl, gd_tr_cat]
    split <;> rfl
theorem gd_DD {tC : FieldType → ClassId} {ad : Nat → Nat} {A : Nat → Prop} {n : Nat} (hinj : ∀ i j, ad i = ad j → i = j) (hA : ∀ k, k < n → A (ad k)) (w : gd_W) : va_D A (gd_wl tC ad n w) := by
  have key : ∀ (i : Nat) (q : Nat × va_E), (gd_wl tC ad n w)[i]? = some q → i < n ∧ q.1 = ad i := by
    intro i q h
    have hi : i < n := by
      have := (List.getElem?_eq_some_iff.mp h).1
      simpa [gd_wl] using this
    rw [gd_wl_at hi] at h
    cases h
    exact ⟨hi, rfl⟩
  refine ⟨fun i j a b ha hb hab => ?_, fun k q hk => ?_⟩
  · obtain ⟨-, e1⟩ := key i a ha
    obtain ⟨-, e2⟩ := key j b hb
    exact hinj i j (by rw [← e1, ← e2]; exact hab)
  · obtain ⟨h1, e1⟩ := key k q hk
    rw [e1]
    exact hA k h1
theorem gd_Ct_of {l : Launch} {D : va_G} {tC : FieldType → ClassId} {ad : Nat → Nat} {n fr lo : Nat} {y : MethodName} {cc : ByteArray} {nL : Nat} {ret : Option FieldType} {av : List Value} {w : gd_W} {r : Option Value} {w' : gd_W} (hy : plainName y.cls = true) (hinj : ∀ i j, ad i = ad j → i = j) (hn : (lg_sl av).length ≤ nL)
    (body : ∀ (p : Program) (e : Env) (s : State) (m : MethodId) (args : Array Value) (below : List Frame) (meth : Method) (c : Code), gd_E p s m args c cc nL y.cls D tC ad (gd_A ad n s.heap.size) n → meth.sig.returnType = ret → meth.locks = false →
      gd_G p l e (gd_rm fr lo) s m args below meth c D tC ad (gd_A ad n s.heap.size) n nL 0 0 (MQ below (gd_Q D tC ad n s.heap.size r w') args s 0 0 (gd_A ad n s.heap.size)) 0 (lv_args 0 av) [] w) : gd_Ct l D tC ad n fr lo y cc nL ret av w r w' := by
  intro sz
  refine Met.ofW (cc := cc) (maxL := nL) (ret := ret) hy rfl ?_
  intro p e s m args below meth c s₁ B hml hv
  obtain ⟨rfl, hsz, hP, hK, hN⟩ := hv
  have hts := atoms_spec (ws := .code y cc nL ret :: gd_all) B.pre
  subst hsz
  have E : gd_E p s m (av.map (gd_tr ad)).toArray c cc nL y.cls D tC ad (gd_A ad n s.heap.size) n := ⟨⟨B.exec, B.bytes, hml, findClass_of_methodNamed B.named, fun w hw => hts w (List.mem_cons_of_mem _ hw)⟩, hK, fun w => gd_DD hinj (fun k hk => Or.inl ⟨k, hk, rfl⟩) w, hinj, hN⟩
  have hl := lv_entry (av.map (gd_tr ad)) (n := nL) (by rw [gd_sl_len]; exact hn)
  rw [lg_entry_eq]
  rw [gd_largs] at hl
  exact body p e s m _ below meth c E B.returns B.notSynchronized s.heap [] _ hP va_S.rf hl
section GC
variable {p : Program} {l : Launch} {e : Env} {R : Room} {s : State} {m : MethodId} {args : Array Value} {below : List Frame} {meth : Method} {c : Code} {D : va_G} {tC : FieldType → ClassId} {ad : Nat → Nat} {A : Nat → Prop} {n nL cells slots : Nat} {Q : State → Prop} {pc : Nat} {lv : List (Nat × Value)} {st : List Value} {w : gd_W} {cc : ByteArray} {own : String}
theorem gd_iret (E : gd_E p s m args c cc nL own D tC ad (gd_A ad n s.heap.size) n) (hr : meth.sig.returnType = some .int) (hlk : meth.locks = false) (hd : decode cc pc = .ok (.ireturn, 1)) {v : Int32} : gd_G p l e R s m args below meth c D tC ad (gd_A ad n s.heap.size) n nL cells slots (MQ below (gd_Q D tC ad n s.heap.size (some (.int v)) w) args s cells slots (gd_A ad n s.heap.size)) pc lv [.int v] w :=
  fun H locs ls hP hS hl => W.iret E.1.1 E.1.2.1 hr (fun t ht _ => ⟨rfl, by rw [ht]; exact hP, hS.F ht⟩) hS.2.2 hd hlk
theorem gd_zret (E : gd_E p s m args c cc nL own D tC ad (gd_A ad n s.heap.size) n) (hr : meth.sig.returnType = some .boolean) (hlk : meth.locks = false) (hd : decode cc pc = .ok (.ireturn, 1)) {v : Int32} (hv : v = 0 ∨ v = 1) : gd_G p l e R s m args below meth c D tC ad (gd_A ad n s.heap.size) n nL cells slots (MQ below (gd_Q D tC ad n s.heap.size (some (.int v)) w) args s cells slots (gd_A ad n s.heap.size)) pc lv [.int v] w :=
  fun H locs ls hP hS hl => W.zret E.1.1 E.1.2.1 hr (by rcases hv with rfl | rfl <;> rfl) (fun t ht _ => ⟨rfl, by rw [ht]; exact hP, hS.F ht⟩) hS.2.2 hd hlk
theorem gd_lret (E : gd_E p s m args c cc nL own D tC ad (gd_A ad n s.heap.size) n) (hr : meth.sig.returnType = some .long) (hlk : meth.locks = false) (hd : decode cc pc = .ok (.lreturn, 1)) {v : Int64} : gd_G p l e R s m args below meth c D tC ad (gd_A ad n s.heap.size) n nL cells slots (MQ below (gd_Q D tC ad n s.heap.size (some (.long v)) w) args s cells slots (gd_A ad n s.heap.size)) pc lv [.long v] w :=
  fun H locs ls hP hS hl => W.lret E.1.1 E.1.2.1 hr (fun t ht _ => ⟨rfl, by rw [ht]; exact hP, hS.F ht⟩) hS.2.2 hd hlk
theorem gd_vret (E : gd_E p s m args c cc nL own D tC ad (gd_A ad n s.heap.size) n) (hr : meth.sig.returnType = none) (hlk : meth.locks = false) (hd : decode cc pc = .ok (.return_, 1)) : gd_G p l e R s m args below meth c D tC ad (gd_A ad n s.heap.size) n nL cells slots (MQ below (gd_Q D tC ad n s.heap.size none w) args s cells slots (gd_A ad n s.heap.size)) pc lv [] w :=
  fun H locs ls hP hS hl => W.vret E.1.1 E.1.2.1 hr (fun t ht _ => ⟨rfl, by rw [ht]; exact hP, hS.F ht⟩) hS.2.2 hd hlk
theorem gd_aret (E : gd_E p s m args c cc nL own D tC ad (gd_A ad n s.heap.size) n) {C : String} (hr : meth.sig.returnType = some (.object C)) (hlk : meth.locks = false) (hd : decode cc pc = .ok (.areturn, 1)) {v : Value} (hv : v = .null ∨ ∃ a, v = .ref a) : gd_G p l e R s m args below meth c D tC ad (gd_A ad n s.heap.size) n nL cells slots (MQ below (gd_Q D tC ad n s.heap.size (some v) w) args s cells slots (gd_A ad n s.heap.size)) pc lv [v] w :=
  fun H locs ls hP hS hl => W.aret E.1.1 E.1.2.1 hr (Or.inl ⟨C, rfl⟩) (by rcases hv with rfl | ⟨a, rfl⟩; exact Or.inl rfl; exact Or.inr ⟨_, rfl⟩) (fun t ht _ => ⟨rfl, by rw [ht]; exact hP, hS.F ht⟩) hS.2.2 hd hlk
/-- behind a call -/
theorem gd_back {sz : Nat} {w' : gd_W} {r : Option Value} {a : Array Value} {H : Heap} {locs : List Loc} {ls : Array Slot} {st0 rest : List Value} (hr : va_Run p l e R s m args below meth c H locs cells slots 0 0 (F0 m pc ls st0) (rest.map (gd_tr ad)) (gd_Q D tC ad n sz r w' a) (gd_A ad n sz)) (hsz : H.size = sz) (hA : ∀ q, gd_A ad n sz q → A q) (hS : va_S A s.heap H locs) (hl : lv_has ls nL (gd_lt ad lv))
    (kk : gd_G p l e R s m args below meth c D tC ad A n nL cells slots Q (pc + 3) lv (r.toList ++ rest) w') : W p l e R s m args below meth c H locs cells slots Q (F0 m pc ls st0) := by
  intro T hT X
  obtain ⟨v, st₀, t, T', L, h0, X', hL, e1, e2, ⟨hv, hP, hz, hk⟩, st⟩ := hr T hT X
  have hv : v = r.map (gd_tr ad) := Outcome.returned.inj hv
  subst hv
  rw [h0] at hz hk
  have hS1 : va_S A s.heap T'.heap (locs ++ L) := ⟨Nat.le_trans hS.1 (by rw [e1]; exact hz), fun q h1 h2 => by rw [e1, hk q (Nat.lt_of_lt_of_le h1 hS.1) (fun z => h2 (hA q z))]; exact hS.2.1 q h1 h2, fun q hq => by
    rcases List.mem_append.mp hq with h | h
    · exact hS.2.2 q h
    · exact hA _ (hL q h)⟩
  obtain ⟨t2, a1, b1⟩ := kk T'.heap (locs ++ L) ls (by rw [e1]; exact hP) hS1 hl T' rfl X'
  refine ⟨t2, st t2 ?_, b1⟩
  have e3 : (r.toList ++ rest).map (gd_tr ad) = (r.map (gd_tr ad)).toList ++ rest.map (gd_tr ad) := by cases r <;> simp
  rw [e3] at a1
  exact a1
theorem gd_warm {x : Cond} (hx : gd_nest x = true) {u U : State} (hW : u.WarmedH U.vm) (h : va_Nw x u) : va_Nw x U := by
  cases x <;> simp [gd_nest] at hx
  · exact va_Nw.warmM hW h
  · exact va_Nw.warmF hW h
theorem gd_blind {av : List Value} {sz : Nat} (hnw : ∀ x ∈ gd_nw, gd_nest x = true ∧ x.onTables = true) : FrameBlind (va_Pc av (gd_Pre D tC ad n sz w)) := by
  intro a U g mk q
  obtain ⟨q0, q1, qP, qK, qN⟩ := q
  exact ⟨q0, q1, qP, va_K.moved (u := U) (U := U.calling g mk a) (Vm.Alike.refl U.vm) qK, fun x hx => va_Nw.same (u := U) (U := U.calling g mk a) (hnw x hx).2 rfl (qN x hx)⟩
theorem gd_pre {H : Heap} (E : gd_E p s m args c cc nL own D tC ad A n) (hnw : ∀ x ∈ gd_nw, gd_nest x = true ∧ x.onTables = true) (hP : va_P D gd_cl (gd_wl tC ad n w) H) {av : List Value} : ∀ U : State, U.heap = H → s.WarmedH U.vm → va_Pc (av.map (gd_tr ad)) (gd_Pre D tC ad n H.size w) (av.map (gd_tr ad)).toArray U := by
  intro U hU hW
  exact ⟨rfl, by rw [hU], by rw [hU]; exact hP, va_K.moved hW.alike E.2.1, fun x hx => gd_warm (hnw x hx).1 hW (E.2.2.2.2 x hx)⟩
theorem gd_gin {y : MethodName} {bytes : ByteArray} {maxL : Nat} {ret : Option FieldType} (hg : GoodIn gd_all gd_all) (hc : Cond.code y bytes maxL ret ∈ gd_all) : GoodIn gd_all (.code y bytes maxL ret :: gd_all) := by
  intro w hw
  rcases List.mem_cons.mp hw with rfl | h
  · exact hg _ hc
  · exact hg _ h
end GC
