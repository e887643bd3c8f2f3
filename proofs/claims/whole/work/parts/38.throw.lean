/-! Methods that return or throw: what they need of the state, their contracts, their ends. -/
def gd_xt (w : Cond) : Bool := match w with
  | .castable .. => true
  | .declares .. => true
  | _ => false
def gd_xw : List Cond := lw_tbl.filter gd_xt
theorem gd_xt_on {w : Cond} (h : gd_xt w = true) : w.onTables = true := by
  cases w <;> simp [gd_xt] at h <;> rfl
theorem gd_xt_warm {w : Cond} (hx : gd_xt w = true) {u U : State} (hW : u.WarmedH U.vm) (h : va_Nw w u) : va_Nw w U := by
  cases w <;> simp [gd_xt] at hx
  · exact va_Nw.warmD hW h
  · exact va_Nw.warmC hW h
/-- which exceptions no other one's handler takes -/
def gd_ncs : List (String × String) := [("java/util/NoSuchElementException", "java/lang/IllegalArgumentException"), ("java/lang/IllegalStateException", "java/lang/IllegalArgumentException"), ("java/lang/IllegalStateException", "java/util/NoSuchElementException"), ("java/util/NoSuchElementException", "java/lang/IllegalStateException")]
/-- what a throw needs of the state -/
def gd_XF (A : Nat → Prop) (U : State) (H : Heap) : Prop := (∀ w ∈ gd_xw, va_Nw w U) ∧ (∀ k tx, Cond.stringRef R_G k tx ∈ tables_1 → ∃ a, vk_R R_G k tx a U) ∧ vx_Zq Bundle.tN "UNASSIGNED_STACK" Bundle.steD A U H ∧ vx_Zq Bundle.tN "SUPPRESSED_SENTINEL" Bundle.listD A U H ∧ ∀ q ∈ gd_ncs, va_Nc q.1 q.2 U
theorem gd_XF.go {A A1 : Nat → Prop} {u U : State} {H H1 : Heap} (hW : u.WarmedH U.vm) (hq : ∀ a : Nat, a < H.size → ¬ A a → H1[a]? = H[a]?) (hA : ∀ q, A1 q → A q) (h : gd_XF A u H) : gd_XF A1 U H1 :=
  ⟨fun w hw => gd_xt_warm (List.mem_filter.mp hw).2 hW (h.1 w hw), fun k tx hk => (h.2.1 k tx hk).elim fun a ha => ⟨a, vk_R.warm hW ha⟩, ((vx_Zq.moved hW.alike h.2.2.1).kept hq).narrow hA, ((vx_Zq.moved hW.alike h.2.2.2.1).kept hq).narrow hA, fun q hq => va_Nc.moved hW.alike (h.2.2.2.2 q hq)⟩
theorem gd_XF.same {A : Nat → Prop} {u U : State} {H : Heap} (hv : u.vm = U.vm) (h : gd_XF A u H) : gd_XF A U H :=
  have ha : u.vm.Alike U.vm := by rw [hv]; exact Vm.Alike.refl _
  ⟨fun w hw => va_Nw.same (gd_xt_on (List.mem_filter.mp hw).2) hv (h.1 w hw), fun k tx hk => (h.2.1 k tx hk).elim fun a ha => ⟨a, vk_R.same hv.symm ha⟩, vx_Zq.moved ha h.2.2.1, vx_Zq.moved ha h.2.2.2.1, fun q hq => va_Nc.moved ha (h.2.2.2.2 q hq)⟩
def gd_rx (fr lo : Nat) : Room := { frames := fr, cells := 1, slots := 6, locals := lo }
def gd_PreX (D : va_G) (tC : FieldType → ClassId) (ad : Nat → Nat) (n sz : Nat) (w : gd_W) (U : State) : Prop := gd_Pre D tC ad n sz w U ∧ gd_XF (gd_A ad n sz) U U.heap
def gd_XC (D : va_G) (tC : FieldType → ClassId) (ad : Nat → Nat) (n sz : Nat) (px : String → gd_W → Prop) : String → State → State → Prop := fun E st t => ∃ w', px E w' ∧ va_P D gd_cl (gd_wl tC ad n w') t.heap ∧ va_F (gd_A ad n sz) st t
/-- a contract of a method that returns, or throws -/
def gd_Cx (l : Launch) (D : va_G) (tC : FieldType → ClassId) (ad : Nat → Nat) (n fr lo : Nat) (y : MethodName) (cc : ByteArray) (nL : Nat) (ret : Option FieldType) (av : List Value) (w : gd_W) (post : Option Value → gd_W → Prop) (px : String → gd_W → Prop) : Prop :=
  ∀ sz, vx_Met l y (.code y cc nL ret :: gd_all) (gd_rx fr lo) (va_Pc (av.map (gd_tr ad)) (gd_PreX D tC ad n sz w)) (gd_Qp D tC ad n sz post) (gd_XC D tC ad n sz px) 1 6 (gd_A ad n sz)
theorem gd_Cx_of {l : Launch} {D : va_G} {tC : FieldType → ClassId} {ad : Nat → Nat} {n fr lo : Nat} {y : MethodName} {cc : ByteArray} {nL : Nat} {ret : Option FieldType} {av : List Value} {w : gd_W} {post : Option Value → gd_W → Prop} {px : String → gd_W → Prop} (hy : plainName y.cls = true) (hinj : ∀ i j, ad i = ad j → i = j) (hn : (lg_sl av).length ≤ nL)
    (body : ∀ (p : Program) (e : Env) (s : State) (m : MethodId) (args : Array Value) (below : List Frame) (meth : Method) (c : Code), gd_E p s m args c cc nL y.cls D tC ad (gd_A ad n s.heap.size) n → gd_XF (gd_A ad n s.heap.size) s s.heap → (∀ x ∈ c.exceptionTable.toList, False) → meth.sig.returnType = ret → meth.locks = false →
      gd_G p l e (gd_rx fr lo) s m args below meth c D tC ad (gd_A ad n s.heap.size) n nL 0 0 (vx_MQ below (gd_Qp D tC ad n s.heap.size post) (gd_XC D tC ad n s.heap.size px) args s 1 6 (gd_A ad n s.heap.size)) 0 (lv_args 0 av) [] w) : gd_Cx l D tC ad n fr lo y cc nL ret av w post px := by
  intro sz
  refine vx_ofW (cc := cc) (maxL := nL) (ret := ret) hy rfl ?_
  intro p e s m args below meth c s₁ B hml ht hv
  obtain ⟨rfl, ⟨hsz, hP, hK, hN⟩, hX⟩ := hv
  have hts := atoms_spec (ws := .code y cc nL ret :: gd_all) B.pre
  subst hsz
  have E : gd_E p s m (av.map (gd_tr ad)).toArray c cc nL y.cls D tC ad (gd_A ad n s.heap.size) n := ⟨⟨B.exec, B.bytes, hml, findClass_of_methodNamed B.named, fun w hw => hts w (List.mem_cons_of_mem _ hw)⟩, hK, fun w => gd_DD hinj (fun k hk => Or.inl ⟨k, hk, rfl⟩) w, hinj, hN⟩
  have hl := lv_entry (av.map (gd_tr ad)) (n := nL) (by rw [gd_sl_len]; exact hn)
  rw [lg_entry_eq]
  rw [gd_largs] at hl
  exact body p e s m _ below meth c E hX ht B.returns B.notSynchronized s.heap [] _ hP va_S.rf hl
section GT
variable {p : Program} {l : Launch} {e : Env} {R : Room} {s : State} {m : MethodId} {args : Array Value} {below : List Frame} {meth : Method} {c : Code} {D : va_G} {tC : FieldType → ClassId} {ad : Nat → Nat} {A : Nat → Prop} {n nL cells slots : Nat} {Q : State → Prop} {pc : Nat} {lv : List (Nat × Value)} {st : List Value} {w : gd_W} {cc : ByteArray} {own : String} {post : Option Value → gd_W → Prop} {px : String → gd_W → Prop}
/-- a return in a method that may throw -/
theorem gd_xr (k : gd_G p l e R s m args below meth c D tC ad A n nL 1 6 (MQ below (gd_Qp D tC ad n s.heap.size post) args s 1 6 A) pc lv st w) {XC : String → State → State → Prop} : gd_G p l e R s m args below meth c D tC ad A n nL 0 0 (vx_MQ below (gd_Qp D tC ad n s.heap.size post) XC args s 1 6 A) pc lv st w :=
  fun H locs ls hP hS hl => W.widen (by decide) (by decide) (vx_ret (k H locs ls hP hS hl))
/-- the words of a throw of one class -/
def gd_xa (own : String) (ik ic : Nat) (cls : String) (names : List String) : Prop := (∀ w ∈ (vx_atS own ic cls names).filter goodWord, w ∈ gd_all) ∧ (∀ w ∈ (vx_atS own ic cls names).filter (fun w => !goodWord w), w ∈ gd_xw) ∧ (∀ w ∈ Cond.classLink own ik cls :: Cond.initialized cls :: vx_atS own ic cls names, vx_ot w = true) ∧ Cond.classLink own ik cls ∈ gd_all ∧ Cond.initialized cls ∈ gd_all ∧ Bundle.fit cls = true ∧ ∀ x ∈ names, Bundle.fit x = true
theorem gd_thr (E : gd_E p s m args c cc nL R_G D tC ad (gd_A ad n s.heap.size) n) (X : gd_XF (gd_A ad n s.heap.size) s s.heap) (ht : ∀ x ∈ c.exceptionTable.toList, False) (hlk : meth.locks = false) (hls : l.stackTraces = false) {cls text : String} {names : List String} {ik is ic : Nat} (ha : gd_xa R_G ik ic cls names) (hst : Cond.stringRef R_G is text ∈ tables_1)
    (d0 : decode cc pc = .ok (.new ik, 3)) (d3 : decode cc (pc + 3) = .ok (.dup, 1)) (d4 : decode cc (pc + 4) = .ok (.ldc is, 2)) (d6 : decode cc (pc + 6) = .ok (.invokespecial ic, 3)) (d9 : decode cc (pc + 9) = .ok (.athrow, 1))
    (hR : names.length + 3 < R.frames ∧ 13 * (names.length + 1) + 43 ≤ R.locals ∧ 1 ≤ R.cells ∧ 6 ≤ R.slots) (hpx : px cls w) :
    gd_G p l e R s m args below meth c D tC ad (gd_A ad n s.heap.size) n nL 0 0 (vx_MQ below (gd_Qp D tC ad n s.heap.size post) (gd_XC D tC ad n s.heap.size px) args s 1 6 (gd_A ad n s.heap.size)) pc lv [] w := by
  intro H locs ls hP hS hl
  obtain ⟨⟨hx, hb, hml, hown, hts⟩, hK, hDD, hinj, hN⟩ := E
  obtain ⟨a1, a2, a3, a4, a5, a6, a7⟩ := ha
  obtain ⟨sa, hsa⟩ := X.2.1 is text hst
  exact vx_throwS (rest := []) hx hb hls hown a6 a7 (hts _ a4) (hts _ a5) hsa (vx_hat (fun w hw => hts w (a1 w hw)) a2 (fun w hw => va_Nw.use (gd_xt_on (List.mem_filter.mp hw).2) (X.1 w hw))) a3 X.2.2.1 X.2.2.2.1 hS (by rw [hml]; exact hl.1) d0 d3 d4 d6 d9
    (fun x hx => (ht x hx).elim) hR.1 (by simpa using hR.2.1) (by omega) (by omega) hlk
    (fun t _ hsz hk => ⟨w, hpx, hP.kept (fun k q hq => hk q.1 (vx_lt hP hq)), Nat.le_trans hS.1 hsz, fun q h1 h2 => by rw [hk q (Nat.lt_of_lt_of_le h1 hS.1)]; exact hS.2.1 q h1 h2⟩) (fun z hz => hS.2.2 z hz) (by decide) (by decide)
end GT
