/-! Contracts with a predicate on the answer and on the world behind it. -/
def gd_Qp (D : va_G) (tC : FieldType → ClassId) (ad : Nat → Nat) (n sz : Nat) (post : Option Value → gd_W → Prop) : Array Value → State → Outcome → State → Prop := fun _ st oc t => ∃ (r : Option Value) (w' : gd_W), oc = .returned (r.map (gd_tr ad)) ∧ post r w' ∧ va_P D gd_cl (gd_wl tC ad n w') t.heap ∧ va_F (gd_A ad n sz) st t
def gd_Cp (l : Launch) (D : va_G) (tC : FieldType → ClassId) (ad : Nat → Nat) (n fr lo : Nat) (y : MethodName) (cc : ByteArray) (nL : Nat) (ret : Option FieldType) (av : List Value) (w : gd_W) (post : Option Value → gd_W → Prop) : Prop :=
  ∀ sz, Met l y (.code y cc nL ret :: gd_all) (gd_rm fr lo) (va_Pc (av.map (gd_tr ad)) (gd_Pre D tC ad n sz w)) (gd_Qp D tC ad n sz post) 0 0 (gd_A ad n sz)
theorem gd_Cp_of {l : Launch} {D : va_G} {tC : FieldType → ClassId} {ad : Nat → Nat} {n fr lo : Nat} {y : MethodName} {cc : ByteArray} {nL : Nat} {ret : Option FieldType} {av : List Value} {w : gd_W} {post : Option Value → gd_W → Prop} (hy : plainName y.cls = true) (hinj : ∀ i j, ad i = ad j → i = j) (hn : (lg_sl av).length ≤ nL)
    (body : ∀ (p : Program) (e : Env) (s : State) (m : MethodId) (args : Array Value) (below : List Frame) (meth : Method) (c : Code), gd_E p s m args c cc nL y.cls D tC ad (gd_A ad n s.heap.size) n → meth.sig.returnType = ret → meth.locks = false →
      gd_G p l e (gd_rm fr lo) s m args below meth c D tC ad (gd_A ad n s.heap.size) n nL 0 0 (MQ below (gd_Qp D tC ad n s.heap.size post) args s 0 0 (gd_A ad n s.heap.size)) 0 (lv_args 0 av) [] w) : gd_Cp l D tC ad n fr lo y cc nL ret av w post := by
  intro sz
  refine Met.ofW (cc := cc) (maxL := nL) (ret := ret) hy rfl ?_
  intro p e s m args below meth c s₁ B hml hv
  obtain ⟨rfl, hsz, hP, hK, hN⟩ := hv
  have hts := atoms_spec (ws := .code y cc nL ret :: gd_all) B.pre
  subst hsz
  have E : gd_E p s m (av.map (gd_tr ad)).toArray c cc nL y.cls D tC ad (gd_A ad n s.heap.size) n := ⟨⟨B.exec, B.bytes, hml, findClass_of_methodNamed B.named, fun w hw => hts w (List.mem_cons_of_mem _ hw)⟩, hK, fun w => gd_DD hinj (fun k hk => Or.inl ⟨k, hk, rfl⟩) w, hinj, hN⟩
  have hl := lv_entry (av.map (gd_tr ad)) (n := nL) (by rw [gd_sl_len]; exact hn)
  rw [lg_entry_eq]
  rw [gd_largs] at hl
  exact body p e s m _ below meth c E B.returns B.notSynchronized s.heap [] _ hP va_S.rf hl
section GP
variable {p : Program} {l : Launch} {e : Env} {R : Room} {s : State} {m : MethodId} {args : Array Value} {below : List Frame} {meth : Method} {c : Code} {D : va_G} {tC : FieldType → ClassId} {ad : Nat → Nat} {A : Nat → Prop} {n nL cells slots : Nat} {Q : State → Prop} {pc : Nat} {lv : List (Nat × Value)} {st : List Value} {w : gd_W} {cc : ByteArray} {own : String} {post : Option Value → gd_W → Prop}
theorem gd_iretp (E : gd_E p s m args c cc nL own D tC ad (gd_A ad n s.heap.size) n) (hr : meth.sig.returnType = some .int) (hlk : meth.locks = false) (hd : decode cc pc = .ok (.ireturn, 1)) {v : Int32} (hp : post (some (.int v)) w) : gd_G p l e R s m args below meth c D tC ad (gd_A ad n s.heap.size) n nL cells slots (MQ below (gd_Qp D tC ad n s.heap.size post) args s cells slots (gd_A ad n s.heap.size)) pc lv [.int v] w :=
  fun H locs ls hP hS hl => W.iret E.1.1 E.1.2.1 hr (fun t ht _ => ⟨some (.int v), w, rfl, hp, by rw [ht]; exact hP, hS.F ht⟩) hS.2.2 hd hlk
theorem gd_zretp (E : gd_E p s m args c cc nL own D tC ad (gd_A ad n s.heap.size) n) (hr : meth.sig.returnType = some .boolean) (hlk : meth.locks = false) (hd : decode cc pc = .ok (.ireturn, 1)) {v : Int32} (hv : v = 0 ∨ v = 1) (hp : post (some (.int v)) w) : gd_G p l e R s m args below meth c D tC ad (gd_A ad n s.heap.size) n nL cells slots (MQ below (gd_Qp D tC ad n s.heap.size post) args s cells slots (gd_A ad n s.heap.size)) pc lv [.int v] w :=
  fun H locs ls hP hS hl => W.zret E.1.1 E.1.2.1 hr (by rcases hv with rfl | rfl <;> rfl) (fun t ht _ => ⟨some (.int v), w, rfl, hp, by rw [ht]; exact hP, hS.F ht⟩) hS.2.2 hd hlk
theorem gd_lretp (E : gd_E p s m args c cc nL own D tC ad (gd_A ad n s.heap.size) n) (hr : meth.sig.returnType = some .long) (hlk : meth.locks = false) (hd : decode cc pc = .ok (.lreturn, 1)) {v : Int64} (hp : post (some (.long v)) w) : gd_G p l e R s m args below meth c D tC ad (gd_A ad n s.heap.size) n nL cells slots (MQ below (gd_Qp D tC ad n s.heap.size post) args s cells slots (gd_A ad n s.heap.size)) pc lv [.long v] w :=
  fun H locs ls hP hS hl => W.lret E.1.1 E.1.2.1 hr (fun t ht _ => ⟨some (.long v), w, rfl, hp, by rw [ht]; exact hP, hS.F ht⟩) hS.2.2 hd hlk
theorem gd_vretp (E : gd_E p s m args c cc nL own D tC ad (gd_A ad n s.heap.size) n) (hr : meth.sig.returnType = none) (hlk : meth.locks = false) (hd : decode cc pc = .ok (.return_, 1)) (hp : post none w) : gd_G p l e R s m args below meth c D tC ad (gd_A ad n s.heap.size) n nL cells slots (MQ below (gd_Qp D tC ad n s.heap.size post) args s cells slots (gd_A ad n s.heap.size)) pc lv [] w :=
  fun H locs ls hP hS hl => W.vret E.1.1 E.1.2.1 hr (fun t ht _ => ⟨none, w, rfl, hp, by rw [ht]; exact hP, hS.F ht⟩) hS.2.2 hd hlk
theorem gd_aretp (E : gd_E p s m args c cc nL own D tC ad (gd_A ad n s.heap.size) n) {C : String} (hr : meth.sig.returnType = some (.object C)) (hlk : meth.locks = false) (hd : decode cc pc = .ok (.areturn, 1)) {v : Value} (hv : v = .null ∨ ∃ a, v = .ref a) (hp : post (some v) w) : gd_G p l e R s m args below meth c D tC ad (gd_A ad n s.heap.size) n nL cells slots (MQ below (gd_Qp D tC ad n s.heap.size post) args s cells slots (gd_A ad n s.heap.size)) pc lv [v] w :=
  fun H locs ls hP hS hl => W.aret E.1.1 E.1.2.1 hr (Or.inl ⟨C, rfl⟩) (by rcases hv with rfl | ⟨a, rfl⟩; exact Or.inl rfl; exact Or.inr ⟨_, rfl⟩) (fun t ht _ => ⟨some v, w, rfl, hp, by rw [ht]; exact hP, hS.F ht⟩) hS.2.2 hd hlk
theorem gd_backp {sz : Nat} {a : Array Value} {H : Heap} {locs : List Loc} {ls : Array Slot} {st0 rest : List Value} (hr : va_Run p l e R s m args below meth c H locs cells slots 0 0 (F0 m pc ls st0) (rest.map (gd_tr ad)) (gd_Qp D tC ad n sz post a) (gd_A ad n sz)) (hsz : H.size = sz) (hA : ∀ q, gd_A ad n sz q → A q) (hS : va_S A s.heap H locs) (hl : lv_has ls nL (gd_lt ad lv))
    (kk : ∀ (r : Option Value) (w' : gd_W), post r w' → gd_G p l e R s m args below meth c D tC ad A n nL cells slots Q (pc + 3) lv (r.toList ++ rest) w') : W p l e R s m args below meth c H locs cells slots Q (F0 m pc ls st0) := by
  intro T hT X
  obtain ⟨v, st₀, t, T', L, h0, X', hL, e1, e2, ⟨r, w', hv, hp, hP, hz, hk⟩, st⟩ := hr T hT X
  have hv : v = r.map (gd_tr ad) := Outcome.returned.inj hv
  subst hv
  rw [h0] at hz hk
  have hS1 : va_S A s.heap T'.heap (locs ++ L) := ⟨Nat.le_trans hS.1 (by rw [e1]; exact hz), fun q h1 h2 => by rw [e1, hk q (Nat.lt_of_lt_of_le h1 hS.1) (fun z => h2 (hA q z))]; exact hS.2.1 q h1 h2, fun q hq => by
    rcases List.mem_append.mp hq with h | h
    · exact hS.2.2 q h
    · exact hA _ (hL q h)⟩
  obtain ⟨t2, a1, b1⟩ := kk r w' hp T'.heap (locs ++ L) ls (by rw [e1]; exact hP) hS1 hl T' rfl X'
  refine ⟨t2, st t2 ?_, b1⟩
  have e3 : (r.toList ++ rest).map (gd_tr ad) = (r.map (gd_tr ad)).toList ++ rest.map (gd_tr ad) := by cases r <;> simp
  rw [e3] at a1
  exact a1
set_option maxHeartbeats 1000000 in
theorem gd_cVp (E : gd_E p s m args c cc nL own D tC ad A n) (hA : ∀ q, gd_A ad n s.heap.size q → A q) {y : MethodName} {bytes : ByteArray} {maxL fr lo k idx ci : Nat} {ret : Option FieldType} {av rest : List Value} (hc : gd_Cp l D tC ad n fr lo y bytes maxL ret (.ref k :: av) w post) (hd : decode cc pc = .ok (.invokevirtual idx, 3)) (hl : gd_ml own idx y)
    (hcv : gd_CV y bytes maxL ret ci av.length) (hk : k < n) (hs : gd_sh k = .inl ci) (hR : fr + 1 ≤ R.frames ∧ 8 + (maxL + 11) + lo ≤ R.locals) (hcs : cells ≤ R.cells ∧ slots ≤ R.slots) (hst : st = av.reverse ++ .ref k :: rest) (hsum : (rest.map fun v => v.category).sum ≤ 8)
    (kk : ∀ (r : Option Value) (w' : gd_W), post r w' → gd_G p l e R s m args below meth c D tC ad A n nL cells slots Q (pc + 3) lv (r.toList ++ rest) w') : gd_G p l e R s m args below meth c D tC ad A n nL cells slots Q pc lv st w := by
  intro H locs ls hP hS hv
  have hst' : st.map (gd_tr ad) = (av.map (gd_tr ad)).reverse ++ .ref (ad k) :: rest.map (gd_tr ad) := by rw [hst]; simp [gd_tr]
  have he : (gd_wl tC ad n w)[k]? = some (ad k, .inr (ci, gd_fs ad w k (gd_ft ci))) := by rw [gd_wl_at hk, hs]; rfl
  have hts := E.1.2.2.2.2
  obtain ⟨⟨h1, h2, h3, h4⟩, ⟨T, N, hcl⟩, hy⟩ := hcv
  have hp : PreV s H y.cls (ad k) (va_Pc ((Value.ref k :: av).map (gd_tr ad)) (gd_Pre D tC ad n H.size w)) (av.map (gd_tr ad)) := ⟨gd_blind gd_nwk, va_recv E.2.1 hP hcl he, gd_pre E gd_nwk hP (av := .ref k :: av)⟩
  have hg := gd_gin gd_good h4
  rcases hl with h0 | ⟨host, h0⟩
  · have cw : CallW R s args own y.cls idx y bytes maxL ret (.code y bytes maxL ret :: gd_all) (gd_rm fr lo) 0 0 av.length := ⟨callB_of av.length hts hg rfl rfl rfl (hts _ h3) (hts _ h0) hy hR, hts _ h1, hts _ h2⟩
    rw [hst']
    exact gd_backp (va_runV E.1 (hc H.size) cw hp rfl (by simp) hv.1 rfl (lv_room (gd_sum hsum)) hd hcs) rfl (gd_AA hA hS.1) hS hv kk
  · have cw : va_CN R s args own idx y host bytes maxL ret (.code y bytes maxL ret :: gd_all) (gd_rm fr lo) 0 0 av.length ∧ (Cond.instanceMethod y).before args s = true ∧ (Cond.selects y.cls y y).before args s = true := ⟨va_cnB av.length hts hg rfl rfl rfl (E.2.2.2.2 _ h0) (hts _ h3) hy hR, hts _ h1, hts _ h2⟩
    rw [hst']
    exact gd_backp (va_runVN E.1 (hc H.size) cw hp rfl (by simp) hv.1 rfl (lv_room (gd_sum hsum)) hd hcs) rfl (gd_AA hA hS.1) hS hv kk
set_option maxHeartbeats 1000000 in
theorem gd_cSp (E : gd_E p s m args c cc nL own D tC ad A n) (hA : ∀ q, gd_A ad n s.heap.size q → A q) {y : MethodName} {bytes : ByteArray} {maxL fr lo idx : Nat} {ret : Option FieldType} {av rest : List Value} (hc : gd_Cp l D tC ad n fr lo y bytes maxL ret av w post) (hd : decode cc pc = .ok (.invokestatic idx, 3)) (hl : gd_ml own idx y)
    (hcv : gd_CS y bytes maxL ret av.length) (hR : fr + 1 ≤ R.frames ∧ 8 + (maxL + 11) + lo ≤ R.locals) (hcs : cells ≤ R.cells ∧ slots ≤ R.slots) (hst : st = av.reverse ++ rest) (hsum : (rest.map fun v => v.category).sum ≤ 8)
    (kk : ∀ (r : Option Value) (w' : gd_W), post r w' → gd_G p l e R s m args below meth c D tC ad A n nL cells slots Q (pc + 3) lv (r.toList ++ rest) w') : gd_G p l e R s m args below meth c D tC ad A n nL cells slots Q pc lv st w := by
  intro H locs ls hP hS hv
  have hst' : st.map (gd_tr ad) = (av.map (gd_tr ad)).reverse ++ rest.map (gd_tr ad) := by rw [hst]; simp
  have hts := E.1.2.2.2.2
  obtain ⟨⟨h1, h3, h4⟩, hy⟩ := hcv
  have hp : PreS s H (va_Pc (av.map (gd_tr ad)) (gd_Pre D tC ad n H.size w)) (av.map (gd_tr ad)) := ⟨gd_blind gd_nwk, gd_pre E gd_nwk hP (av := av)⟩
  have hg := gd_gin gd_good h4
  rcases hl with h0 | ⟨host, h0⟩
  · have cw : CallB R s args own idx y bytes maxL ret (.code y bytes maxL ret :: gd_all) (gd_rm fr lo) 0 0 av.length ∧ (Cond.static y).before args s = true := ⟨callB_of av.length hts hg rfl rfl rfl (hts _ h3) (hts _ h0) hy hR, hts _ h1⟩
    rw [hst']
    exact gd_backp (va_runS E.1 (hc H.size) cw hp rfl (by simp) hv.1 rfl (lv_room (gd_sum hsum)) hd hcs) rfl (gd_AA hA hS.1) hS hv kk
  · have cw : va_CN R s args own idx y host bytes maxL ret (.code y bytes maxL ret :: gd_all) (gd_rm fr lo) 0 0 av.length ∧ (Cond.static y).before args s = true ∧ True := ⟨va_cnB av.length hts hg rfl rfl rfl (E.2.2.2.2 _ h0) (hts _ h3) hy hR, hts _ h1, trivial⟩
    rw [hst']
    exact gd_backp (va_runSN E.1 (hc H.size) cw hp rfl (by simp) hv.1 rfl (lv_room (gd_sum hsum)) hd hcs) rfl (gd_AA hA hS.1) hS hv kk
end GP
/-- a contract's answer and world by a predicate -/
theorem gd_Ct_p {l : Launch} {D : va_G} {tC : FieldType → ClassId} {ad : Nat → Nat} {n fr lo : Nat} {y : MethodName} {cc : ByteArray} {nL : Nat} {ret : Option FieldType} {av : List Value} {w w' : gd_W} {r : Option Value} {post : Option Value → gd_W → Prop} (h : gd_Ct l D tC ad n fr lo y cc nL ret av w r w') (hp : post r w') : gd_Cp l D tC ad n fr lo y cc nL ret av w post := by
  intro sz p e ha hc hk s m args below hf happ hpre hK
  obtain ⟨t, o, h1, h2, h3, ⟨⟨q1, q2, q3⟩, h5⟩⟩ := h sz p e ha hc hk s m args below hf happ hpre hK
  exact ⟨t, o, h1, h2, h3, ⟨r, w', q1, hp, q2, q3⟩, h5⟩
