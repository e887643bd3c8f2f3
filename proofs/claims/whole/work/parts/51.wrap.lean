/-! The law's wrappers: a call that may throw, and its handlers. -/
def gd_Cw (l : Launch) (D : va_G) (tC : FieldType → ClassId) (ad : Nat → Nat) (n fr lo : Nat) (y : MethodName) (cc : ByteArray) (nL : Nat) (hh : List (Nat × Nat × Nat × Nat)) (av : List Value) (w : gd_W) (post : Option Value → gd_W → Prop) : Prop :=
  ∀ sz, vx_Met l y (.codeWith y cc nL (some .int) hh :: gd_all) (gd_rx fr lo) (va_Pc (av.map (gd_tr ad)) (gd_PreX D tC ad n sz w)) (gd_Qp D tC ad n sz post) (fun _ _ _ => False) 1 6 (gd_A ad n sz)
theorem gd_Cw_of {l : Launch} {D : va_G} {tC : FieldType → ClassId} {ad : Nat → Nat} {n fr lo : Nat} {y : MethodName} {cc : ByteArray} {nL : Nat} {hh : List (Nat × Nat × Nat × Nat)} {av : List Value} {w : gd_W} {post : Option Value → gd_W → Prop} (hy : plainName y.cls = true) (hinj : ∀ i j, ad i = ad j → i = j) (hn : (lg_sl av).length ≤ nL)
    (body : ∀ (p : Program) (e : Env) (s : State) (m : MethodId) (args : Array Value) (below : List Frame) (meth : Method) (c : Code), gd_E p s m args c cc nL y.cls D tC ad (gd_A ad n s.heap.size) n → gd_XF (gd_A ad n s.heap.size) s s.heap → c.exceptionTable.toList = tableOf hh → meth.sig.returnType = some .int → meth.locks = false →
      gd_G p l e (gd_rx fr lo) s m args below meth c D tC ad (gd_A ad n s.heap.size) n nL 0 0 (vx_MQ below (gd_Qp D tC ad n s.heap.size post) (fun _ _ _ => False) args s 1 6 (gd_A ad n s.heap.size)) 0 (lv_args 0 av) [] w) : gd_Cw l D tC ad n fr lo y cc nL hh av w post := by
  intro sz
  refine vx_ofWH (cc := cc) (maxL := nL) (ret := some .int) (hh := hh) hy rfl ?_
  intro p e s m args below meth c s₁ B hml hv
  obtain ⟨rfl, ⟨hsz, hP, hK, hN⟩, hX⟩ := hv
  have hts := atoms_spec (ws := .codeWith y cc nL (some .int) hh :: gd_all) B.pre
  subst hsz
  have E : gd_E p s m (av.map (gd_tr ad)).toArray c cc nL y.cls D tC ad (gd_A ad n s.heap.size) n := ⟨⟨B.exec, B.bytes, hml, findClass_of_methodNamed B.named, fun w hw => hts w (List.mem_cons_of_mem _ hw)⟩, hK, fun w => gd_DD hinj (fun k hk => Or.inl ⟨k, hk, rfl⟩) w, hinj, hN⟩
  have hl := lv_entry (av.map (gd_tr ad)) (n := nL) (by rw [gd_sl_len]; exact hn)
  rw [lg_entry_eq]
  rw [gd_largs] at hl
  exact body p e s m _ below meth c E hX (vx_table (x := y) B (hts _ List.mem_cons_self)) B.returns B.notSynchronized s.heap [] _ hP va_S.rf hl
section GW
variable {p : Program} {l : Launch} {e : Env} {R : Room} {s : State} {m : MethodId} {args : Array Value} {below : List Frame} {meth : Method} {c : Code} {D : va_G} {tC : FieldType → ClassId} {ad : Nat → Nat} {A : Nat → Prop} {n nL cells slots : Nat} {Q : State → Prop} {pc : Nat} {lv : List (Nat × Value)} {st : List Value} {w : gd_W} {cc : ByteArray} {own : String} {post : Option Value → gd_W → Prop} {px : String → gd_W → Prop}
theorem gd_blindX {av : List Value} {sz : Nat} : FrameBlind (va_Pc av (gd_PreX D tC ad n sz w)) := by
  intro a U g mk q
  obtain ⟨q0, q1, qX⟩ := q
  exact ⟨q0, (gd_blind gd_nwk a U g mk ⟨q0, q1⟩).2, gd_XF.same (u := U) (U := U.calling g mk a) rfl qX⟩
theorem gd_preX {H : Heap} {locs : List Loc} (E : gd_E p s m args c cc nL own D tC ad A n) (X : gd_XF A s s.heap) (hP : va_P D gd_cl (gd_wl tC ad n w) H) (hS : va_S A s.heap H locs) (hA : ∀ q, gd_A ad n H.size q → A q) {av : List Value} : ∀ U : State, U.heap = H → s.WarmedH U.vm → va_Pc (av.map (gd_tr ad)) (gd_PreX D tC ad n H.size w) (av.map (gd_tr ad)).toArray U := by
  intro U hU hW
  obtain ⟨q0, q⟩ := gd_pre E gd_nwk hP (av := av) U hU hW
  exact ⟨q0, q, gd_XF.go hW (fun a h1 h2 => by rw [hU]; exact hS.2.1 a h1 h2) hA X⟩
set_option maxHeartbeats 1000000 in
/-- a call of a method of the world's objects that may throw -/
theorem gd_cVx (E : gd_E p s m args c cc nL own D tC ad A n) (X : gd_XF A s s.heap) (hA : ∀ q, gd_A ad n s.heap.size q → A q) {y : MethodName} {bytes : ByteArray} {maxL fr lo k idx ci : Nat} {ret : Option FieldType} {av rest : List Value} (hc : gd_Cx l D tC ad n fr lo y bytes maxL ret (.ref k :: av) w post px) (hd : decode cc pc = .ok (.invokevirtual idx, 3)) (hl : gd_ml own idx y)
    (hcv : gd_CV y bytes maxL ret ci av.length) (hk : k < n) (hs : gd_sh k = .inl ci) (hR : fr + 1 ≤ R.frames ∧ 8 + (maxL + 11) + lo ≤ R.locals) (hcs : cells + 1 ≤ R.cells ∧ slots + 6 ≤ R.slots) (hst : st = av.reverse ++ .ref k :: rest) (hsum : (rest.map fun v => v.category).sum ≤ 8) (hlo : Cond.methodLink own idx y ∈ gd_all)
    (kk : ∀ (r : Option Value) (w' : gd_W), post r w' → gd_G p l e R s m args below meth c D tC ad A n nL (cells + 1) (slots + 6) Q (pc + 3) lv (r.toList ++ rest) w')
    (kx : ∀ (E0 : String) (w' : gd_W), px E0 w' → ∀ (H : Heap) (locs : List Loc) (ls : Array Slot) (q : Addr) (ce : Cell), va_P D gd_cl (gd_wl tC ad n w') H → va_S A s.heap H locs → lv_has ls nL (gd_lt ad lv) → H[q]? = some ce → ce.vm = .none → s.vm.findClass E0 = some ce.cls → vx_W p l e R s m args below meth c H locs (cells + 1) (slots + 6) Q (F0 m pc ls (rest.map (gd_tr ad))) q) :
    gd_G p l e R s m args below meth c D tC ad A n nL cells slots Q pc lv st w := by
  intro H locs ls hP hS hv
  have hst' : st.map (gd_tr ad) = (av.map (gd_tr ad)).reverse ++ .ref (ad k) :: rest.map (gd_tr ad) := by rw [hst]; simp [gd_tr]
  have he : (gd_wl tC ad n w)[k]? = some (ad k, .inr (ci, gd_fs ad w k (gd_ft ci))) := by rw [gd_wl_at hk, hs]; rfl
  have hts := E.1.2.2.2.2
  obtain ⟨⟨h1, h2, h3, h4⟩, ⟨T0, N0, hcl0⟩, hy⟩ := hcv
  have hA2 := gd_AA hA hS.1
  have hp : PreV s H y.cls (ad k) (va_Pc ((Value.ref k :: av).map (gd_tr ad)) (gd_PreX D tC ad n H.size w)) (av.map (gd_tr ad)) := ⟨gd_blindX, va_recv E.2.1 hP hcl0 he, gd_preX E X hP hS hA2 (av := .ref k :: av)⟩
  have hg := gd_gin gd_good h4
  have cw : CallW R s args own y.cls idx y bytes maxL ret (.code y bytes maxL ret :: gd_all) (gd_rx fr lo) 1 6 av.length := ⟨callB_of av.length hts hg rfl rfl rfl (hts _ h3) (hts _ hlo) hy hR, hts _ h1, hts _ h2⟩
  rw [hst']
  have hr := vx_runV (p := p) (e := e) (below := below) (meth := meth) (locs := locs) (cells := cells) (slots := slots) (rest := rest.map (gd_tr ad)) (g := F0 m pc ls ((av.map (gd_tr ad)).reverse ++ .ref (ad k) :: rest.map (gd_tr ad))) E.1 (hc H.size) cw hp rfl (by simp) hv.1 rfl (lv_room (gd_sum hsum)) hd hcs
  intro T hT X1
  rcases hr T hT X1 with ⟨v, st₀, t, T', L, h0, X', hL, e1, e2, ⟨r, w', hv', hp', hP', hz, hkk⟩, stp⟩ | ⟨q, st₀, t, T', L, E0, ce, h0, X', hL, e1, e2, ⟨w', hpx, hP', hz, hkk⟩, hce, hcvm, hcl, stp⟩
  · have hv' : v = r.map (gd_tr ad) := Outcome.returned.inj hv'
    subst hv'
    rw [h0] at hz hkk
    have hS1 : va_S A s.heap T'.heap (locs ++ L) := ⟨Nat.le_trans hS.1 (by rw [e1]; exact hz), fun q h1 h2 => by rw [e1, hkk q (Nat.lt_of_lt_of_le h1 hS.1) (fun z => h2 (hA2 q z))]; exact hS.2.1 q h1 h2, fun q hq => by
      rcases List.mem_append.mp hq with h | h
      · exact hS.2.2 q h
      · exact hA2 _ (hL q h)⟩
    obtain ⟨t2, a1, b1⟩ := kk r w' hp' T'.heap (locs ++ L) ls (by rw [e1]; exact hP') hS1 hv T' rfl X'
    refine ⟨t2, stp t2 ?_, b1⟩
    have e3 : (r.toList ++ rest).map (gd_tr ad) = (r.map (gd_tr ad)).toList ++ rest.map (gd_tr ad) := by cases r <;> simp
    rw [e3] at a1
    exact a1
  · rw [h0] at hz hkk
    have hS1 : va_S A s.heap T'.heap (locs ++ L) := ⟨Nat.le_trans hS.1 (by rw [e1]; exact hz), fun q h1 h2 => by rw [e1, hkk q (Nat.lt_of_lt_of_le h1 hS.1) (fun z => h2 (hA2 q z))]; exact hS.2.1 q h1 h2, fun q hq => by
      rcases List.mem_append.mp hq with h | h
      · exact hS.2.2 q h
      · exact hA2 _ (hL q h)⟩
    obtain ⟨t2, a1, b1⟩ := kx E0 w' hpx T'.heap (locs ++ L) ls q ce (by rw [e1]; exact hP') hS1 hv (by rw [e1]; exact hce) hcvm hcl T' rfl X'
    exact ⟨t2, stp.trans a1, b1⟩
/-- a handler: the exception is put away, a number returned -/
def gd_hc (cc : ByteArray) (nL h : Nat) (v : Int32) : Prop := ∃ (n : Int), Int32.ofInt n = v ∧ ((∃ k : Fin 4, (k : Nat) < nL ∧ decode cc h = .ok (.astore_n k, 1) ∧ decode cc (h + 1) = .ok (.iconst n, 1) ∧ decode cc (h + 1 + 1) = .ok (.ireturn, 1)) ∨ (∃ k : Nat, k < nL ∧ decode cc h = .ok (.astore k, 2) ∧ decode cc (h + 2) = .ok (.iconst n, 1) ∧ decode cc (h + 2 + 1) = .ok (.ireturn, 1)))
theorem gd_hand (E : gd_E p s m args c cc nL own D tC ad (gd_A ad n s.heap.size) n) (hr : meth.sig.returnType = some .int) (hlk : meth.locks = false) {XC : String → State → State → Prop} {h : Nat} {v : Int32} (hh : gd_hc cc nL h v) (hp : post (some (.int v)) w) {H : Heap} {locs : List Loc} {ls : Array Slot} {q : Addr} {lv0 : List (Nat × Value)} (hP : va_P D gd_cl (gd_wl tC ad n w) H) (hS : va_S (gd_A ad n s.heap.size) s.heap H locs) (hl : lv_has ls nL lv0) :
    W p l e R s m args below meth c H locs 1 6 (vx_MQ below (gd_Qp D tC ad n s.heap.size post) XC args s 1 6 (gd_A ad n s.heap.size)) (F0 m h ls [.ref q]) := by
  obtain ⟨x, hx, ⟨k, hk, d0, d1, d2⟩ | ⟨k, hk, d0, d1, d2⟩⟩ := hh
  · refine lv_astore_n E.1.1 E.1.2.1 d0 rfl hl hk rfl (fun ls' hl' => ?_)
    refine lv_iconst E.1.1 E.1.2.1 d1 hx ?_
    exact vx_ret (W.iret E.1.1 E.1.2.1 hr (fun t ht _ => ⟨some (.int v), w, rfl, hp, by rw [ht]; exact hP, hS.F ht⟩) hS.2.2 d2 hlk)
  · refine lv_astore E.1.1 E.1.2.1 d0 hl hk rfl (fun ls' hl' => ?_)
    refine lv_iconst E.1.1 E.1.2.1 d1 hx ?_
    exact vx_ret (W.iret E.1.1 E.1.2.1 hr (fun t ht _ => ⟨some (.int v), w, rfl, hp, by rw [ht]; exact hP, hS.F ht⟩) hS.2.2 d2 hlk)
/-- an exception goes to its handler, past those before it -/
theorem gd_catch (E : gd_E p s m args c cc nL own D tC ad (gd_A ad n s.heap.size) n) (X : gd_XF (gd_A ad n s.heap.size) s s.heap) (hr : meth.sig.returnType = some .int) (hlk : meth.locks = false) {XC : String → State → State → Prop} {hh : List (Nat × Nat × Nat × Nat)} (ht : c.exceptionTable.toList = tableOf hh) {E0 : String} {v : Int32} {ls : Array Slot} {lv0 : List (Nat × Value)} {H : Heap} {locs : List Loc} {q : Addr} {ce : Cell} {rest : List Value}
    (pre : List ExceptionTableEntry) (x : ExceptionTableEntry) (suf : List ExceptionTableEntry) (hsp : tableOf hh = pre ++ x :: suf) (hpass : ∀ z ∈ pre, z.catchType ≠ 0 ∧ ∃ nm : String, Cond.classLink own z.catchType nm ∈ gd_all ∧ (E0, nm) ∈ gd_ncs) (hcov : covers x pc = true) (h0 : x.catchType ≠ 0) (hlink : Cond.classLink own x.catchType E0 ∈ gd_all) (hcast : Cond.castable E0 E0 ∈ gd_xw)
    (hc : gd_hc cc nL x.handlerPc v) (hp : post (some (.int v)) w) (hP : va_P D gd_cl (gd_wl tC ad n w) H) (hS : va_S (gd_A ad n s.heap.size) s.heap H locs) (hl : lv_has ls nL lv0) (hce : H[q]? = some ce) (hv : ce.vm = .none) (hcl : s.vm.findClass E0 = some ce.cls) :
    vx_W p l e R s m args below meth c H locs 1 6 (vx_MQ below (gd_Qp D tC ad n s.heap.size post) XC args s 1 6 (gd_A ad n s.heap.size)) (F0 m pc ls rest) q :=
  vx_catch E.1.2.2.2.1 pre x suf (ht.trans hsp) (fun z hz => by
    obtain ⟨z0, nm, h1, h2⟩ := hpass z hz
    exact Or.inr ⟨z0, nm, E.1.2.2.2.2 _ h1, X.2.2.2.2 (E0, nm) h2⟩) hcov h0 (E.1.2.2.2.2 _ hlink) (va_Nw.use (gd_xt_on (List.mem_filter.mp hcast).2) (X.1 _ hcast)) hce hv hcl (gd_hand E hr hlk hc hp hP hS hl)
end GW
/-! What a wrapper gives. -/
def gf_w (w w' : gd_W) : Prop := (∀ a, 27 ≤ a → a ≠ 44 → w'.1 a = w.1 a ∧ w'.2.1 a = w.2.1 a) ∧ ∀ a, a ≠ 3 → w'.2.2 a = w.2.2 a
theorem gf_c.w {w w' : gd_W} (h : gf_c w w') : gf_w w w' := ⟨fun a ha _ => h.1 a ha, h.2⟩
theorem gf_w.out {w w' : gd_W} (h : gf_w w w') (f : Nat → Int64) : gf_w w (gd_rL w' 44 f) := ⟨fun a h1 h2 => ⟨(h.1 a h1 h2).1, by rw [gd_rL_n h2]; exact (h.1 a h1 h2).2⟩, h.2⟩
theorem gf_w.M {w w' : gd_W} {S : gs_T} {G : Nat → Nat} (h : gf_w w w') (k : gr_M w S G) : gr_M w' S G := by
  unfold gr_M at k ⊢
  rw [(h.1 27 (by omega) (by omega)).1, (h.1 29 (by omega) (by omega)).1, (h.1 30 (by omega) (by omega)).1, (h.1 34 (by omega) (by omega)).1, (h.1 35 (by omega) (by omega)).1, (h.1 33 (by omega) (by omega)).1, (h.1 36 (by omega) (by omega)).1, (h.1 28 (by omega) (by omega)).1, (h.1 31 (by omega) (by omega)).2, (h.1 32 (by omega) (by omega)).1, (h.1 37 (by omega) (by omega)).1, (h.1 38 (by omega) (by omega)).1, (h.1 39 (by omega) (by omega)).1, (h.1 40 (by omega) (by omega)).1]
  exact k
theorem gr_C.out {w : gd_W} {S : gs_T} {o : Nat → Nat} (h : gr_C w S o) (f : Nat → Int64) : gr_C (gd_rL w 44 f) S o := (gc_f.set 44 w f).C (by decide) h
def gd_wp (S' : gs_T) (code : Nat) (v : Int64) (w : gd_W) (r : Option Value) (w' : gd_W) : Prop := r = some (.int (nI code)) ∧ (∃ o', gr_C w' S' o') ∧ gf_w w w' ∧ (code = 0 → w'.2.1 44 0 = v)
theorem gd_wp_ok {S' : gs_T} {code : Nat} {v : Int64} {w w1 : gd_W} (hc : code = 0) (hC : ∃ o', gr_C w1 S' o') (hf : gf_c w w1) : gd_wp S' code v w (some (.int 0)) (gd_rL w1 44 (vp_updL (w1.2.1 44) 0 v)) := by
  subst hc
  exact ⟨rfl, hC.elim fun o' h => ⟨o', h.out _⟩, hf.w.out _, fun _ => by rw [gd_rL_s, gd_ul_s]⟩
theorem gd_wp_no {S S' : gs_T} {code k : Nat} {v : Int64} {vv : Int32} {w w1 : gd_W} (hc : code = k) (hk : k ≠ 0) (hv : vv = nI k) (hS : S' = S) (hC : ∃ o', gr_C w1 S o') (hf : gf_c w w1) : gd_wp S' code v w (some (.int vv)) w1 := by
  subst hc
  subst hS
  exact ⟨by rw [hv], hC, hf.w, fun z => absurd z hk⟩
theorem gs_disp_no {S : gs_T} {x : Int32} (h : (gs_disp S x).1 ≠ 0) : (gs_disp S x).2.2 = S := by
  revert h
  unfold gs_disp
  split
  · exact fun _ => rfl
  · cases gs_src S x.toNatClampNeg with
    | none => exact fun _ => rfl
    | some c =>
      cases hf : gs_full S with
      | true => exact fun _ => rfl
      | false => exact fun h => absurd rfl h
theorem gs_send_no {S : gs_T} {d x y : Int32} (h : (gs_send S d x y).1 ≠ 0) : (gs_send S d x y).2.2 = S := by
  revert h
  unfold gs_send
  split
  · exact fun _ => rfl
  · split
    · exact fun _ => rfl
    · split
      · exact fun _ => rfl
      · exact fun h => absurd rfl h
theorem gs_join_no {S : gs_T} {d e : Int32} (h : (gs_join S d e).1 ≠ 0) : (gs_join S d e).2.2 = S := by
  revert h
  unfold gs_join
  split
  · exact fun _ => rfl
  · split
    · exact fun _ => rfl
    · split
      · exact fun _ => rfl
      · exact fun h => absurd rfl h
theorem gs_halve_no {S : gs_T} {d : Int32} {u : Bool} (h : (gs_halve S d u).1 ≠ 0) : (gs_halve S d u).2.2 = S := by
  revert h
  unfold gs_halve
  split
  · exact fun _ => rfl
  · unfold gs_half2
    split
    · split
      · exact fun h => absurd rfl h
      · exact fun _ => rfl
    · exact fun _ => rfl
theorem gs_run_no {S : gs_T} {n : Int32} (h : (gs_run S n).1 ≠ 0) : (gs_run S n).2.2 = S := by
  revert h
  unfold gs_run
  split
  · exact fun _ => rfl
  · exact fun h => absurd rfl h
theorem gs_disc_no {S : gs_T} {d : Int32} (h : gs_discc S d ≠ 0) : gs_discS S d = S := if_neg h
