/-! Constructors: a world that grows, as a list of cells at addresses that are variables. -/
def gn_E (p : Program) (s : State) (m : MethodId) (args : Array Value) (c : Code) (cc : ByteArray) (nL : Nat) (own : String) (D : va_G) (tC : FieldType → ClassId) (A : Nat → Prop) : Prop :=
  CallFix p m c cc nL s args gd_all own ∧ va_K D gd_cl (gd_tys tC) s ∧ (∀ x ∈ gd_nw, va_Nw x s) ∧ va_AO "GuardedDrops$Droplet" s ∧ ∀ q, s.heap.size ≤ q → A q
def gn_N (p : Program) (l : Launch) (e : Env) (R : Room) (s : State) (m : MethodId) (args : Array Value) (below : List Frame) (meth : Method) (c : Code) (D : va_G) (A : Nat → Prop) (nL cells slots : Nat) (Q : State → Prop) (wp : va_W) (pc : Nat) (lv : List (Nat × Value)) (st : List Value) (ws : va_W) : Prop :=
  ∀ (H : Heap) (locs : List Loc) (la : Array Slot), va_P D gd_cl (wp ++ ws) H → va_D A (wp ++ ws) → va_S A s.heap H locs → lv_has la nL lv → W p l e R s m args below meth c H locs cells slots Q (F0 m pc la st)
/-- a constructor's contract: the cells wp stay, the cells ws become such as Rr says -/
def gn_C (l : Launch) (D : va_G) (tC : FieldType → ClassId) (N0 fr lo mc ms : Nat) (y : MethodName) (cc : ByteArray) (nL h0 : Nat) (wp ws : va_W) (Rr : va_W → Prop) : Prop :=
  Met l y (.code y cc nL none :: gd_all) { frames := fr, cells := mc, slots := ms, locals := lo } (va_Pc [.ref h0] (fun U => N0 ≤ U.heap.size ∧ va_P D gd_cl (wp ++ ws) U.heap ∧ va_D (fun q => N0 ≤ q) (wp ++ ws) ∧ va_K D gd_cl (gd_tys tC) U ∧ (∀ x ∈ gd_nw, va_Nw x U) ∧ va_AO "GuardedDrops$Droplet" U))
    (fun _ st oc t => oc = .returned none ∧ ∃ ws', Rr ws' ∧ va_P D gd_cl (wp ++ ws') t.heap ∧ va_D (fun q => N0 ≤ q) (wp ++ ws') ∧ va_F (fun q => N0 ≤ q) st t) mc ms (fun q => N0 ≤ q)
def gn_Q (D : va_G) (N0 : Nat) (wp : va_W) (Rr : va_W → Prop) : Array Value → State → Outcome → State → Prop := fun _ st oc t => oc = .returned none ∧ ∃ ws', Rr ws' ∧ va_P D gd_cl (wp ++ ws') t.heap ∧ va_D (fun q => N0 ≤ q) (wp ++ ws') ∧ va_F (fun q => N0 ≤ q) st t
theorem gn_C_of {l : Launch} {D : va_G} {tC : FieldType → ClassId} {N0 fr lo mc ms : Nat} {y : MethodName} {cc : ByteArray} {nL h0 : Nat} {wp ws : va_W} {Rr : va_W → Prop} (hy : plainName y.cls = true) (hname : y.name = "<init>") (hn : 1 ≤ nL)
    (body : ∀ (p : Program) (e : Env) (s : State) (m : MethodId) (args : Array Value) (below : List Frame) (meth : Method) (c : Code), gn_E p s m args c cc nL y.cls D tC (fun q => N0 ≤ q) → meth.name = "<init>" → meth.sig.returnType = none → meth.locks = false →
      gn_N p l e { frames := fr, cells := mc, slots := ms, locals := lo } s m args below meth c D (fun q => N0 ≤ q) nL 0 0 (MQ below (gn_Q D N0 wp Rr) args s mc ms (fun q => N0 ≤ q)) wp 0 [(0, .ref h0)] [] ws) : gn_C l D tC N0 fr lo mc ms y cc nL h0 wp ws Rr := by
  refine Met.ofW (cc := cc) (maxL := nL) (ret := none) hy rfl ?_
  intro p e s m args below meth c s₁ B hml hv
  obtain ⟨rfl, hsz, hP, hD, hK, hN, hAO⟩ := hv
  have hts := atoms_spec (ws := .code y cc nL none :: gd_all) B.pre
  have E : gn_E p s m [Value.ref h0].toArray c cc nL y.cls D tC (fun q => N0 ≤ q) := ⟨⟨B.exec, B.bytes, hml, findClass_of_methodNamed B.named, fun w hw => hts w (List.mem_cons_of_mem _ hw)⟩, hK, hN, hAO, fun q hq => Nat.le_trans hsz hq⟩
  have hl := lv_entry [Value.ref h0] (n := nL) hn
  rw [lg_entry_eq]
  exact body p e s m _ below meth c E ((name_of_methodNamed B.named B.method).1.trans hname) B.returns B.notSynchronized s.heap [] _ hP hD va_S.rf hl
section GN
variable {p : Program} {l : Launch} {e : Env} {R : Room} {s : State} {m : MethodId} {args : Array Value} {below : List Frame} {meth : Method} {c : Code} {D : va_G} {tC : FieldType → ClassId} {A : Nat → Prop} {nL cells slots : Nat} {Q : State → Prop} {pc : Nat} {lv : List (Nat × Value)} {st : List Value} {wp ws : va_W} {cc : ByteArray} {own : String}
theorem gn_cg {ws' : va_W} (k : gn_N p l e R s m args below meth c D A nL cells slots Q wp pc lv st ws') (h : ws = ws') : gn_N p l e R s m args below meth c D A nL cells slots Q wp pc lv st ws := by subst h; exact k
theorem gn_iconst (E : gn_E p s m args c cc nL own D tC A) {n : Int} {v : Int32} (hd : decode cc pc = .ok (.iconst n, 1)) (hv : Int32.ofInt n = v) (k : gn_N p l e R s m args below meth c D A nL cells slots Q wp (pc + 1) lv (.int v :: st) ws) : gn_N p l e R s m args below meth c D A nL cells slots Q wp pc lv st ws :=
  fun H locs la hP hD hS hl => lv_iconst E.1.1 E.1.2.1 hd hv (k H locs la hP hD hS hl)
theorem gn_lconst (E : gn_E p s m args c cc nL own D tC A) {n : Fin 2} {v : Int64} (hd : decode cc pc = .ok (.lconst n, 1)) (hv : Int64.ofNat (n : Nat) = v) (k : gn_N p l e R s m args below meth c D A nL cells slots Q wp (pc + 1) lv (.long v :: st) ws) : gn_N p l e R s m args below meth c D A nL cells slots Q wp pc lv st ws :=
  fun H locs la hP hD hS hl => lv_lconst E.1.1 E.1.2.1 hd hv (k H locs la hP hD hS hl)
theorem gn_bipush (E : gn_E p s m args c cc nL own D tC A) {n : Int} {v : Int32} (hd : decode cc pc = .ok (.bipush n, 2)) (hv : (Int8.ofInt n).toInt32 = v) (k : gn_N p l e R s m args below meth c D A nL cells slots Q wp (pc + 2) lv (.int v :: st) ws) : gn_N p l e R s m args below meth c D A nL cells slots Q wp pc lv st ws :=
  fun H locs la hP hD hS hl => lv_bipush E.1.1 E.1.2.1 hd hv (k H locs la hP hD hS hl)
theorem gn_sipush (E : gn_E p s m args c cc nL own D tC A) {n : Int} {v : Int32} (hd : decode cc pc = .ok (.sipush n, 3)) (hv : (Int16.ofInt n).toInt32 = v) (k : gn_N p l e R s m args below meth c D A nL cells slots Q wp (pc + 3) lv (.int v :: st) ws) : gn_N p l e R s m args below meth c D A nL cells slots Q wp pc lv st ws :=
  fun H locs la hP hD hS hl => lv_sipush E.1.1 E.1.2.1 hd hv (k H locs la hP hD hS hl)
theorem gn_aload (E : gn_E p s m args c cc nL own D tC A) {k0 : Fin 4} {x : Nat} (j : Nat) (hd : decode cc pc = .ok (.aload_n k0, 1)) (hj : lv[j]? = some ((k0 : Nat), .ref x)) (k : gn_N p l e R s m args below meth c D A nL cells slots Q wp (pc + 1) lv (.ref x :: st) ws) : gn_N p l e R s m args below meth c D A nL cells slots Q wp pc lv st ws :=
  fun H locs la hP hD hS hl => lv_aload_n E.1.1 E.1.2.1 hd rfl (lv_at hl j hj) (k H locs la hP hD hS hl)
theorem gn_iload (E : gn_E p s m args c cc nL own D tC A) {k0 : Fin 4} {x : Int32} (j : Nat) (hd : decode cc pc = .ok (.iload_n k0, 1)) (hj : lv[j]? = some ((k0 : Nat), .int x)) (k : gn_N p l e R s m args below meth c D A nL cells slots Q wp (pc + 1) lv (.int x :: st) ws) : gn_N p l e R s m args below meth c D A nL cells slots Q wp pc lv st ws :=
  fun H locs la hP hD hS hl => lv_iload_n E.1.1 E.1.2.1 hd rfl (lv_at hl j hj) (k H locs la hP hD hS hl)
theorem gn_dup (E : gn_E p s m args c cc nL own D tC A) {v : Value} (hd : decode cc pc = .ok (.dup, 1)) (hv : v.category = 1) (k : gn_N p l e R s m args below meth c D A nL cells slots Q wp (pc + 1) lv (v :: v :: st) ws) : gn_N p l e R s m args below meth c D A nL cells slots Q wp pc lv (v :: st) ws :=
  fun H locs la hP hD hS hl => lv_dup E.1.1 E.1.2.1 hd hv (k H locs la hP hD hS hl)
theorem gn_istore (E : gn_E p s m args c cc nL own D tC A) {k0 : Fin 4} {x : Int32} {lv' : List (Nat × Value)} (hd : decode cc pc = .ok (.istore_n k0, 1)) (hn : (k0 : Nat) < nL) (hl' : ((k0 : Nat), Value.int x) :: lv.filter (fun q => !(q.1 == (k0 : Nat)) && !(q.1 + 1 == (k0 : Nat) && q.2.category == 2)) = lv') (k : gn_N p l e R s m args below meth c D A nL cells slots Q wp (pc + 1) lv' st ws) : gn_N p l e R s m args below meth c D A nL cells slots Q wp pc lv (.int x :: st) ws :=
  fun H locs la hP hD hS hl => lv_istore_n E.1.1 E.1.2.1 hd rfl hl hn hl' (fun la' h' => k H locs la' hP hD hS h')
theorem gn_istore2 (E : gn_E p s m args c cc nL own D tC A) {k0 : Nat} {x : Int32} {lv' : List (Nat × Value)} (hd : decode cc pc = .ok (.istore k0, 2)) (hn : k0 < nL) (hl' : (k0, Value.int x) :: lv.filter (fun q => !(q.1 == k0) && !(q.1 + 1 == k0 && q.2.category == 2)) = lv') (k : gn_N p l e R s m args below meth c D A nL cells slots Q wp (pc + 2) lv' st ws) : gn_N p l e R s m args below meth c D A nL cells slots Q wp pc lv (.int x :: st) ws :=
  fun H locs la hP hD hS hl => lv_istore E.1.1 E.1.2.1 hd hl hn hl' (fun la' h' => k H locs la' hP hD hS h')
theorem gn_astore (E : gn_E p s m args c cc nL own D tC A) {k0 : Fin 4} {x : Nat} {lv' : List (Nat × Value)} (hd : decode cc pc = .ok (.astore_n k0, 1)) (hn : (k0 : Nat) < nL) (hl' : ((k0 : Nat), Value.ref x) :: lv.filter (fun q => !(q.1 == (k0 : Nat)) && !(q.1 + 1 == (k0 : Nat) && q.2.category == 2)) = lv') (k : gn_N p l e R s m args below meth c D A nL cells slots Q wp (pc + 1) lv' st ws) : gn_N p l e R s m args below meth c D A nL cells slots Q wp pc lv (.ref x :: st) ws :=
  fun H locs la hP hD hS hl => lv_astore_n E.1.1 E.1.2.1 hd rfl hl hn hl' (fun la' h' => k H locs la' hP hD hS h')
theorem gn_iinc (E : gn_E p s m args c cc nL own D tC A) {i j : Nat} {n : Int} {x v : Int32} {lv' : List (Nat × Value)} (hd : decode cc pc = .ok (.iinc i n, 3)) (hj : lv[j]? = some (i, .int x)) (hv : x + Int32.ofInt n = v) (hn : i < nL) (hl' : (i, Value.int v) :: lv.filter (fun q => !(q.1 == i) && !(q.1 + 1 == i && q.2.category == 2)) = lv') (k : gn_N p l e R s m args below meth c D A nL cells slots Q wp (pc + 3) lv' st ws) : gn_N p l e R s m args below meth c D A nL cells slots Q wp pc lv st ws :=
  fun H locs la hP hD hS hl => lv_iinc E.1.1 E.1.2.1 hd hl hj hv hn hl' (fun la' h' => k H locs la' hP hD hS h')
theorem gn_goto (E : gn_E p s m args c cc nL own D tC A) {off : Int} {tgt : Nat} (hd : decode cc pc = .ok (.goto off, 3)) (ht : (pc : Int) + off = (tgt : Int)) (k : gn_N p l e R s m args below meth c D A nL cells slots Q wp tgt lv st ws) : gn_N p l e R s m args below meth c D A nL cells slots Q wp pc lv st ws :=
  fun H locs la hP hD hS hl => lv_goto E.1.1 E.1.2.1 hd ht (k H locs la hP hD hS hl)
theorem gn_ge (E : gn_E p s m args c cc nL own D tC A) {x y : Int32} {off : Int} {tgt : Nat} (hd : decode cc pc = .ok (.if_icmp .ge off, 3)) (ht : (pc : Int) + off = (tgt : Int)) (hh : y ≤ x) (k : gn_N p l e R s m args below meth c D A nL cells slots Q wp tgt lv st ws) : gn_N p l e R s m args below meth c D A nL cells slots Q wp pc lv (.int y :: .int x :: st) ws :=
  fun H locs la hP hD hS hl => lv_icmp_ge E.1.1 E.1.2.1 hd ht (fun _ => k H locs la hP hD hS hl) (fun h => absurd hh h)
theorem gn_nge (E : gn_E p s m args c cc nL own D tC A) {x y : Int32} {off : Int} {tgt : Nat} (hd : decode cc pc = .ok (.if_icmp .ge off, 3)) (ht : (pc : Int) + off = (tgt : Int)) (hh : ¬ y ≤ x) (k : gn_N p l e R s m args below meth c D A nL cells slots Q wp (pc + 3) lv st ws) : gn_N p l e R s m args below meth c D A nL cells slots Q wp pc lv (.int y :: .int x :: st) ws :=
  fun H locs la hP hD hS hl => lv_icmp_ge E.1.1 E.1.2.1 hd ht (fun h => absurd h hh) (fun _ => k H locs la hP hD hS hl)
theorem gn_obj (E : gn_E p s m args c cc nL own D tC A) {idx a : Nat} (hd : decode cc pc = .ok (.invokespecial idx, 3)) (h1 : Cond.methodLink own idx Lib.objectInit ∈ gd_all) (h2 : Cond.instanceMethod Lib.objectInit ∈ gd_all) (h3 : Cond.code Lib.objectInit ⟨#[0xb1]⟩ 1 none ∈ gd_all) (hR : 1 ≤ R.frames ∧ (st.map fun v => v.category).sum + 12 ≤ R.locals) (k : gn_N p l e R s m args below meth c D A nL cells slots Q wp (pc + 3) lv st ws) : gn_N p l e R s m args below meth c D A nL cells slots Q wp pc lv (.ref a :: st) ws :=
  fun H locs la hP hD hS hl => W.objInit E.1.1 E.1.2.1 E.1.2.2.2.1 (E.1.2.2.2.2 _ h1) (E.1.2.2.2.2 _ h2) (E.1.2.2.2.2 _ h3) rfl (by rw [E.1.2.2.1]; exact hl.1) rfl hd hR.1 (by show 2 * 0 + _ + 12 ≤ _; omega) (k H locs la hP hD hS hl)
theorem gn_at {q0 : Nat} {x : Nat × va_E} (h : ws[q0]? = some x) : (wp ++ ws)[wp.length + q0]? = some x := by
  rw [List.getElem?_append_right (by omega), show wp.length + q0 - wp.length = q0 by omega]
  exact h
theorem gn_set {q0 : Nat} {x : Nat × va_E} : (wp ++ ws).set (wp.length + q0) x = wp ++ ws.set q0 x := by
  rw [List.set_append_right _ _ (by omega), show wp.length + q0 - wp.length = q0 by omega]
theorem gn_put (E : gn_E p s m args c cc nL own D tC A) (hin : meth.name = "<init>") {x ci j N q0 a : Nat} {C : String} {T : u_T} {fs : List Value} {v : Value} {ty : FieldType} (hd : decode cc pc = .ok (.putfield x, 3)) (hc : gd_cf ci C T N) (hj : j < N) (hlk : Cond.fieldLink own x (T j).1 (T j).2.1 (T j).2.2.1 ∈ gd_all) (hdecl : (T j).1 = own) (ht : (gd_ft ci)[j]? = some ty) (he : ws[q0]? = some (a, .inr (ci, fs))) (hn : narrow ty v = v) (hfit : fits ty v = true) (hl0 : j < fs.length)
    (kk : gn_N p l e R s m args below meth c D A nL cells slots Q wp (pc + 3) lv st (ws.set q0 (a, .inr (ci, fs.set j v)))) : gn_N p l e R s m args below meth c D A nL cells slots Q wp pc lv (v :: .ref a :: st) ws := by
  intro H locs la hP hD hS hl
  obtain ⟨⟨hx, hb, hml, hown, hts⟩, hK, -⟩ := E
  obtain ⟨hc1, hc2, ⟨ty0, hty, hty2⟩, hnm⟩ := hc
  have hdj : parseFieldDescriptor (T j).2.2.1 = some ty := by rw [hty j hj, ← hty2 j hj, ht]
  cases hfin : (T j).2.2.2 with
  | true => exact va_putF hx hb hts hc2 ty0 hty hnm hown hK hP hD hS (wp.length + q0) (gn_at he) hc1 j hj (hts _ hlk) (fun _ h => h) hfin hin hdecl hdj hn hfit hl0 hd (fun H1 locs1 hP1 hD1 hS1 => kk H1 locs1 la (by rw [← gn_set]; exact hP1) (by rw [← gn_set]; exact hD1) hS1 hl)
  | false => exact va_put hx hb hts hc2 ty0 hty hnm hown hK hP hD hS (wp.length + q0) (gn_at he) hc1 j hj (hts _ hlk) (fun _ h => h) hfin hdj hn hfit hl0 hd (fun H1 locs1 hP1 hD1 hS1 => kk H1 locs1 la (by rw [← gn_set]; exact hP1) (by rw [← gn_set]; exact hD1) hS1 hl)
theorem gn_get (E : gn_E p s m args c cc nL own D tC A) {x ci j N q0 a : Nat} {C : String} {T : u_T} {fs : List Value} {v : Value} (hd : decode cc pc = .ok (.getfield x, 3)) (hc : gd_cf ci C T N) (hj : j < N) (hlk : Cond.fieldLink own x (T j).1 (T j).2.1 (T j).2.2.1 ∈ gd_all) (he : ws[q0]? = some (a, .inr (ci, fs))) (hv : fs[j]? = some v)
    (kk : gn_N p l e R s m args below meth c D A nL cells slots Q wp (pc + 3) lv (v :: st) ws) : gn_N p l e R s m args below meth c D A nL cells slots Q wp pc lv (.ref a :: st) ws := by
  intro H locs la hP hD hS hl
  obtain ⟨⟨hx, hb, hml, hown, hts⟩, hK, -⟩ := E
  obtain ⟨hc1, hc2, -, -⟩ := hc
  exact va_get hx hb hts hc2 hown hK hP (wp.length + q0) (gn_at he) hc1 j hj (hts _ hlk) (fun _ h => h) hv hd (kk H locs la hP hD hS hl)
theorem gn_newa (E : gn_E p s m args c cc nL own D tC A) {atype : ArrayType} {ty : FieldType} {N' t0 : Nat} {n : Int32} {a0 : vp_A} (hd : decode cc pc = .ok (.newarray atype, 2)) (harr : Cond.arrayClass ty ∈ gd_all) (hty : newarray.typeOf atype = ty) (htt : (gd_tys tC)[t0]? = some (tC ty, ty)) (hra : ∀ (U : State) (cA : ClassId), va_RA U cA ty → U.vm.findClass ("[" ++ ty.toString) = some cA)
    (ha : ∀ cA : ClassId, vp_cell cA a0 = arrV cA N' (fun _ => defaultValue ty)) (hn : ¬ n < 0) (hN : n.toNatClampNeg = N') (hbytes : N' * componentBytes ty ≤ 536870912) (hcs : cells + 1 ≤ R.cells ∧ slots + N' ≤ R.slots)
    (kk : ∀ q : Nat, gn_N p l e R s m args below meth c D A nL (cells + 1) (slots + N') Q wp (pc + 2) lv (.ref q :: st) (ws ++ [(q, .inl (tC ty, a0))])) : gn_N p l e R s m args below meth c D A nL cells slots Q wp pc lv (.int n :: st) ws := by
  intro H locs la hP hD hS hl
  obtain ⟨⟨hx, hb, hml, hown, hts⟩, hK, -, -, hA⟩ := E
  refine va_newa hx hb (hty ▸ hts _ harr) hty hK hP hD hS hA ha hn hN hbytes hcs.1 hcs.2 hd (fun q cA H1 hK1 hP1 hD1 hS1 => ?_)
  have h1 := hra _ _ (hK1.2 4 (cA, ty) rfl).2
  have h2 := hra _ _ (hK.2 t0 (tC ty, ty) htt).2
  cases Option.some.inj (h1.symm.trans h2)
  rw [List.append_assoc] at hP1 hD1
  exact kk q H1 locs la hP1 hD1 hS1 hl
theorem gn_newq (E : gn_E p s m args c cc nL own D tC A) {index N' : Nat} {n : Int32} (hd : decode cc pc = .ok (.anewarray index, 3)) (hcl : Cond.classLink own index "GuardedDrops$Droplet" ∈ gd_all) (hn : ¬ n < 0) (hN : n.toNatClampNeg = N') (hbytes : N' * 4 ≤ 536870912) (hcs : cells + 1 ≤ R.cells ∧ slots + N' ≤ R.slots)
    (kk : ∀ q : Nat, gn_N p l e R s m args below meth c D A nL (cells + 1) (slots + N') Q wp (pc + 3) lv (.ref q :: st) (ws ++ [(q, .inl (tC (.object "GuardedDrops$Droplet"), N', .inr (.inr (.inr (.inr (fun _ => none))))))])) : gn_N p l e R s m args below meth c D A nL cells slots Q wp pc lv (.int n :: st) ws := by
  intro H locs la hP hD hS hl
  obtain ⟨⟨hx, hb, hml, hown, hts⟩, hK, -, hAO, hA⟩ := E
  refine va_newq hx hb hown (hts _ hcl) hAO hK hP hD hS hA hn hN hbytes hcs.1 hcs.2 hd (fun q cA H1 hK1 hP1 hD1 hS1 => ?_)
  obtain ⟨-, -, -, -, -, h1⟩ := (hK1.2 4 (cA, .object "GuardedDrops$Droplet") rfl).2
  obtain ⟨-, -, -, -, -, h2⟩ := (hK.2 3 (tC (.object "GuardedDrops$Droplet"), .object "GuardedDrops$Droplet") rfl).2
  cases Option.some.inj (h1.symm.trans h2)
  rw [List.append_assoc] at hP1 hD1
  exact kk q H1 locs la hP1 hD1 hS1 hl
theorem gn_new (E : gn_E p s m args c cc nL own D tC A) {index ci N : Nat} {C : String} {T : u_T} (hd : decode cc pc = .ok (.new index, 3)) (hc : gd_cf ci C T N) (hcl : Cond.classLink own index C ∈ gd_all) (hinst : Cond.instantiable C N ∈ gd_all) (hini : Cond.initialized C ∈ gd_all) (hlen : (gd_ft ci).length = N) (hcs : cells + 1 ≤ R.cells ∧ slots + N ≤ R.slots)
    (kk : ∀ q : Nat, gn_N p l e R s m args below meth c D A nL (cells + 1) (slots + N) Q wp (pc + 3) lv (.ref q :: st) (ws ++ [(q, .inr (ci, (gd_ft ci).map defaultValue))])) : gn_N p l e R s m args below meth c D A nL cells slots Q wp pc lv st ws := by
  intro H locs la hP hD hS hl
  obtain ⟨⟨hx, hb, hml, hown, hts⟩, hK, -, -, hA⟩ := E
  obtain ⟨hc1, hc2, ⟨ty0, hty, hty2⟩, hnm⟩ := hc
  refine va_new hx hb hts hc2 ty0 hty hown (hts _ hcl) (hts _ hinst) (hts _ hini) hK hP hD hS hA hc1 (fs := (gd_ft ci).map defaultValue) (fun j hj => ?_) hcs.1 hcs.2 hd (fun q H1 hP1 hD1 hS1 => ?_)
  · have h3 := hty2 j hj
    unfold vp_V
    rw [List.getD_eq_getElem?_getD, List.getElem?_map, h3]
    rfl
  · rw [List.append_assoc] at hP1 hD1
    exact kk q H1 locs la hP1 hD1 hS1 hl
theorem gn_aast (E : gn_E p s m args c cc nL own D tC A) {q0 qk ci n v a j : Nat} {r : vw_C} {vs : List Value} {f : Nat → Option Nat} {i : Int32} (hd : decode cc pc = .ok (.aastore, 1)) (ha : ws[q0]? = some (a, .inl (tC (.object "GuardedDrops$Droplet"), n, .inr (.inr (.inr (.inr f)))))) (hv : ws[qk]? = some (v, .inr (ci, vs))) (hc : gd_cl[ci]? = some r) (hr : r.1 = "GuardedDrops$Droplet") (hi : i = nI j) (hj : j < n) (hn : n < 2 ^ 31)
    (kk : gn_N p l e R s m args below meth c D A nL cells slots Q wp (pc + 1) lv st (ws.set q0 (a, .inl (tC (.object "GuardedDrops$Droplet"), n, .inr (.inr (.inr (.inr (va_up f j (some v)))))))) ) : gn_N p l e R s m args below meth c D A nL cells slots Q wp pc lv (.ref v :: .int i :: .ref a :: st) ws := by
  intro H locs la hP hD hS hl
  obtain ⟨⟨hx, hb, hml, hown, hts⟩, hK, -⟩ := E
  subst hi
  refine va_astq hx hb hK hP hD hS (wp.length + q0) 3 (wp.length + qk) ci (gn_at ha) (by rw [hr]; rfl) (gn_at hv) hc (vp_in_nI hj hn) hd (fun H1 locs1 hP1 hD1 hS1 => ?_)
  rw [nI_clamp (by omega), gn_set] at hP1 hD1
  exact kk H1 locs1 la hP1 hD1 hS1 hl
/-- the words of a constructor without arguments -/
def gn_CI (y : MethodName) (bytes : ByteArray) (maxL : Nat) : Prop := (Cond.instanceMethod y ∈ gd_all ∧ Cond.initialized y.cls ∈ gd_all ∧ Cond.code y bytes maxL none ∈ gd_all) ∧ y.name = "<init>" ∧ y.cls ≠ "java/lang/invoke/MethodHandle" ∧ y.cls ≠ "java/lang/invoke/VarHandle" ∧ (parseMethodDescriptor y.desc).map (fun d => d.parameters.length) = some 0
set_option maxHeartbeats 1000000 in
theorem gn_call {N0 : Nat} (E : gn_E p s m args c cc nL own D tC (fun q => N0 ≤ q)) (hN0 : N0 ≤ s.heap.size) {y : MethodName} {bytes : ByteArray} {maxL fr lo mc ms idx h0 : Nat} {pre wc : va_W} {Rr : va_W → Prop} (hc : gn_C l D tC N0 fr lo mc ms y bytes maxL h0 (wp ++ pre) wc Rr) (hd : decode cc pc = .ok (.invokespecial idx, 3)) (hl0 : gd_ml own idx y) (hci : gn_CI y bytes maxL) (hR : fr + 1 ≤ R.frames ∧ 8 + (maxL + 11) + lo ≤ R.locals) (hcs : cells + mc ≤ R.cells ∧ slots + ms ≤ R.slots) (hw : ws = pre ++ wc) (hsum : (st.map fun v => v.category).sum ≤ 8)
    (kk : ∀ w1, Rr w1 → gn_N p l e R s m args below meth c D (fun q => N0 ≤ q) nL (cells + mc) (slots + ms) Q wp (pc + 3) lv st (pre ++ w1)) : gn_N p l e R s m args below meth c D (fun q => N0 ≤ q) nL cells slots Q wp pc lv (.ref h0 :: st) ws := by
  intro H locs la hP hD hS hl
  subst hw
  rw [← List.append_assoc] at hP hD
  have E0 := E
  obtain ⟨hfix, hK, hN, hAO, hA⟩ := E0
  have hts := hfix.2.2.2.2
  obtain ⟨⟨h1, h2, h3⟩, hy0, hy1, hy2, hy3⟩ := hci
  have hg := gd_gin gd_good h3
  have hp : PreS s H (va_Pc [.ref h0] (fun U => N0 ≤ U.heap.size ∧ va_P D gd_cl ((wp ++ pre) ++ wc) U.heap ∧ va_D (fun q => N0 ≤ q) ((wp ++ pre) ++ wc) ∧ va_K D gd_cl (gd_tys tC) U ∧ (∀ x ∈ gd_nw, va_Nw x U) ∧ va_AO "GuardedDrops$Droplet" U)) (.ref h0 :: []) := by
    refine ⟨?_, fun U hU hW => ⟨rfl, by rw [hU]; exact Nat.le_trans hN0 hS.1, by rw [hU]; exact hP, hD, va_K.moved hW.alike hK, fun x hx => gd_warm (gd_nwk x hx).1 hW (hN x hx), va_AO.moved hW.alike hAO⟩⟩
    intro a U g mk q
    obtain ⟨q0, q1, qP, qD, qK, qN, qA⟩ := q
    exact ⟨q0, q1, qP, qD, va_K.moved (u := U) (U := U.calling g mk a) (Vm.Alike.refl U.vm) qK, fun x hx => va_Nw.same (u := U) (U := U.calling g mk a) (gd_nwk x hx).2 rfl (qN x hx), va_AO.moved (u := U) (U := U.calling g mk a) (Vm.Alike.refl U.vm) qA⟩
  have fin : va_Run p l e R s m args below meth c H locs cells slots mc ms (F0 m pc la (.ref h0 :: st)) st (fun st oc t => oc = .returned none ∧ ∃ ws', Rr ws' ∧ va_P D gd_cl ((wp ++ pre) ++ ws') t.heap ∧ va_D (fun q => N0 ≤ q) ((wp ++ pre) ++ ws') ∧ va_F (fun q => N0 ≤ q) st t) (fun q => N0 ≤ q) := by
    rcases hl0 with h0' | ⟨host, h0'⟩
    · have cw : CallB R s args own idx y bytes maxL none (.code y bytes maxL none :: gd_all) { frames := fr, cells := mc, slots := ms, locals := lo } mc ms 0 ∧ y.name = "<init>" ∧ (Cond.instanceMethod y).before args s = true := ⟨callB_of 0 hts hg rfl rfl rfl (hts _ h2) (hts _ h0') ⟨hy1, hy2, hy3⟩ hR, hy0, hts _ h1⟩
      exact va_runI hfix hc cw hp rfl rfl hl.1 rfl (lv_room hsum) hd hcs
    · have cw : va_CN R s args own idx y host bytes maxL none (.code y bytes maxL none :: gd_all) { frames := fr, cells := mc, slots := ms, locals := lo } mc ms 0 ∧ y.name = "<init>" ∧ (Cond.instanceMethod y).before args s = true := ⟨va_cnB 0 hts hg rfl rfl rfl (hN _ h0') (hts _ h2) ⟨hy1, hy2, hy3⟩ hR, hy0, hts _ h1⟩
      exact va_runIN hfix hc cw hp rfl rfl hl.1 rfl (lv_room hsum) hd hcs
  intro T hT X
  obtain ⟨v, st₀, t, T', L, h0, X', hL, e1, e2, ⟨hv, w1, hw1, hP1, hD1, hz, hk⟩, stp⟩ := fin T hT X
  cases hv
  rw [h0] at hz hk
  have hS1 : va_S (fun q => N0 ≤ q) s.heap T'.heap (locs ++ L) := ⟨Nat.le_trans hS.1 (by rw [e1]; exact hz), fun q h1 h2 => by rw [e1, hk q (Nat.lt_of_lt_of_le h1 hS.1) h2]; exact hS.2.1 q h1 h2, fun q hq => by
    rcases List.mem_append.mp hq with h | h
    · exact hS.2.2 q h
    · exact hL q h⟩
  rw [List.append_assoc] at hP1 hD1
  obtain ⟨t2, a1, b1⟩ := kk w1 hw1 T'.heap (locs ++ L) la (by rw [e1]; exact hP1) hD1 hS1 hl T' rfl X'
  exact ⟨t2, stp t2 a1, b1⟩
theorem gn_ret {N0 : Nat} {Rr : va_W → Prop} (E : gn_E p s m args c cc nL own D tC (fun q => N0 ≤ q)) (hr : meth.sig.returnType = none) (hlk : meth.locks = false) (hd : decode cc pc = .ok (.return_, 1)) (h : Rr ws) : gn_N p l e R s m args below meth c D (fun q => N0 ≤ q) nL cells slots (MQ below (gn_Q D N0 wp Rr) args s cells slots (fun q => N0 ≤ q)) wp pc lv [] ws :=
  fun H locs la hP hD hS hl => W.vret E.1.1 E.1.2.1 hr (fun t ht _ => ⟨rfl, ws, h, by rw [ht]; exact hP, hD, hS.F ht⟩) hS.2.2 hd hlk
end GN
