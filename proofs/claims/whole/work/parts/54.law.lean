/-! The law's body: its calls, its script, its end. -/
section GL
variable {p : Program} {l : Launch} {e : Env} {R : Room} {s : State} {m : MethodId} {args : Array Value} {below : List Frame} {meth : Method} {c : Code} {D : va_G} {tC : FieldType → ClassId} {ad : Nat → Nat} {A : Nat → Prop} {n nL cells slots : Nat} {Q : State → Prop} {pc : Nat} {lv : List (Nat × Value)} {st : List Value} {w : gd_W} {cc : ByteArray} {own : String} {post : Option Value → gd_W → Prop}
theorem gd_wd {k j : Nat} (h1 : cells ≤ k) (h2 : slots ≤ j) (kk : gd_G p l e R s m args below meth c D tC ad A n nL k j Q pc lv st w) : gd_G p l e R s m args below meth c D tC ad A n nL cells slots Q pc lv st w :=
  fun H locs ls hP hS hl => W.widen h1 h2 (kk H locs ls hP hS hl)
def gd_CW (y : MethodName) (bytes : ByteArray) (maxL : Nat) (hh : List (Nat × Nat × Nat × Nat)) (na : Nat) : Prop := (Cond.static y ∈ gd_all ∧ Cond.initialized y.cls ∈ gd_all ∧ Cond.codeWith y bytes maxL (some .int) hh ∈ gd_all) ∧ y.cls ≠ "java/lang/invoke/MethodHandle" ∧ y.cls ≠ "java/lang/invoke/VarHandle" ∧ (parseMethodDescriptor y.desc).map (fun d => d.parameters.length) = some na
set_option maxHeartbeats 1000000 in
/-- a call of a wrapper -/
theorem gd_cSw (E : gd_E p s m args c cc nL own D tC ad A n) (X : gd_XF A s s.heap) (hA : ∀ q, gd_A ad n s.heap.size q → A q) {y : MethodName} {bytes : ByteArray} {maxL fr lo idx : Nat} {hh : List (Nat × Nat × Nat × Nat)} {av rest : List Value} (hc : gd_Cw l D tC ad n fr lo y bytes maxL hh av w post) (hd : decode cc pc = .ok (.invokestatic idx, 3)) (hl : Cond.methodLink own idx y ∈ gd_all)
    (hcv : gd_CW y bytes maxL hh av.length) (hR : fr + 1 ≤ R.frames ∧ 8 + (maxL + 11) + lo ≤ R.locals) (hcs : cells + 1 ≤ R.cells ∧ slots + 6 ≤ R.slots) (hst : st = av.reverse ++ rest) (hsum : (rest.map fun v => v.category).sum ≤ 8)
    (kk : ∀ (r : Option Value) (w' : gd_W), post r w' → gd_G p l e R s m args below meth c D tC ad A n nL (cells + 1) (slots + 6) Q (pc + 3) lv (r.toList ++ rest) w') : gd_G p l e R s m args below meth c D tC ad A n nL cells slots Q pc lv st w := by
  intro H locs ls hP hS hv
  have hst' : st.map (gd_tr ad) = (av.map (gd_tr ad)).reverse ++ rest.map (gd_tr ad) := by rw [hst]; simp
  have hts := E.1.2.2.2.2
  obtain ⟨⟨h1, h3, h4⟩, hy1, hy2, hy3⟩ := hcv
  have hA2 := gd_AA hA hS.1
  have hp : PreS s H (va_Pc (av.map (gd_tr ad)) (gd_PreX D tC ad n H.size w)) (av.map (gd_tr ad)) := ⟨gd_blindX, gd_preX E X hP hS hA2 (av := av)⟩
  have hg : GoodIn gd_all (Cond.codeWith y bytes maxL (some .int) hh :: gd_all) := by
    intro w hw
    rcases List.mem_cons.mp hw with rfl | h
    · exact gd_good _ h4
    · exact gd_good _ h
  have cw : vx_CSW R s args own idx y bytes maxL (some .int) hh (Cond.codeWith y bytes maxL (some .int) hh :: gd_all) (gd_rx fr lo) 1 6 av.length := ⟨⟨rfl, rfl, hR.1, hR.2, pay_in hts hg, List.mem_cons_self⟩, hts _ h4, hts _ h3, ⟨hy1, hy2⟩, fun sig h => by
    rw [h] at hy3
    exact (Option.some.inj hy3).symm, hts _ hl, hts _ h1⟩
  rw [hst']
  have hr := vx_runSX (p := p) (e := e) (below := below) (meth := meth) (locs := locs) (cells := cells) (slots := slots) (rest := rest.map (gd_tr ad)) (g := F0 m pc ls ((av.map (gd_tr ad)).reverse ++ rest.map (gd_tr ad))) E.1 (hc H.size) cw hp rfl (by simp) hv.1 rfl (lv_room (gd_sum hsum)) hd hcs
  intro T hT X1
  rcases hr T hT X1 with ⟨v, st₀, t, T', L, h0, X', hL, e1, e2, ⟨r, w', hv', hp', hP', hz, hkk⟩, stp⟩ | ⟨q, st₀, t, T', L, E0, ce, h0, X', hL, e1, e2, hF, hce, hcvm, hcl, stp⟩
  · have hv' : v = r.map (gd_tr ad) := Outcome.returned.inj hv'
    subst hv'
    rw [h0] at hz hkk
    have hS1 : va_S A s.heap T'.heap (locs ++ L) := ⟨Nat.le_trans hS.1 (by rw [e1]; exact hz), fun q h1 h2 => by rw [e1, hkk q (Nat.lt_of_lt_of_le h1 hS.1) (fun z => h2 (hA2 q z))]; exact hS.2.1 q h1 h2, fun q hq => by
      rcases List.mem_append.mp hq with h | h
      · exact hS.2.2 q h
      · exact hA2 _ (hL q h)⟩
    obtain ⟨t2, a1, b1⟩ := kk r w' hp' T'.heap (locs ++ L) ls (by rw [e1]; exact hP') hS1 hv T' rfl X'
    refine ⟨t2, stp t2 ?_, b1⟩
    have e3 : (r.toList ++ rest).map (gd_tr ad) = (r.map (gd_tr ad)).toList ++ rest.map (gd_tr ad) := by cases r <;> simp
    rw [e3] at a1
    exact a1
  · exact hF.elim
/-- a number of the script -/
theorem gd_sld {b L : Nat} {xs : Nat → Int32} (E : gd_E p s m args c cc nL own D tC ad (fun q => s.heap.size ≤ q) n) (hX : va_X b L xs s s.heap) (hbl : b < s.heap.size) (hab : ad 45 = b) {i : Int32} {j : Nat} (hd : decode cc pc = .ok (.iaload, 1)) (hi : i = nI j) (hj : j < L) (hL : L ≤ 2048)
    (kk : gd_G p l e R s m args below meth c D tC ad (fun q => s.heap.size ≤ q) n nL cells slots Q (pc + 1) lv (.int (xs j) :: st) w) : gd_G p l e R s m args below meth c D tC ad (fun q => s.heap.size ≤ q) n nL cells slots Q pc lv (.int i :: .ref 45 :: st) w := by
  intro H locs ls hP hS hl
  subst hi
  have := va_sld (rest := st.map (gd_tr ad)) (ls := ls) E.1.1 E.1.2.1 hX hbl (show ¬ s.heap.size ≤ b by omega) hS (vp_in_nI hj (by omega)) hd (by rw [nI_clamp (by omega)]; exact kk H locs ls hP hS hl)
  rw [← hab] at this
  exact this
theorem gd_slen {b L : Nat} {xs : Nat → Int32} (E : gd_E p s m args c cc nL own D tC ad (fun q => s.heap.size ≤ q) n) (hX : va_X b L xs s s.heap) (hbl : b < s.heap.size) (hab : ad 45 = b) (hd : decode cc pc = .ok (.arraylength, 1))
    (kk : gd_G p l e R s m args below meth c D tC ad (fun q => s.heap.size ≤ q) n nL cells slots Q (pc + 1) lv (.int (nI L) :: st) w) : gd_G p l e R s m args below meth c D tC ad (fun q => s.heap.size ≤ q) n nL cells slots Q pc lv (.ref 45 :: st) w := by
  intro H locs ls hP hS hl
  have := va_slen (rest := st.map (gd_tr ad)) (ls := ls) E.1.1 E.1.2.1 hX hbl (show ¬ s.heap.size ≤ b by omega) hS hd (kk H locs ls hP hS hl)
  rw [← hab] at this
  exact this
/-- true is returned -/
theorem gd_true {b : Nat} (E : gd_E p s m #[Value.ref b] c code nL own D tC ad (fun q => s.heap.size ≤ q) n) (hr : meth.sig.returnType = ret) (hlk : meth.locks = false) (hd : decode code pc = .ok (.ireturn, 1)) (h1 : cells ≤ 601024) (h2 : slots ≤ 7293034) : gd_G p l e room_1 s m #[Value.ref b] below meth c D tC ad (fun q => s.heap.size ≤ q) n nL cells slots (lw_Z below #[Value.ref b] s) pc lv [.int 1] w :=
  fun H locs ls hP hS hl => va_forget (fun q hq => hS.2.2 q hq) (W.widen h1 h2 (lw_ret E.1.1 E.1.2.1 hr hlk hd))
end GL
theorem gs_and15 (x : Int32) : ∃ t, t < 16 ∧ x &&& 15 = nI t := by
  refine ⟨(x &&& 15).toBitVec.toNat, ?_, ?_⟩
  · rw [Int32.toBitVec_and, BitVec.toNat_and]
    exact Nat.lt_of_le_of_lt Nat.and_le_right (by decide)
  · refine Int32.toBitVec_inj.mp ?_
    show _ = (Int32.ofNat _).toBitVec
    rw [Int32.toBitVec_ofNat']
    simp
theorem gs_len4 {L i : Nat} (hL : L ≤ 2048) (hi : i ≤ 4096) : nI L - 4 < nI i ↔ L < i + 4 := by
  by_cases h : 4 ≤ L
  · rw [show (4 : Int32) = nI 4 from rfl, pk_sub h, nI_ltI (by omega) (by omega)]
    omega
  · refine ⟨fun _ => by omega, fun _ => ?_⟩
    have h0 : nI L - 4 < 0 := by
      rcases (by omega : L = 0 ∨ L = 1 ∨ L = 2 ∨ L = 3) with rfl | rfl | rfl | rfl <;> decide
    exact Int32.lt_of_lt_of_le h0 (nI_pos' (by omega))
theorem gs_disp_3 (S : gs_T) (x : Int32) : (gs_disp S x).1 ≤ 3 := by
  unfold gs_disp
  split
  · exact (by decide : 1 ≤ 3)
  · cases gs_src S x.toNatClampNeg with
    | none => exact (by decide : 2 ≤ 3)
    | some c =>
      cases hf : gs_full S with
      | true => exact (by decide : 3 ≤ 3)
      | false => exact (by decide : 0 ≤ 3)
theorem gs_send_3 (S : gs_T) (d x y : Int32) : (gs_send S d x y).1 ≤ 3 := by
  unfold gs_send
  split
  · exact (by decide : 1 ≤ 3)
  · split
    · exact (by decide : 2 ≤ 3)
    · split
      · exact (by decide : 3 ≤ 3)
      · exact (by decide : 0 ≤ 3)
theorem gs_join_3 (S : gs_T) (d x : Int32) : (gs_join S d x).1 ≤ 3 := by
  unfold gs_join
  split
  · exact (by decide : 1 ≤ 3)
  · split
    · exact (by decide : 2 ≤ 3)
    · split
      · exact (by decide : 3 ≤ 3)
      · exact (by decide : 0 ≤ 3)
theorem gs_halve_3 (S : gs_T) (d : Int32) (u : Bool) : (gs_halve S d u).1 ≤ 3 := by
  unfold gs_halve
  split
  · exact (by decide : 1 ≤ 3)
  · unfold gs_half2
    split
    · split
      · exact (by decide : 0 ≤ 3)
      · exact (by decide : 2 ≤ 3)
    · exact (by decide : 2 ≤ 3)
theorem gs_run_3 (S : gs_T) (n : Int32) : (gs_run S n).1 ≤ 3 := by
  unfold gs_run
  split
  · exact (by decide : 1 ≤ 3)
  · exact (by decide : 0 ≤ 3)
theorem gs_discc_3 (S : gs_T) (d : Int32) : gs_discc S d ≤ 3 := by
  unfold gs_discc
  split
  · decide
  · split <;> decide
theorem gs_lookc_3 (S : gs_T) (d x : Int32) : gs_lookc S d x ≤ 3 := by
  unfold gs_lookc
  split <;> decide
theorem gs_readc_3 (S : gs_T) (d x : Int32) : gs_readc S d x ≤ 3 := by
  unfold gs_readc
  split <;> decide
theorem gs_code0 {k : Nat} (h : k ≤ 3) : nI k = 0 ↔ k = 0 := by rw [show (0 : Int32) = nI 0 from rfl, nI_eq (by omega) (by decide)]
