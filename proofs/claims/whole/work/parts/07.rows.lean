section GX
variable {p : Program} {l : Launch} {e : Env} {R : Room} {s : State} {m : MethodId} {args : Array Value} {below : List Frame} {meth : Method} {c : Code} {D : va_G} {tC : FieldType → ClassId} {ad : Nat → Nat} {A : Nat → Prop} {n nL cells slots : Nat} {Q : State → Prop} {pc : Nat} {lv : List (Nat × Value)} {st : List Value} {w : gd_W} {cc : ByteArray} {own : String}
theorem gd_it {q : Prop} {d : Decidable q} {a b : Nat} (h : q) (k : gd_G p l e R s m args below meth c D tC ad A n nL cells slots Q a lv st w) : gd_G p l e R s m args below meth c D tC ad A n nL cells slots Q (@ite _ q d a b) lv st w := by
  rw [if_pos h]; exact k
theorem gd_if {q : Prop} {d : Decidable q} {a b : Nat} (h : ¬ q) (k : gd_G p l e R s m args below meth c D tC ad A n nL cells slots Q b lv st w) : gd_G p l e R s m args below meth c D tC ad A n nL cells slots Q (@ite _ q d a b) lv st w := by
  rw [if_neg h]; exact k
/-- fewer locals -/
theorem gd_lv {lv' : List (Nat × Value)} (h : ∀ q ∈ lv', q ∈ lv) (k : gd_G p l e R s m args below meth c D tC ad A n nL cells slots Q pc lv' st w) : gd_G p l e R s m args below meth c D tC ad A n nL cells slots Q pc lv st w := by
  intro H locs ls hP hS hl
  refine k H locs ls hP hS (gd_has_sub hl fun q hq => ?_)
  obtain ⟨x, hx, rfl⟩ := List.mem_map.mp hq
  exact List.mem_map.mpr ⟨x, h x hx, rfl⟩
/-- the same place, written otherwise -/
theorem gd_cg {lv' : List (Nat × Value)} {st' : List Value} {w' : gd_W} (k : gd_G p l e R s m args below meth c D tC ad A n nL cells slots Q pc lv' st' w') (h1 : lv = lv' := by rfl) (h2 : st = st' := by rfl) (h3 : w = w' := by rfl) : gd_G p l e R s m args below meth c D tC ad A n nL cells slots Q pc lv st w := by
  subst h1; subst h2; subst h3; exact k
theorem gd_alen (E : gd_E p s m args c cc nL own D tC ad A n) {k len t0 : Nat} {ty : FieldType} (hd : decode cc pc = .ok (.arraylength, 1)) (hk : k < n) (hs : gd_sh k = .inr (ty, len)) (ht : (gd_tys tC)[t0]? = some (tC ty, ty))
    (kk : gd_G p l e R s m args below meth c D tC ad A n nL cells slots Q (pc + 1) lv (.int (nI len) :: st) w) : gd_G p l e R s m args below meth c D tC ad A n nL cells slots Q pc lv (.ref k :: st) w := by
  intro H locs ls hP hS hl
  obtain ⟨⟨hx, hb, hml, hown, hts⟩, hK, hDD, hinj, hN⟩ := E
  have he : (gd_wl tC ad n w)[k]? = some (ad k, .inl (tC ty, len, gd_ar ad w k ty)) := by rw [gd_wl_at hk, hs]; rfl
  exact va_alen hx hb hK hP k t0 he ht (v := nI len) rfl hd (kk H locs ls hP hS hl)
theorem gd_iretq (E : gd_E p s m args c cc nL own D tC ad (gd_A ad n s.heap.size) n) (hr : meth.sig.returnType = some .int) (hlk : meth.locks = false) (hd : decode cc pc = .ok (.ireturn, 1)) {v v' : Int32} {w' : gd_W} (hv : v' = v) (hw : w' = w) : gd_G p l e R s m args below meth c D tC ad (gd_A ad n s.heap.size) n nL cells slots (MQ below (gd_Q D tC ad n s.heap.size (some (.int v')) w') args s cells slots (gd_A ad n s.heap.size)) pc lv [.int v] w := by
  subst hv; subst hw; exact gd_iret E hr hlk hd
theorem gd_zretq (E : gd_E p s m args c cc nL own D tC ad (gd_A ad n s.heap.size) n) (hr : meth.sig.returnType = some .boolean) (hlk : meth.locks = false) (hd : decode cc pc = .ok (.ireturn, 1)) {v v' : Int32} {w' : gd_W} (h01 : v = 0 ∨ v = 1) (hv : v' = v) (hw : w' = w) : gd_G p l e R s m args below meth c D tC ad (gd_A ad n s.heap.size) n nL cells slots (MQ below (gd_Q D tC ad n s.heap.size (some (.int v')) w') args s cells slots (gd_A ad n s.heap.size)) pc lv [.int v] w := by
  subst hv; subst hw; exact gd_zret E hr hlk hd h01
theorem gd_lretq (E : gd_E p s m args c cc nL own D tC ad (gd_A ad n s.heap.size) n) (hr : meth.sig.returnType = some .long) (hlk : meth.locks = false) (hd : decode cc pc = .ok (.lreturn, 1)) {v v' : Int64} {w' : gd_W} (hv : v' = v) (hw : w' = w) : gd_G p l e R s m args below meth c D tC ad (gd_A ad n s.heap.size) n nL cells slots (MQ below (gd_Q D tC ad n s.heap.size (some (.long v')) w') args s cells slots (gd_A ad n s.heap.size)) pc lv [.long v] w := by
  subst hv; subst hw; exact gd_lret E hr hlk hd
theorem gd_vretq (E : gd_E p s m args c cc nL own D tC ad (gd_A ad n s.heap.size) n) (hr : meth.sig.returnType = none) (hlk : meth.locks = false) (hd : decode cc pc = .ok (.return_, 1)) {w' : gd_W} (hw : w' = w) : gd_G p l e R s m args below meth c D tC ad (gd_A ad n s.heap.size) n nL cells slots (MQ below (gd_Q D tC ad n s.heap.size none w') args s cells slots (gd_A ad n s.heap.size)) pc lv [] w := by
  subst hw; exact gd_vret E hr hlk hd
theorem gd_aretq (E : gd_E p s m args c cc nL own D tC ad (gd_A ad n s.heap.size) n) {C : String} (hr : meth.sig.returnType = some (.object C)) (hlk : meth.locks = false) (hd : decode cc pc = .ok (.areturn, 1)) {v v' : Value} {w' : gd_W} (h01 : v = .null ∨ ∃ a, v = .ref a) (hv : v' = v) (hw : w' = w) : gd_G p l e R s m args below meth c D tC ad (gd_A ad n s.heap.size) n nL cells slots (MQ below (gd_Q D tC ad n s.heap.size (some v') w') args s cells slots (gd_A ad n s.heap.size)) pc lv [v] w := by
  subst hv; subst hw; exact gd_aret E hr hlk hd h01
theorem gd_tabIn (E : gd_E p s m args c cc nL own D tC ad A n) {dflt lo hi off : Int} {offs : Array Int} {len tgt : Nat} {x : Int32} (hd : decode cc pc = .ok (.tableswitch dflt lo hi offs, len)) (h1 : ¬ x.toInt < lo) (h2 : ¬ hi < x.toInt) (ho : offs[(x.toInt - lo).toNat]? = some off) (ht : (pc : Int) + off = (tgt : Int))
    (kk : gd_G p l e R s m args below meth c D tC ad A n nL cells slots Q tgt lv st w) : gd_G p l e R s m args below meth c D tC ad A n nL cells slots Q pc lv (.int x :: st) w :=
  fun H locs ls hP hS hl => lv_tableIn E.1.1 E.1.2.1 hd h1 h2 ho ht (kk H locs ls hP hS hl)
theorem gd_tabOut (E : gd_E p s m args c cc nL own D tC ad A n) {dflt lo hi : Int} {offs : Array Int} {len tgt : Nat} {x : Int32} (hd : decode cc pc = .ok (.tableswitch dflt lo hi offs, len)) (h : x.toInt < lo ∨ hi < x.toInt) (ht : (pc : Int) + dflt = (tgt : Int))
    (kk : gd_G p l e R s m args below meth c D tC ad A n nL cells slots Q tgt lv st w) : gd_G p l e R s m args below meth c D tC ad A n nL cells slots Q pc lv (.int x :: st) w :=
  fun H locs ls hP hS hl => lv_tableOut E.1.1 E.1.2.1 hd h ht (kk H locs ls hP hS hl)
end GX
