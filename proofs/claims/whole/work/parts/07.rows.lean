section GX
variable {p : Program} {l : Launch} {e : Env} {R : Room} {s : State} {m : MethodId} {args : Array Value} {below : List Frame} {meth : Method} {c : Code} {D : va_G} {tC : FieldType → ClassId} {ad : Nat → Nat} {A : Nat → Prop} {n nL cells slots : Nat} {Q : State → Prop} {pc : Nat} {lv : List (Nat × Value)} {st : List Value} {w : gd_W} {cc : ByteArray} {own : String}
theorem gd_it {q : Prop} {d : Decidable q} {a b : Nat} (h : q) (k : gd_G p l e R s m args below meth c D tC ad A n nL cells slots Q a lv st w) : gd_G p l e R s m args below meth c D tC ad A n nL cells slots Q (@ite _ q d a b) lv st w := by
  rw [if_pos h]; exact k
theorem gd_if {q : Prop} {d : Decidable q} {a b : Nat} (h : ¬ q) (k : gd_G p l e R s m args below meth c D tC ad A n nL cells slots Q b lv st w) : gd_G p l e R s m args below meth c D tC ad A n nL cells slots Q (@ite _ q d a b) lv st w := by
  rw [if_neg h]; exact k
/-- fewer locals -/
theorem gd_lv {lv' : List (Nat × Value)} (h : ∀ q ∈ lv', q ∈ lv) (k : gd_G p l e R s m args below meth c D tC ad A n nL cells slots Q pc lv' st w) : gd_G p l e R s m args below meth c D tC ad A n nL cells slots Q pc lv st w := by
  intro H locs ls hP hS hl
  refine k H locs ls hP hS (gd_has_sub hl fun q hq => ?_)
  obtain ⟨x, hx, rfl⟩ := List.mem_map.mp hq
  exact List.mem_map.mpr ⟨x, h x hx, rfl⟩
/-- the same place, written otherwise -/
theorem gd_cg {lv' : List (Nat × Value)} {st' : List Value} {w' : gd_W} (k : gd_G p l e R s m args below meth c D tC ad A n nL cells slots Q pc lv' st' w') (h1 : lv = lv' := by rfl) (h2 : st = st' := by rfl) (h3 : w = w' := by rfl) : gd_G p l e R s m args below meth c D tC ad A n nL cells slots Q pc lv st w := by
  subst h1; subst h2; subst h3; exact k
theorem gd_alen (E : gd_E p s m args c cc nL own D tC ad A n) {k len t0 : Nat} {ty : FieldType} (hd : decode cc pc = .ok (.arraylength, 1)) (hk : k < n) (hs : gd_sh k = .inr (ty, len)) (ht : (gd_tys tC)[t0]? = some (tC ty, ty))
    (kk : gd_G p l e R s m args below meth c D tC ad A n nL cells slots Q (pc + 1) lv (.int (nI len) :: st) w) : gd_G p l e R s m args below meth c D tC ad A n nL cells slots Q pc lv (.ref k :: st) w := by
  intro H locs ls hP hS hl
  obtain ⟨⟨hx, hb, hml, hown, hts⟩, hK, hDD, hinj, hN⟩ := E
  have he : (gd_wl tC ad n w)[k]? = some (ad k, .inl (tC ty, len, gd_ar ad w k ty)) := by rw [gd_wl_at hk, hs]; rfl
  exact va_alen hx hb hK hP k t0 he ht (v := nI len) rfl hd (kk H locs ls hP hS hl)
end GX
