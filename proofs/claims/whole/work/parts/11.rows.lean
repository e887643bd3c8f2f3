section GY
variable {p : Program} {l : Launch} {e : Env} {R : Room} {s : State} {m : MethodId} {args : Array Value} {below : List Frame} {meth : Method} {c : Code} {D : va_G} {tC : FieldType → ClassId} {ad : Nat → Nat} {A : Nat → Prop} {n nL cells slots : Nat} {Q : State → Prop} {pc : Nat} {lv : List (Nat × Value)} {st : List Value} {w : gd_W} {cc : ByteArray} {own : String}
-- arrays, with what they hold
theorem gd_ialdv (E : gd_E p s m args c cc nL own D tC ad A n) {k j len : Nat} {i v : Int32} (hd : decode cc pc = .ok (.iaload, 1)) (hk : k < n) (hs : gd_sh k = .inr (.int, len)) (hi : i = nI j) (hj : j < len) (hlen : len < 2 ^ 31) (hv : w.1 k j = v)
    (kk : gd_G p l e R s m args below meth c D tC ad A n nL cells slots Q (pc + 1) lv (.int v :: st) w) : gd_G p l e R s m args below meth c D tC ad A n nL cells slots Q pc lv (.int i :: .ref k :: st) w :=
  gd_iald E hd hk hs hi hj hlen (by rw [hv]; exact kk)
theorem gd_zaldv (E : gd_E p s m args c cc nL own D tC ad A n) {k j len : Nat} {i v : Int32} (hd : decode cc pc = .ok (.baload, 1)) (hk : k < n) (hs : gd_sh k = .inr (.boolean, len)) (hi : i = nI j) (hj : j < len) (hlen : len < 2 ^ 31) (hv : w.1 k j = v)
    (kk : gd_G p l e R s m args below meth c D tC ad A n nL cells slots Q (pc + 1) lv (.int v :: st) w) : gd_G p l e R s m args below meth c D tC ad A n nL cells slots Q pc lv (.int i :: .ref k :: st) w :=
  gd_zald E hd hk hs hi hj hlen (by rw [hv]; exact kk)
theorem gd_laldv (E : gd_E p s m args c cc nL own D tC ad A n) {k j len : Nat} {i : Int32} {v : Int64} (hd : decode cc pc = .ok (.laload, 1)) (hk : k < n) (hs : gd_sh k = .inr (.long, len)) (hi : i = nI j) (hj : j < len) (hlen : len < 2 ^ 31) (hv : w.2.1 k j = v)
    (kk : gd_G p l e R s m args below meth c D tC ad A n nL cells slots Q (pc + 1) lv (.long v :: st) w) : gd_G p l e R s m args below meth c D tC ad A n nL cells slots Q pc lv (.int i :: .ref k :: st) w :=
  gd_lald E hd hk hs hi hj hlen (by rw [hv]; exact kk)
-- a field of a droplet, whichever it is
theorem gd_getd (E : gd_E p s m args c cc nL own D tC ad A n) {x j k : Nat} {fl : gd_F} {f : Nat → Option (Instr × Nat)} {lc : gd_L} (K : gd_MK cc own f (gd_ff fl) (gd_lf lc)) (hd : decode cc pc = .ok (.getfield x, 3)) {b : Bool} (hf : gd_ff fl x = some (0, j, b)) (hk : k < n) (hs : gd_sh k = .inl 0) {ty : FieldType} (ht : (gd_ft 0)[j]? = some ty) {v : Value} (hv : gd_av w k j ty = v)
    (kk : gd_G p l e R s m args below meth c D tC ad A n nL cells slots Q (pc + 3) lv (v :: st) w) : gd_G p l e R s m args below meth c D tC ad A n nL cells slots Q pc lv (.ref k :: st) w := by
  obtain ⟨C, T, N, g1, g2, g3, -⟩ := K.2.1 _ _ hf
  exact gd_getf E hd g1 g2 g3 hk hs ht (by rw [hv]; exact kk)
theorem gd_putd (E : gd_E p s m args c cc nL own D tC ad A n) {x j k : Nat} {fl : gd_F} {f : Nat → Option (Instr × Nat)} {lc : gd_L} (K : gd_MK cc own f (gd_ff fl) (gd_lf lc)) (hd : decode cc pc = .ok (.putfield x, 3)) (hf : gd_ff fl x = some (0, j, true)) (hk : k < n) (hs : gd_sh k = .inl 0) (ht : (gd_ft 0)[j]? = some .int) {v : Int32}
    (kk : gd_G p l e R s m args below meth c D tC ad A n nL cells slots Q (pc + 3) lv st (gd_rI w k (upd (w.1 k) j v))) : gd_G p l e R s m args below meth c D tC ad A n nL cells slots Q pc lv (.int v :: .ref k :: st) w := by
  obtain ⟨C, T, N, g1, g2, g3, g4⟩ := K.2.1 _ _ hf
  exact gd_puti E hd g1 g2 g3 (g4 rfl) hk hs ht kk
theorem gd_putdz (E : gd_E p s m args c cc nL own D tC ad A n) {x j k : Nat} {fl : gd_F} {f : Nat → Option (Instr × Nat)} {lc : gd_L} (K : gd_MK cc own f (gd_ff fl) (gd_lf lc)) (hd : decode cc pc = .ok (.putfield x, 3)) (hf : gd_ff fl x = some (0, j, true)) (hk : k < n) (hs : gd_sh k = .inl 0) (ht : (gd_ft 0)[j]? = some .boolean) {v : Int32} (hv : v = 0 ∨ v = 1)
    (kk : gd_G p l e R s m args below meth c D tC ad A n nL cells slots Q (pc + 3) lv st (gd_rI w k (upd (w.1 k) j v))) : gd_G p l e R s m args below meth c D tC ad A n nL cells slots Q pc lv (.int v :: .ref k :: st) w := by
  obtain ⟨C, T, N, g1, g2, g3, g4⟩ := K.2.1 _ _ hf
  exact gd_putz E hd g1 g2 g3 (g4 rfl) hk hs ht hv kk
end GY
-- worlds: what is read behind a write
theorem gd_rI_s (w : gd_W) (k : Nat) (f : Nat → Int32) : (gd_rI w k f).1 k = f := by simp [gd_rI]
theorem gd_rI_n {w : gd_W} {k a : Nat} {f : Nat → Int32} (h : a ≠ k) : (gd_rI w k f).1 a = w.1 a := by simp [gd_rI, h]
theorem gd_rI_L (w : gd_W) (k : Nat) (f : Nat → Int32) : (gd_rI w k f).2.1 = w.2.1 := rfl
theorem gd_rI_R (w : gd_W) (k : Nat) (f : Nat → Int32) : (gd_rI w k f).2.2 = w.2.2 := rfl
theorem gd_rL_s (w : gd_W) (k : Nat) (f : Nat → Int64) : (gd_rL w k f).2.1 k = f := by simp [gd_rL]
theorem gd_rL_n {w : gd_W} {k a : Nat} {f : Nat → Int64} (h : a ≠ k) : (gd_rL w k f).2.1 a = w.2.1 a := by simp [gd_rL, h]
theorem gd_rL_I (w : gd_W) (k : Nat) (f : Nat → Int64) : (gd_rL w k f).1 = w.1 := rfl
theorem gd_rL_R (w : gd_W) (k : Nat) (f : Nat → Int64) : (gd_rL w k f).2.2 = w.2.2 := rfl
theorem gd_rR_s (w : gd_W) (k : Nat) (f : Nat → Option Nat) : (gd_rR w k f).2.2 k = f := by simp [gd_rR]
theorem gd_rR_n {w : gd_W} {k a : Nat} {f : Nat → Option Nat} (h : a ≠ k) : (gd_rR w k f).2.2 a = w.2.2 a := by simp [gd_rR, h]
theorem gd_rR_I (w : gd_W) (k : Nat) (f : Nat → Option Nat) : (gd_rR w k f).1 = w.1 := rfl
theorem gd_rR_L (w : gd_W) (k : Nat) (f : Nat → Option Nat) : (gd_rR w k f).2.1 = w.2.1 := rfl
theorem gd_u_s (f : Nat → Int32) (k : Nat) (x : Int32) : upd f k x k = x := by simp [upd]
theorem gd_u_n {f : Nat → Int32} {k j : Nat} {x : Int32} (h : j ≠ k) : upd f k x j = f j := by simp [upd, h]
theorem gd_ul_s (f : Nat → Int64) (k : Nat) (x : Int64) : vp_updL f k x k = x := by simp [vp_updL]
theorem gd_ul_n {f : Nat → Int64} {k j : Nat} {x : Int64} (h : j ≠ k) : vp_updL f k x j = f j := by simp [vp_updL, h]
theorem gd_lvp {p : Program} {l : Launch} {e : Env} {R : Room} {s : State} {m : MethodId} {args : Array Value} {below : List Frame} {meth : Method} {c : Code} {D : va_G} {tC : FieldType → ClassId} {ad : Nat → Nat} {A : Nat → Prop} {n nL cells slots : Nat} {Q : State → Prop} {pc : Nat} {lv lv' : List (Nat × Value)} {st : List Value} {w : gd_W} (is : List Nat) (h : lv_pick lv is = lv')
    (k : gd_G p l e R s m args below meth c D tC ad A n nL cells slots Q pc lv' st w) : gd_G p l e R s m args below meth c D tC ad A n nL cells slots Q pc lv st w := by
  refine gd_lv (fun q hq => ?_) k
  rw [← h] at hq
  obtain ⟨i, -, hi⟩ := List.mem_filterMap.mp hq
  exact List.mem_of_getElem? hi
