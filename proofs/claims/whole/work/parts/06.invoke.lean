section GI
variable {p : Program} {l : Launch} {e : Env} {R : Room} {s : State} {m : MethodId} {args : Array Value} {below : List Frame} {meth : Method} {c : Code} {D : va_G} {tC : FieldType → ClassId} {ad : Nat → Nat} {A : Nat → Prop} {n nL cells slots : Nat} {Q : State → Prop} {pc : Nat} {lv : List (Nat × Value)} {st : List Value} {w : gd_W} {cc : ByteArray} {own : String}
theorem gd_sum {rest : List Value} (h : (rest.map fun v => v.category).sum ≤ 8) : ((rest.map (gd_tr ad)).map fun v => v.category).sum ≤ 8 := by
  have e1 : (rest.map (gd_tr ad)).map (fun v => v.category) = rest.map fun v => v.category := by
    rw [List.map_map]
    exact List.map_congr_left fun v _ => gd_tr_cat ad v
  rw [e1]
  exact h
theorem gd_AA {A : Nat → Prop} {sz sz' : Nat} (hA : ∀ q, gd_A ad n sz q → A q) (h : sz ≤ sz') : ∀ q, gd_A ad n sz' q → A q := fun q hq => hA q (hq.elim Or.inl (fun z => Or.inr (Nat.le_trans h z)))
set_option maxHeartbeats 1000000 in
/-- invokevirtual -/
theorem gd_cV (E : gd_E p s m args c cc nL own D tC ad A n) (hA : ∀ q, gd_A ad n s.heap.size q → A q) {y : MethodName} {bytes : ByteArray} {maxL fr lo k idx ci : Nat} {ret : Option FieldType} {av rest : List Value} {r : Option Value} {w' : gd_W} (hc : gd_Ct l D tC ad n fr lo y bytes maxL ret (.ref k :: av) w r w') (hd : decode cc pc = .ok (.invokevirtual idx, 3)) (hl : gd_ml own idx y)
    (hcv : gd_CV y bytes maxL ret ci av.length) (hk : k < n) (hs : gd_sh k = .inl ci) (hR : fr + 1 ≤ R.frames ∧ 8 + (maxL + 11) + lo ≤ R.locals) (hcs : cells ≤ R.cells ∧ slots ≤ R.slots) (hst : st = av.reverse ++ .ref k :: rest) (hsum : (rest.map fun v => v.category).sum ≤ 8)
    (kk : gd_G p l e R s m args below meth c D tC ad A n nL cells slots Q (pc + 3) lv (r.toList ++ rest) w') : gd_G p l e R s m args below meth c D tC ad A n nL cells slots Q pc lv st w := by
  intro H locs ls hP hS hv
  have hst' : st.map (gd_tr ad) = (av.map (gd_tr ad)).reverse ++ .ref (ad k) :: rest.map (gd_tr ad) := by rw [hst]; simp [gd_tr]
  have he : (gd_wl tC ad n w)[k]? = some (ad k, .inr (ci, gd_fs ad w k (gd_ft ci))) := by rw [gd_wl_at hk, hs]; rfl
  have hts := E.1.2.2.2.2
  obtain ⟨⟨h1, h2, h3, h4⟩, ⟨T, N, hcl⟩, hy⟩ := hcv
  have hp : PreV s H y.cls (ad k) (va_Pc ((Value.ref k :: av).map (gd_tr ad)) (gd_Pre D tC ad n H.size w)) (av.map (gd_tr ad)) := ⟨gd_blind gd_nwk, va_recv E.2.1 hP hcl he, gd_pre E gd_nwk hP (av := .ref k :: av)⟩
  have hg := gd_gin gd_good h4
  rcases hl with h0 | ⟨host, h0⟩
  · have cw : CallW R s args own y.cls idx y bytes maxL ret (.code y bytes maxL ret :: gd_all) (gd_rm fr lo) 0 0 av.length := ⟨callB_of av.length hts hg rfl rfl rfl (hts _ h3) (hts _ h0) hy hR, hts _ h1, hts _ h2⟩
    rw [hst']
    exact gd_back (va_runV E.1 (hc H.size) cw hp rfl (by simp) hv.1 rfl (lv_room (gd_sum hsum)) hd hcs) rfl (gd_AA hA hS.1) hS hv kk
  · have cw : va_CN R s args own idx y host bytes maxL ret (.code y bytes maxL ret :: gd_all) (gd_rm fr lo) 0 0 av.length ∧ (Cond.instanceMethod y).before args s = true ∧ (Cond.selects y.cls y y).before args s = true := ⟨va_cnB av.length hts hg rfl rfl rfl (E.2.2.2.2 _ h0) (hts _ h3) hy hR, hts _ h1, hts _ h2⟩
    rw [hst']
    exact gd_back (va_runVN E.1 (hc H.size) cw hp rfl (by simp) hv.1 rfl (lv_room (gd_sum hsum)) hd hcs) rfl (gd_AA hA hS.1) hS hv kk
set_option maxHeartbeats 1000000 in
/-- invokestatic -/
theorem gd_cS (E : gd_E p s m args c cc nL own D tC ad A n) (hA : ∀ q, gd_A ad n s.heap.size q → A q) {y : MethodName} {bytes : ByteArray} {maxL fr lo idx : Nat} {ret : Option FieldType} {av rest : List Value} {r : Option Value} {w' : gd_W} (hc : gd_Ct l D tC ad n fr lo y bytes maxL ret av w r w') (hd : decode cc pc = .ok (.invokestatic idx, 3)) (hl : gd_ml own idx y)
    (hcv : gd_CS y bytes maxL ret av.length) (hR : fr + 1 ≤ R.frames ∧ 8 + (maxL + 11) + lo ≤ R.locals) (hcs : cells ≤ R.cells ∧ slots ≤ R.slots) (hst : st = av.reverse ++ rest) (hsum : (rest.map fun v => v.category).sum ≤ 8)
    (kk : gd_G p l e R s m args below meth c D tC ad A n nL cells slots Q (pc + 3) lv (r.toList ++ rest) w') : gd_G p l e R s m args below meth c D tC ad A n nL cells slots Q pc lv st w := by
  intro H locs ls hP hS hv
  have hst' : st.map (gd_tr ad) = (av.map (gd_tr ad)).reverse ++ rest.map (gd_tr ad) := by rw [hst]; simp
  have hts := E.1.2.2.2.2
  obtain ⟨⟨h1, h3, h4⟩, hy⟩ := hcv
  have hp : PreS s H (va_Pc (av.map (gd_tr ad)) (gd_Pre D tC ad n H.size w)) (av.map (gd_tr ad)) := ⟨gd_blind gd_nwk, gd_pre E gd_nwk hP (av := av)⟩
  have hg := gd_gin gd_good h4
  rcases hl with h0 | ⟨host, h0⟩
  · have cw : CallB R s args own idx y bytes maxL ret (.code y bytes maxL ret :: gd_all) (gd_rm fr lo) 0 0 av.length ∧ (Cond.static y).before args s = true := ⟨callB_of av.length hts hg rfl rfl rfl (hts _ h3) (hts _ h0) hy hR, hts _ h1⟩
    rw [hst']
    exact gd_back (va_runS E.1 (hc H.size) cw hp rfl (by simp) hv.1 rfl (lv_room (gd_sum hsum)) hd hcs) rfl (gd_AA hA hS.1) hS hv kk
  · have cw : va_CN R s args own idx y host bytes maxL ret (.code y bytes maxL ret :: gd_all) (gd_rm fr lo) 0 0 av.length ∧ (Cond.static y).before args s = true ∧ True := ⟨va_cnB av.length hts hg rfl rfl rfl (E.2.2.2.2 _ h0) (hts _ h3) hy hR, hts _ h1, trivial⟩
    rw [hst']
    exact gd_back (va_runSN E.1 (hc H.size) cw hp rfl (by simp) hv.1 rfl (lv_room (gd_sum hsum)) hd hcs) rfl (gd_AA hA hS.1) hS hv kk
end GI
