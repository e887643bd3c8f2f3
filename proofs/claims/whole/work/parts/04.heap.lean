abbrev gd_tys (tC : FieldType → ClassId) : List (ClassId × FieldType) := [(tC .int, .int), (tC .long, .long), (tC .boolean, .boolean), (tC (.object "GuardedDrops$Droplet"), .object "GuardedDrops$Droplet")]
/-- what is fixed in a method's body -/
def gd_E (p : Program) (s : State) (m : MethodId) (args : Array Value) (c : Code) (cc : ByteArray) (nL : Nat) (own : String) (D : va_G) (tC : FieldType → ClassId) (ad : Nat → Nat) (A : Nat → Prop) (n : Nat) : Prop :=
  CallFix p m c cc nL s args gd_all own ∧ va_K D gd_cl (gd_tys tC) s ∧ (∀ w, va_D A (gd_wl tC ad n w)) ∧ (∀ i j, ad i = ad j → i = j) ∧ (∀ x ∈ gd_nw, va_Nw x s)
section GH
variable {p : Program} {l : Launch} {e : Env} {R : Room} {s : State} {m : MethodId} {args : Array Value} {below : List Frame} {meth : Method} {c : Code} {D : va_G} {tC : FieldType → ClassId} {ad : Nat → Nat} {A : Nat → Prop} {n nL cells slots : Nat} {Q : State → Prop} {pc : Nat} {lv : List (Nat × Value)} {st : List Value} {w : gd_W} {cc : ByteArray} {own : String}
theorem gd_getf (E : gd_E p s m args c cc nL own D tC ad A n) {x ci j N k : Nat} {C : String} {T : u_T} (hd : decode cc pc = .ok (.getfield x, 3)) (hc : gd_cf ci C T N) (hj : j < N) (hlk : gd_lk own x (T j)) (hk : k < n) (hs : gd_sh k = .inl ci) {ty : FieldType} (ht : (gd_ft ci)[j]? = some ty)
    (kk : gd_G p l e R s m args below meth c D tC ad A n nL cells slots Q (pc + 3) lv (gd_av w k j ty :: st) w) : gd_G p l e R s m args below meth c D tC ad A n nL cells slots Q pc lv (.ref k :: st) w := by
  intro H locs ls hP hS hl
  obtain ⟨⟨hx, hb, hml, hown, hts⟩, hK, hDD, hinj, hN⟩ := E
  obtain ⟨hc1, hc2, -, -⟩ := hc
  have he : (gd_wl tC ad n w)[k]? = some (ad k, .inr (ci, gd_fs ad w k (gd_ft ci))) := by rw [gd_wl_at hk, hs]; rfl
  rcases hlk with h1 | ⟨host, h1⟩
  · exact va_get hx hb hts hc2 hown hK hP k he hc1 j hj (hts _ h1) (fun _ h => h) (gd_fs_at ht) hd (kk H locs ls hP hS hl)
  · exact va_getN hx hb hts hc2 hown hK hP k he hc1 j hj (va_Nw.use rfl (hN _ h1)) (fun _ h => h) (gd_fs_at ht) hd (kk H locs ls hP hS hl)
theorem gd_putf (E : gd_E p s m args c cc nL own D tC ad A n) {x ci j N k : Nat} {C : String} {T : u_T} (hd : decode cc pc = .ok (.putfield x, 3)) (hc : gd_cf ci C T N) (hj : j < N) (hlk : gd_lk own x (T j)) (hfin : (T j).2.2.2 = false) (hk : k < n) (hs : gd_sh k = .inl ci) {ty : FieldType} (ht : (gd_ft ci)[j]? = some ty)
    {v : Value} {w' : gd_W} (hoff : gd_off w w' k) (hv : gd_av w' k j ty = v) (ho : ∀ i t, i ≠ j → gd_av w' k i t = gd_av w k i t) (hn : narrow ty (gd_tr ad v) = gd_tr ad v) (hfit : fits ty (gd_tr ad v) = true)
    (kk : gd_G p l e R s m args below meth c D tC ad A n nL cells slots Q (pc + 3) lv st w') : gd_G p l e R s m args below meth c D tC ad A n nL cells slots Q pc lv (v :: .ref k :: st) w := by
  intro H locs ls hP hS hl
  obtain ⟨⟨hx, hb, hml, hown, hts⟩, hK, hDD, hinj, hN⟩ := E
  obtain ⟨hc1, hc2, ⟨ty0, hty, hty2⟩, hnm⟩ := hc
  have he : (gd_wl tC ad n w)[k]? = some (ad k, .inr (ci, gd_fs ad w k (gd_ft ci))) := by rw [gd_wl_at hk, hs]; rfl
  have hdj : parseFieldDescriptor (T j).2.2.1 = some ty := by rw [hty j hj, ← hty2 j hj, ht]
  have hlen : j < (gd_fs ad w k (gd_ft ci)).length := by rw [gd_fs_len]; exact (List.getElem?_eq_some_iff.mp ht).1
  have hset : (gd_wl tC ad n w).set k (ad k, .inr (ci, (gd_fs ad w k (gd_ft ci)).set j (gd_tr ad v))) = gd_wl tC ad n w' := by
    refine gd_wl_set hoff ?_
    rw [hs, gd_fs_set (w' := w') ht (by rw [hv]) (fun i t _ h => ho i t h)]
    rfl
  rcases hlk with h1 | ⟨host, h1⟩
  · exact va_put hx hb hts hc2 ty0 hty hnm hown hK hP (hDD w) hS k he hc1 j hj (hts _ h1) (fun _ h => h) hfin hdj hn hfit hlen hd (fun H1 locs1 hP1 _ hS1 => kk H1 locs1 ls (by rw [hset] at hP1; exact hP1) hS1 hl)
  · exact va_putN hx hb hts hc2 ty0 hty hnm hown hK hP (hDD w) hS k he hc1 j hj (va_Nw.use rfl (hN _ h1)) (fun _ h => h) hfin hdj hn hfit hlen hd (fun H1 locs1 hP1 _ hS1 => kk H1 locs1 ls (by rw [hset] at hP1; exact hP1) hS1 hl)
theorem gd_av_I {w : gd_W} {k j i : Nat} {x : Int32} {t : FieldType} (h : i ≠ j) : gd_av (gd_rI w k (upd (w.1 k) j x)) k i t = gd_av w k i t := by
  cases t <;> simp [gd_av, gd_rI, upd, h]
theorem gd_av_L {w : gd_W} {k j i : Nat} {x : Int64} {t : FieldType} (h : i ≠ j) : gd_av (gd_rL w k (vp_updL (w.2.1 k) j x)) k i t = gd_av w k i t := by
  cases t <;> simp [gd_av, gd_rL, vp_updL, h]
theorem gd_puti (E : gd_E p s m args c cc nL own D tC ad A n) {x ci j N k : Nat} {C : String} {T : u_T} (hd : decode cc pc = .ok (.putfield x, 3)) (hc : gd_cf ci C T N) (hj : j < N) (hlk : gd_lk own x (T j)) (hfin : (T j).2.2.2 = false) (hk : k < n) (hs : gd_sh k = .inl ci) (ht : (gd_ft ci)[j]? = some .int) {v : Int32}
    (kk : gd_G p l e R s m args below meth c D tC ad A n nL cells slots Q (pc + 3) lv st (gd_rI w k (upd (w.1 k) j v))) : gd_G p l e R s m args below meth c D tC ad A n nL cells slots Q pc lv (.int v :: .ref k :: st) w :=
  gd_putf E hd hc hj hlk hfin hk hs ht (gd_off_I _ _ _) (by simp [gd_av, gd_rI, upd]) (fun _ _ h => gd_av_I h) rfl rfl kk
theorem gd_putz (E : gd_E p s m args c cc nL own D tC ad A n) {x ci j N k : Nat} {C : String} {T : u_T} (hd : decode cc pc = .ok (.putfield x, 3)) (hc : gd_cf ci C T N) (hj : j < N) (hlk : gd_lk own x (T j)) (hfin : (T j).2.2.2 = false) (hk : k < n) (hs : gd_sh k = .inl ci) (ht : (gd_ft ci)[j]? = some .boolean) {v : Int32} (hv : v = 0 ∨ v = 1)
    (kk : gd_G p l e R s m args below meth c D tC ad A n nL cells slots Q (pc + 3) lv st (gd_rI w k (upd (w.1 k) j v))) : gd_G p l e R s m args below meth c D tC ad A n nL cells slots Q pc lv (.int v :: .ref k :: st) w :=
  gd_putf E hd hc hj hlk hfin hk hs ht (gd_off_I _ _ _) (by simp [gd_av, gd_rI, upd]) (fun _ _ h => gd_av_I h) (by rcases hv with rfl | rfl <;> rfl) (by rcases hv with rfl | rfl <;> rfl) kk
theorem gd_putl (E : gd_E p s m args c cc nL own D tC ad A n) {x ci j N k : Nat} {C : String} {T : u_T} (hd : decode cc pc = .ok (.putfield x, 3)) (hc : gd_cf ci C T N) (hj : j < N) (hlk : gd_lk own x (T j)) (hfin : (T j).2.2.2 = false) (hk : k < n) (hs : gd_sh k = .inl ci) (ht : (gd_ft ci)[j]? = some .long) {v : Int64}
    (kk : gd_G p l e R s m args below meth c D tC ad A n nL cells slots Q (pc + 3) lv st (gd_rL w k (vp_updL (w.2.1 k) j v))) : gd_G p l e R s m args below meth c D tC ad A n nL cells slots Q pc lv (.long v :: .ref k :: st) w :=
  gd_putf E hd hc hj hlk hfin hk hs ht (gd_off_L _ _ _) (by simp [gd_av, gd_rL, vp_updL]) (fun _ _ h => gd_av_L h) rfl rfl kk
-- arrays: the index is a number below the length
theorem gd_iald (E : gd_E p s m args c cc nL own D tC ad A n) {k j len : Nat} {i : Int32} (hd : decode cc pc = .ok (.iaload, 1)) (hk : k < n) (hs : gd_sh k = .inr (.int, len)) (hi : i = nI j) (hj : j < len) (hlen : len < 2 ^ 31)
    (kk : gd_G p l e R s m args below meth c D tC ad A n nL cells slots Q (pc + 1) lv (.int (w.1 k j) :: st) w) : gd_G p l e R s m args below meth c D tC ad A n nL cells slots Q pc lv (.int i :: .ref k :: st) w := by
  intro H locs ls hP hS hl
  obtain ⟨⟨hx, hb, hml, hown, hts⟩, hK, hDD, hinj, hN⟩ := E
  subst hi
  have he : (gd_wl tC ad n w)[k]? = some (ad k, .inl (tC .int, len, .inl (w.1 k))) := by rw [gd_wl_at hk, hs]; rfl
  exact va_iald hx hb hK hP k 0 he rfl (vp_in_nI hj hlen) hd (by rw [nI_clamp (by omega)]; exact kk H locs ls hP hS hl)
theorem gd_zald (E : gd_E p s m args c cc nL own D tC ad A n) {k j len : Nat} {i : Int32} (hd : decode cc pc = .ok (.baload, 1)) (hk : k < n) (hs : gd_sh k = .inr (.boolean, len)) (hi : i = nI j) (hj : j < len) (hlen : len < 2 ^ 31)
    (kk : gd_G p l e R s m args below meth c D tC ad A n nL cells slots Q (pc + 1) lv (.int (w.1 k j) :: st) w) : gd_G p l e R s m args below meth c D tC ad A n nL cells slots Q pc lv (.int i :: .ref k :: st) w := by
  intro H locs ls hP hS hl
  obtain ⟨⟨hx, hb, hml, hown, hts⟩, hK, hDD, hinj, hN⟩ := E
  subst hi
  have he : (gd_wl tC ad n w)[k]? = some (ad k, .inl (tC .boolean, len, .inl (w.1 k))) := by rw [gd_wl_at hk, hs]; rfl
  exact va_zald hx hb hK hP k 2 he rfl (vp_in_nI hj hlen) hd (by rw [nI_clamp (by omega)]; exact kk H locs ls hP hS hl)
theorem gd_lald (E : gd_E p s m args c cc nL own D tC ad A n) {k j len : Nat} {i : Int32} (hd : decode cc pc = .ok (.laload, 1)) (hk : k < n) (hs : gd_sh k = .inr (.long, len)) (hi : i = nI j) (hj : j < len) (hlen : len < 2 ^ 31)
    (kk : gd_G p l e R s m args below meth c D tC ad A n nL cells slots Q (pc + 1) lv (.long (w.2.1 k j) :: st) w) : gd_G p l e R s m args below meth c D tC ad A n nL cells slots Q pc lv (.int i :: .ref k :: st) w := by
  intro H locs ls hP hS hl
  obtain ⟨⟨hx, hb, hml, hown, hts⟩, hK, hDD, hinj, hN⟩ := E
  subst hi
  have he : (gd_wl tC ad n w)[k]? = some (ad k, .inl (tC .long, len, .inr (.inl (w.2.1 k)))) := by rw [gd_wl_at hk, hs]; rfl
  exact va_lald hx hb hK hP k 1 he rfl (vp_in_nI hj hlen) hd (by rw [nI_clamp (by omega)]; exact kk H locs ls hP hS hl)
theorem gd_aald (E : gd_E p s m args c cc nL own D tC ad A n) {k j len q : Nat} {i : Int32} (hd : decode cc pc = .ok (.aaload, 1)) (hk : k < n) (hs : gd_sh k = .inr (.object "GuardedDrops$Droplet", len)) (hi : i = nI j) (hj : j < len) (hlen : len < 2 ^ 31) (hq : w.2.2 k j = some q)
    (kk : gd_G p l e R s m args below meth c D tC ad A n nL cells slots Q (pc + 1) lv (.ref q :: st) w) : gd_G p l e R s m args below meth c D tC ad A n nL cells slots Q pc lv (.int i :: .ref k :: st) w := by
  intro H locs ls hP hS hl
  obtain ⟨⟨hx, hb, hml, hown, hts⟩, hK, hDD, hinj, hN⟩ := E
  subst hi
  have he : (gd_wl tC ad n w)[k]? = some (ad k, .inl (tC (.object "GuardedDrops$Droplet"), len, .inr (.inr (.inr (.inr (fun j => (w.2.2 k j).map ad)))))) := by rw [gd_wl_at hk, hs]; rfl
  exact va_aldq hx hb hK hP k 3 he rfl (vp_in_nI hj hlen) hd (by rw [nI_clamp (by omega), hq]; exact kk H locs ls hP hS hl)
theorem gd_iast (E : gd_E p s m args c cc nL own D tC ad A n) {k j len : Nat} {i v : Int32} (hd : decode cc pc = .ok (.iastore, 1)) (hk : k < n) (hs : gd_sh k = .inr (.int, len)) (hi : i = nI j) (hj : j < len) (hlen : len < 2 ^ 31)
    (kk : gd_G p l e R s m args below meth c D tC ad A n nL cells slots Q (pc + 1) lv st (gd_rI w k (upd (w.1 k) j v))) : gd_G p l e R s m args below meth c D tC ad A n nL cells slots Q pc lv (.int v :: .int i :: .ref k :: st) w := by
  intro H locs ls hP hS hl
  obtain ⟨⟨hx, hb, hml, hown, hts⟩, hK, hDD, hinj, hN⟩ := E
  subst hi
  have he : (gd_wl tC ad n w)[k]? = some (ad k, .inl (tC .int, len, .inl (w.1 k))) := by rw [gd_wl_at hk, hs]; rfl
  have hset : (gd_wl tC ad n w).set k (ad k, .inl (tC .int, len, .inl (upd (w.1 k) j v))) = gd_wl tC ad n (gd_rI w k (upd (w.1 k) j v)) := gd_wl_set (gd_off_I _ _ _) (by rw [hs]; simp [gd_ce, gd_ar, gd_rI])
  exact va_iast hx hb hK hP (hDD w) hS k 0 he rfl (vp_in_nI hj hlen) hd (fun H1 locs1 hP1 _ hS1 => kk H1 locs1 ls (by rw [nI_clamp (by omega), hset] at hP1; exact hP1) hS1 hl)
theorem gd_nar01 {v : Int32} (hv : v = 0 ∨ v = 1) : vp_nar .boolean v = v := by rcases hv with rfl | rfl <;> rfl
theorem gd_zast (E : gd_E p s m args c cc nL own D tC ad A n) {k j len : Nat} {i v : Int32} (hd : decode cc pc = .ok (.bastore, 1)) (hk : k < n) (hs : gd_sh k = .inr (.boolean, len)) (hi : i = nI j) (hj : j < len) (hlen : len < 2 ^ 31) (hv : v = 0 ∨ v = 1)
    (kk : gd_G p l e R s m args below meth c D tC ad A n nL cells slots Q (pc + 1) lv st (gd_rI w k (upd (w.1 k) j v))) : gd_G p l e R s m args below meth c D tC ad A n nL cells slots Q pc lv (.int v :: .int i :: .ref k :: st) w := by
  intro H locs ls hP hS hl
  obtain ⟨⟨hx, hb, hml, hown, hts⟩, hK, hDD, hinj, hN⟩ := E
  subst hi
  have he : (gd_wl tC ad n w)[k]? = some (ad k, .inl (tC .boolean, len, .inl (w.1 k))) := by rw [gd_wl_at hk, hs]; rfl
  have hset : (gd_wl tC ad n w).set k (ad k, .inl (tC .boolean, len, .inl (upd (w.1 k) j v))) = gd_wl tC ad n (gd_rI w k (upd (w.1 k) j v)) := gd_wl_set (gd_off_I _ _ _) (by rw [hs]; simp [gd_ce, gd_ar, gd_rI])
  exact va_zast hx hb hK hP (hDD w) hS k 2 he rfl (vp_in_nI hj hlen) hd (fun H1 locs1 hP1 _ hS1 => kk H1 locs1 ls (by rw [nI_clamp (by omega), gd_nar01 hv, hset] at hP1; exact hP1) hS1 hl)
theorem gd_last (E : gd_E p s m args c cc nL own D tC ad A n) {k j len : Nat} {i : Int32} {v : Int64} (hd : decode cc pc = .ok (.lastore, 1)) (hk : k < n) (hs : gd_sh k = .inr (.long, len)) (hi : i = nI j) (hj : j < len) (hlen : len < 2 ^ 31)
    (kk : gd_G p l e R s m args below meth c D tC ad A n nL cells slots Q (pc + 1) lv st (gd_rL w k (vp_updL (w.2.1 k) j v))) : gd_G p l e R s m args below meth c D tC ad A n nL cells slots Q pc lv (.long v :: .int i :: .ref k :: st) w := by
  intro H locs ls hP hS hl
  obtain ⟨⟨hx, hb, hml, hown, hts⟩, hK, hDD, hinj, hN⟩ := E
  subst hi
  have he : (gd_wl tC ad n w)[k]? = some (ad k, .inl (tC .long, len, .inr (.inl (w.2.1 k)))) := by rw [gd_wl_at hk, hs]; rfl
  have hset : (gd_wl tC ad n w).set k (ad k, .inl (tC .long, len, .inr (.inl (vp_updL (w.2.1 k) j v)))) = gd_wl tC ad n (gd_rL w k (vp_updL (w.2.1 k) j v)) := gd_wl_set (gd_off_L _ _ _) (by rw [hs]; simp [gd_ce, gd_ar, gd_rL])
  exact va_last hx hb hK hP (hDD w) hS k 1 he rfl (vp_in_nI hj hlen) hd (fun H1 locs1 hP1 _ hS1 => kk H1 locs1 ls (by rw [nI_clamp (by omega), hset] at hP1; exact hP1) hS1 hl)
theorem gd_aast (E : gd_E p s m args c cc nL own D tC ad A n) {k j len q ci : Nat} {i : Int32} {r : vw_C} (hd : decode cc pc = .ok (.aastore, 1)) (hk : k < n) (hs : gd_sh k = .inr (.object "GuardedDrops$Droplet", len)) (hi : i = nI j) (hj : j < len) (hlen : len < 2 ^ 31) (hq : q < n) (hsq : gd_sh q = .inl ci) (hc : gd_cl[ci]? = some r) (hr : r.1 = "GuardedDrops$Droplet")
    (kk : gd_G p l e R s m args below meth c D tC ad A n nL cells slots Q (pc + 1) lv st (gd_rR w k (va_up (w.2.2 k) j (some q)))) : gd_G p l e R s m args below meth c D tC ad A n nL cells slots Q pc lv (.ref q :: .int i :: .ref k :: st) w := by
  intro H locs ls hP hS hl
  obtain ⟨⟨hx, hb, hml, hown, hts⟩, hK, hDD, hinj, hN⟩ := E
  subst hi
  have he : (gd_wl tC ad n w)[k]? = some (ad k, .inl (tC (.object "GuardedDrops$Droplet"), len, .inr (.inr (.inr (.inr (fun j => (w.2.2 k j).map ad)))))) := by rw [gd_wl_at hk, hs]; rfl
  have hv : (gd_wl tC ad n w)[q]? = some (ad q, .inr (ci, gd_fs ad w q (gd_ft ci))) := by rw [gd_wl_at hq, hsq]; rfl
  have hf : va_up (fun j => (w.2.2 k j).map ad) j (some (ad q)) = fun i => (va_up (w.2.2 k) j (some q) i).map ad := by
    funext i
    by_cases h : i = j <;> simp [va_up, h]
  have hset : (gd_wl tC ad n w).set k (ad k, .inl (tC (.object "GuardedDrops$Droplet"), len, .inr (.inr (.inr (.inr (va_up (fun j => (w.2.2 k j).map ad) j (some (ad q)))))))) = gd_wl tC ad n (gd_rR w k (va_up (w.2.2 k) j (some q))) := gd_wl_set (gd_off_R _ _ _) (by rw [hs, hf]; simp [gd_ce, gd_ar, gd_rR])
  exact va_astq hx hb hK hP (hDD w) hS k 3 q ci he (by rw [hr]; rfl) hv hc (vp_in_nI hj hlen) hd (fun H1 locs1 hP1 _ hS1 => kk H1 locs1 ls (by rw [nI_clamp (by omega), hset] at hP1; exact hP1) hS1 hl)
end GH
