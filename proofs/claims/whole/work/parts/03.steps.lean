-- how long an instruction is
def gd_len (i : Instr) : Nat := match i with
  | .bipush _ | .iload _ | .lload _ | .aload _ | .istore _ | .lstore _ | .astore _ | .ldc _ | .newarray _ => 2
  | .sipush _ | .iinc _ _ | .ifCond _ _ | .if_icmp _ _ | .if_acmp _ _ | .ifnull _ | .ifnonnull _ | .goto _ | .getfield _ | .putfield _ | .invokevirtual _ | .invokestatic _ | .invokespecial _ | .new _ | .ldc2_w _ | .anewarray _ => 3
  | _ => 1
-- where it may go
def gd_tg (i : Instr) (pc tgt : Nat) : Bool := match i with
  | .ifCond _ off | .if_icmp _ off | .if_acmp _ off | .ifnull off | .ifnonnull off | .goto off => decide ((pc : Int) + off = (tgt : Int))
  | _ => true
def gd_rv (v : Value) : Option (Option Nat) := match v with
  | .null => some none
  | .ref k => some (some k)
  | _ => none
theorem gd_rv_eq {v : Value} {r : Option Nat} (h : gd_rv v = some r) : v = va_rf r := by
  cases v <;> simp [gd_rv] at h <;> subst h <;> rfl
abbrev gd_C : Type := Nat × List (Nat × Value) × List Value
-- a step that touches no heap
def gd_ps (nL : Nat) (i : Instr) (tgt pc : Nat) (lv : List (Nat × Value)) (st : List Value) : Option gd_C := match i with
  | .iconst k => some (pc + 1, lv, .int (Int32.ofInt k) :: st)
  | .bipush k => some (pc + 2, lv, .int (Int8.ofInt k).toInt32 :: st)
  | .sipush k => some (pc + 3, lv, .int (Int16.ofInt k).toInt32 :: st)
  | .lconst k => some (pc + 1, lv, .long (Int64.ofNat (k : Nat)) :: st)
  | .aconst_null => some (pc + 1, lv, .null :: st)
  | .iload_n k => match gd_get lv k with
    | some (.int x) => some (pc + 1, lv, .int x :: st)
    | _ => none
  | .iload k => match gd_get lv k with
    | some (.int x) => some (pc + 2, lv, .int x :: st)
    | _ => none
  | .lload_n k => match gd_get lv k with
    | some (.long x) => some (pc + 1, lv, .long x :: st)
    | _ => none
  | .lload k => match gd_get lv k with
    | some (.long x) => some (pc + 2, lv, .long x :: st)
    | _ => none
  | .aload_n k => match gd_get lv k with
    | some (.ref x) => some (pc + 1, lv, .ref x :: st)
    | some .null => some (pc + 1, lv, .null :: st)
    | _ => none
  | .aload k => match gd_get lv k with
    | some (.ref x) => some (pc + 2, lv, .ref x :: st)
    | some .null => some (pc + 2, lv, .null :: st)
    | _ => none
  | .istore_n k => match st with
    | .int x :: st => bif Nat.blt k nL then some (pc + 1, gd_put1 lv k (.int x), st) else none
    | _ => none
  | .istore k => match st with
    | .int x :: st => bif Nat.blt k nL then some (pc + 2, gd_put1 lv k (.int x), st) else none
    | _ => none
  | .lstore_n k => match st with
    | .long x :: st => bif Nat.blt (k + 1) nL then some (pc + 1, gd_put2 lv k (.long x), st) else none
    | _ => none
  | .lstore k => match st with
    | .long x :: st => bif Nat.blt (k + 1) nL then some (pc + 2, gd_put2 lv k (.long x), st) else none
    | _ => none
  | .astore_n k => match st with
    | .ref x :: st => bif Nat.blt k nL then some (pc + 1, gd_put1 lv k (.ref x), st) else none
    | .null :: st => bif Nat.blt k nL then some (pc + 1, gd_put1 lv k .null, st) else none
    | _ => none
  | .astore k => match st with
    | .ref x :: st => bif Nat.blt k nL then some (pc + 2, gd_put1 lv k (.ref x), st) else none
    | .null :: st => bif Nat.blt k nL then some (pc + 2, gd_put1 lv k .null, st) else none
    | _ => none
  | .iinc k d => match gd_get lv k with
    | some (.int x) => bif Nat.blt k nL then some (pc + 3, gd_put1 lv k (.int (x + Int32.ofInt d)), st) else none
    | _ => none
  | .iadd => match st with
    | .int y :: .int x :: st => some (pc + 1, lv, .int (x + y) :: st)
    | _ => none
  | .isub => match st with
    | .int y :: .int x :: st => some (pc + 1, lv, .int (x - y) :: st)
    | _ => none
  | .imul => match st with
    | .int y :: .int x :: st => some (pc + 1, lv, .int (x * y) :: st)
    | _ => none
  | .iand => match st with
    | .int y :: .int x :: st => some (pc + 1, lv, .int (x &&& y) :: st)
    | _ => none
  | .idiv => match st with
    | .int y :: .int x :: st => if y = 0 then none else some (pc + 1, lv, .int (x / y) :: st)
    | _ => none
  | .irem => match st with
    | .int y :: .int x :: st => if y = 0 then none else some (pc + 1, lv, .int (x - x / y * y) :: st)
    | _ => none
  | .ladd => match st with
    | .long y :: .long x :: st => some (pc + 1, lv, .long (x + y) :: st)
    | _ => none
  | .lmul => match st with
    | .long y :: .long x :: st => some (pc + 1, lv, .long (x * y) :: st)
    | _ => none
  | .land => match st with
    | .long y :: .long x :: st => some (pc + 1, lv, .long (x &&& y) :: st)
    | _ => none
  | .lor => match st with
    | .long y :: .long x :: st => some (pc + 1, lv, .long (x ||| y) :: st)
    | _ => none
  | .lxor => match st with
    | .long y :: .long x :: st => some (pc + 1, lv, .long (x ^^^ y) :: st)
    | _ => none
  | .ldiv => match st with
    | .long y :: .long x :: st => if y = 0 then none else some (pc + 1, lv, .long (x / y) :: st)
    | _ => none
  | .lrem => match st with
    | .long y :: .long x :: st => if y = 0 then none else some (pc + 1, lv, .long (x - x / y * y) :: st)
    | _ => none
  | .lshl => match st with
    | .int y :: .long x :: st => some (pc + 1, lv, .long (x <<< (y.toInt64 &&& 63)) :: st)
    | _ => none
  | .lshr => match st with
    | .int y :: .long x :: st => some (pc + 1, lv, .long (x >>> (y.toInt64 &&& 63)) :: st)
    | _ => none
  | .lushr => match st with
    | .int y :: .long x :: st => some (pc + 1, lv, .long (x.toUInt64 >>> (y.toInt64.toUInt64 &&& Int64.toUInt64 63)).toInt64 :: st)
    | _ => none
  | .i2l => match st with
    | .int x :: st => some (pc + 1, lv, .long x.toInt64 :: st)
    | _ => none
  | .lcmp => match st with
    | .long y :: .long x :: st => some (pc + 1, lv, .int (lg_cmp x y) :: st)
    | _ => none
  | .dup => match st with
    | v :: st => bif Nat.beq v.category 1 then some (pc + 1, lv, v :: v :: st) else none
    | _ => none
  | .pop => match st with
    | v :: st => bif Nat.beq v.category 1 then some (pc + 1, lv, st) else none
    | _ => none
  | .dup_x1 => match st with
    | v :: u :: st => bif Nat.beq v.category 1 && Nat.beq u.category 1 then some (pc + 1, lv, v :: u :: v :: st) else none
    | _ => none
  | .dup2 => match st with
    | v :: u :: st => bif Nat.beq v.category 1 && Nat.beq u.category 1 then some (pc + 1, lv, v :: u :: v :: u :: st) else none
    | _ => none
  | .ifCond cn _ => match st with
    | .int x :: st => match cn with
      | .eq => some (if x = 0 then tgt else pc + 3, lv, st)
      | .ne => some (if x = 0 then pc + 3 else tgt, lv, st)
      | .lt => some (if x < 0 then tgt else pc + 3, lv, st)
      | .ge => some (if 0 ≤ x then tgt else pc + 3, lv, st)
      | .gt => some (if 0 < x then tgt else pc + 3, lv, st)
      | .le => some (if x ≤ 0 then tgt else pc + 3, lv, st)
    | _ => none
  | .if_icmp cn _ => match st with
    | .int y :: .int x :: st => match cn with
      | .eq => some (if x = y then tgt else pc + 3, lv, st)
      | .ne => some (if x = y then pc + 3 else tgt, lv, st)
      | .lt => some (if x < y then tgt else pc + 3, lv, st)
      | .ge => some (if y ≤ x then tgt else pc + 3, lv, st)
      | .gt => some (if y < x then tgt else pc + 3, lv, st)
      | .le => some (if x ≤ y then tgt else pc + 3, lv, st)
    | _ => none
  | .if_acmp cn _ => match st with
    | v :: u :: st => match gd_rv v, gd_rv u with
      | some ry, some rx => match cn with
        | .eq => some (if rx = ry then tgt else pc + 3, lv, st)
        | .ne => some (if rx = ry then pc + 3 else tgt, lv, st)
      | _, _ => none
    | _ => none
  | .ifnull _ => match st with
    | .ref _ :: st => some (pc + 3, lv, st)
    | .null :: st => some (tgt, lv, st)
    | _ => none
  | .ifnonnull _ => match st with
    | .ref _ :: st => some (tgt, lv, st)
    | .null :: st => some (pc + 3, lv, st)
    | _ => none
  | .goto _ => some (tgt, lv, st)
  | _ => none
theorem gd_bf {α : Type} {b : Bool} {x r : α} (h : (bif b then some x else none) = some r) : b = true ∧ x = r := by
  cases b with
  | true => exact ⟨rfl, Option.some.inj h⟩
  | false => cases h
theorem gd_ne {α : Type} {q : Prop} {d : Decidable q} {x r : α} (h : (@ite _ q d none (some x)) = some r) : ¬ q ∧ x = r := by
  by_cases hq : q
  · rw [if_pos hq] at h; cases h
  · rw [if_neg hq] at h; exact ⟨hq, Option.some.inj h⟩
theorem gd_blt {a b : Nat} (h : Nat.blt a b = true) : a < b := Nat.le_of_ble_eq_true h
theorem gd_beq {a b : Nat} (h : Nat.beq a b = true) : a = b := Nat.eq_of_beq_eq_true h
theorem gd_map_inj {ad : Nat → Nat} (hinj : ∀ i j, ad i = ad j → i = j) {x y : Option Nat} (h : x.map ad = y.map ad) : x = y := by
  cases x <;> cases y <;> simp at h ⊢
  exact hinj _ _ h
/-- from this place, with these locals, this stack and this world, the machine comes to Q -/
def gd_G (p : Program) (l : Launch) (e : Env) (R : Room) (s : State) (m : MethodId) (args : Array Value) (below : List Frame) (meth : Method) (c : Code) (D : va_G) (tC : FieldType → ClassId) (ad : Nat → Nat) (A : Nat → Prop) (n nL cells slots : Nat) (Q : State → Prop) (pc : Nat) (lv : List (Nat × Value)) (st : List Value) (w : gd_W) : Prop :=
  ∀ (H : Heap) (locs : List Loc) (ls : Array Slot), va_P D gd_cl (gd_wl tC ad n w) H → va_S A s.heap H locs → lv_has ls nL (gd_lt ad lv) → W p l e R s m args below meth c H locs cells slots Q (F0 m pc ls (st.map (gd_tr ad)))
section GD
variable {p : Program} {l : Launch} {e : Env} {R : Room} {s : State} {m : MethodId} {args : Array Value} {below : List Frame} {meth : Method} {c : Code} {D : va_G} {tC : FieldType → ClassId} {ad : Nat → Nat} {A : Nat → Prop} {n nL cells slots : Nat} {Q : State → Prop} {pc tgt : Nat} {lv : List (Nat × Value)} {st : List Value} {w : gd_W} {cc : ByteArray} {i : Instr}
theorem gd_ite {q : Prop} {d : Decidable q} {a b : Nat} (kt : q → gd_G p l e R s m args below meth c D tC ad A n nL cells slots Q a lv st w) (kf : ¬ q → gd_G p l e R s m args below meth c D tC ad A n nL cells slots Q b lv st w) : gd_G p l e R s m args below meth c D tC ad A n nL cells slots Q (@ite _ q d a b) lv st w := by
  by_cases h : q
  · rw [if_pos h]; exact kt h
  · rw [if_neg h]; exact kf h
theorem gd_ifp {q : Prop} {d : Decidable q} {a b : Nat} (h : q) (k : gd_G p l e R s m args below meth c D tC ad A n nL cells slots Q (@ite _ q d a b) lv st w) : gd_G p l e R s m args below meth c D tC ad A n nL cells slots Q a lv st w := by
  rw [if_pos h] at k; exact k
theorem gd_ifn {q : Prop} {d : Decidable q} {a b : Nat} (h : ¬ q) (k : gd_G p l e R s m args below meth c D tC ad A n nL cells slots Q (@ite _ q d a b) lv st w) : gd_G p l e R s m args below meth c D tC ad A n nL cells slots Q b lv st w := by
  rw [if_neg h] at k; exact k
set_option maxHeartbeats 4000000 in
theorem gd_ps_ok (hx : p.tables.exec = Jvm.exec) (hb : c.code = cc) (hinj : ∀ i j, ad i = ad j → i = j) (hd : decode cc pc = .ok (i, gd_len i)) (ht : gd_tg i pc tgt = true) {r : gd_C} (h : gd_ps nL i tgt pc lv st = some r)
    (k : gd_G p l e R s m args below meth c D tC ad A n nL cells slots Q r.1 r.2.1 r.2.2 w) : gd_G p l e R s m args below meth c D tC ad A n nL cells slots Q pc lv st w := by
  intro H locs ls hP hS hl
  unfold gd_ps at h
  split at h
  · cases h; exact lv_iconst hx hb hd rfl (k H locs ls hP hS hl)
  · cases h; exact lv_bipush hx hb hd rfl (k H locs ls hP hS hl)
  · cases h; exact lv_sipush hx hb hd rfl (k H locs ls hP hS hl)
  · cases h; exact lv_lconst hx hb hd rfl (k H locs ls hP hS hl)
  · cases h; exact lv_null hx hb hd (k H locs ls hP hS hl)
  · split at h
    · rename_i hg; cases h; exact lv_iload_n hx hb hd rfl (gd_has_get hl hg) (k H locs ls hP hS hl)
    · cases h
  · split at h
    · rename_i hg; cases h; exact lv_iload hx hb hd (gd_has_get hl hg) (k H locs ls hP hS hl)
    · cases h
  · split at h
    · rename_i hg; cases h; exact lv_lload_n hx hb hd rfl (gd_has_get hl hg) (k H locs ls hP hS hl)
    · cases h
  · split at h
    · rename_i hg; cases h; exact lv_lload hx hb hd (gd_has_get hl hg) (k H locs ls hP hS hl)
    · cases h
  · split at h
    · rename_i hg; cases h; exact lv_aload_n hx hb hd rfl (gd_has_get hl hg) (k H locs ls hP hS hl)
    · rename_i hg; cases h; exact lv_aload_nN hx hb hd rfl (gd_has_get hl hg) (k H locs ls hP hS hl)
    · cases h
  · split at h
    · rename_i hg; cases h; exact lv_aload hx hb hd (gd_has_get hl hg) (k H locs ls hP hS hl)
    · rename_i hg; cases h; exact lv_aloadN hx hb hd (gd_has_get hl hg) (k H locs ls hP hS hl)
    · cases h
  · split at h
    · obtain ⟨hk, rfl⟩ := gd_bf h
      exact lv_istore_n hx hb hd rfl hl (gd_blt hk) rfl (fun ls' hl' => k H locs ls' hP hS (gd_has_put1 (v := .int _) hl'))
    · cases h
  · split at h
    · obtain ⟨hk, rfl⟩ := gd_bf h
      exact lv_istore hx hb hd hl (gd_blt hk) rfl (fun ls' hl' => k H locs ls' hP hS (gd_has_put1 (v := .int _) hl'))
    · cases h
  · split at h
    · obtain ⟨hk, rfl⟩ := gd_bf h
      exact lv_lstore_n hx hb hd rfl hl (gd_blt hk) rfl (fun ls' hl' => k H locs ls' hP hS (gd_has_put2 (v := .long _) hl'))
    · cases h
  · split at h
    · obtain ⟨hk, rfl⟩ := gd_bf h
      exact lv_lstore hx hb hd hl (gd_blt hk) rfl (fun ls' hl' => k H locs ls' hP hS (gd_has_put2 (v := .long _) hl'))
    · cases h
  · split at h
    · obtain ⟨hk, rfl⟩ := gd_bf h
      exact lv_astore_n hx hb hd rfl hl (gd_blt hk) rfl (fun ls' hl' => k H locs ls' hP hS (gd_has_put1 (v := .ref _) hl'))
    · obtain ⟨hk, rfl⟩ := gd_bf h
      exact lv_astore_nN hx hb hd rfl hl (gd_blt hk) rfl (fun ls' hl' => k H locs ls' hP hS (gd_has_put1 (v := .null) hl'))
    · cases h
  · split at h
    · obtain ⟨hk, rfl⟩ := gd_bf h
      exact lv_astore hx hb hd hl (gd_blt hk) rfl (fun ls' hl' => k H locs ls' hP hS (gd_has_put1 (v := .ref _) hl'))
    · obtain ⟨hk, rfl⟩ := gd_bf h
      exact lv_astoreN hx hb hd hl (gd_blt hk) rfl (fun ls' hl' => k H locs ls' hP hS (gd_has_put1 (v := .null) hl'))
    · cases h
  · split at h
    · rename_i x hg
      obtain ⟨hk, rfl⟩ := gd_bf h
      obtain ⟨pl, hpl⟩ := List.getElem?_of_mem (List.mem_map.mpr ⟨_, gd_get_mem hg, rfl⟩ : (_, gd_tr ad (.int x)) ∈ gd_lt ad lv)
      exact lv_iinc hx hb hd hl hpl rfl (gd_blt hk) rfl (fun ls' hl' => k H locs ls' hP hS (gd_has_put1 (v := .int _) hl'))
    · cases h
  · split at h
    · cases h; exact lv_iadd hx hb hd (k H locs ls hP hS hl)
    · cases h
  · split at h
    · cases h; exact lv_isub hx hb hd (k H locs ls hP hS hl)
    · cases h
  · split at h
    · cases h; exact lv_imul hx hb hd (k H locs ls hP hS hl)
    · cases h
  · split at h
    · cases h; exact lv_iand hx hb hd (k H locs ls hP hS hl)
    · cases h
  · split at h
    · obtain ⟨hk, rfl⟩ := gd_ne h; exact lv_idiv hx hb hd hk (k H locs ls hP hS hl)
    · cases h
  · split at h
    · obtain ⟨hk, rfl⟩ := gd_ne h; exact lv_irem hx hb hd hk (k H locs ls hP hS hl)
    · cases h
  · split at h
    · cases h; exact lv_ladd hx hb hd (k H locs ls hP hS hl)
    · cases h
  · split at h
    · cases h; exact lv_lmul hx hb hd (k H locs ls hP hS hl)
    · cases h
  · split at h
    · cases h; exact lv_land hx hb hd (k H locs ls hP hS hl)
    · cases h
  · split at h
    · cases h; exact lv_lor hx hb hd (k H locs ls hP hS hl)
    · cases h
  · split at h
    · cases h; exact lv_lxor hx hb hd (k H locs ls hP hS hl)
    · cases h
  · split at h
    · obtain ⟨hk, rfl⟩ := gd_ne h; exact lv_ldiv hx hb hd hk (k H locs ls hP hS hl)
    · cases h
  · split at h
    · obtain ⟨hk, rfl⟩ := gd_ne h; exact lv_lrem hx hb hd hk (k H locs ls hP hS hl)
    · cases h
  · split at h
    · cases h; exact lv_lshl hx hb hd rfl (k H locs ls hP hS hl)
    · cases h
  · split at h
    · cases h; exact lv_lshr hx hb hd rfl (k H locs ls hP hS hl)
    · cases h
  · split at h
    · cases h; exact lv_lushr hx hb hd rfl (k H locs ls hP hS hl)
    · cases h
  · split at h
    · cases h; exact lv_i2l hx hb hd rfl (k H locs ls hP hS hl)
    · cases h
  · split at h
    · cases h; exact W.lcmp hx hb hd (k H locs ls hP hS hl)
    · cases h
  · split at h
    · obtain ⟨hk, rfl⟩ := gd_bf h
      exact lv_dup hx hb hd ((gd_tr_cat ad _).trans (gd_beq hk)) (k H locs ls hP hS hl)
    · cases h
  · split at h
    · obtain ⟨hk, rfl⟩ := gd_bf h
      exact lv_pop hx hb hd ((gd_tr_cat ad _).trans (gd_beq hk)) (k H locs ls hP hS hl)
    · cases h
  · split at h
    · obtain ⟨hk, rfl⟩ := gd_bf h
      obtain ⟨h1, h2⟩ := (Bool.and_eq_true _ _).mp hk
      exact lv_dup_x1 hx hb hd ((gd_tr_cat ad _).trans (gd_beq h1)) ((gd_tr_cat ad _).trans (gd_beq h2)) (k H locs ls hP hS hl)
    · cases h
  · split at h
    · obtain ⟨hk, rfl⟩ := gd_bf h
      obtain ⟨h1, h2⟩ := (Bool.and_eq_true _ _).mp hk
      exact lv_dup2_11 hx hb hd ((gd_tr_cat ad _).trans (gd_beq h1)) ((gd_tr_cat ad _).trans (gd_beq h2)) (k H locs ls hP hS hl)
    · cases h
  · have ht' := of_decide_eq_true ht
    split at h
    · split at h
      · cases h; exact lv_if_eq hx hb hd ht' (fun q => gd_ifp q k H locs ls hP hS hl) (fun q => gd_ifn q k H locs ls hP hS hl)
      · cases h; exact lv_if_ne hx hb hd ht' (fun q => gd_ifn q k H locs ls hP hS hl) (fun q => gd_ifp q k H locs ls hP hS hl)
      · cases h; exact lv_if_lt hx hb hd ht' (fun q => gd_ifp q k H locs ls hP hS hl) (fun q => gd_ifn q k H locs ls hP hS hl)
      · cases h; exact lv_if_ge hx hb hd ht' (fun q => gd_ifp q k H locs ls hP hS hl) (fun q => gd_ifn q k H locs ls hP hS hl)
      · cases h; exact lv_if_gt hx hb hd ht' (fun q => gd_ifp q k H locs ls hP hS hl) (fun q => gd_ifn q k H locs ls hP hS hl)
      · cases h; exact lv_if_le hx hb hd ht' (fun q => gd_ifp q k H locs ls hP hS hl) (fun q => gd_ifn q k H locs ls hP hS hl)
    · cases h
  · have ht' := of_decide_eq_true ht
    split at h
    · split at h
      · cases h; exact lv_icmp_eq hx hb hd ht' (fun q => gd_ifp q k H locs ls hP hS hl) (fun q => gd_ifn q k H locs ls hP hS hl)
      · cases h; exact lv_icmp_ne hx hb hd ht' (fun q => gd_ifn q k H locs ls hP hS hl) (fun q => gd_ifp q k H locs ls hP hS hl)
      · cases h; exact lv_icmp_lt hx hb hd ht' (fun q => gd_ifp q k H locs ls hP hS hl) (fun q => gd_ifn q k H locs ls hP hS hl)
      · cases h; exact lv_icmp_ge hx hb hd ht' (fun q => gd_ifp q k H locs ls hP hS hl) (fun q => gd_ifn q k H locs ls hP hS hl)
      · cases h; exact lv_icmp_gt hx hb hd ht' (fun q => gd_ifp q k H locs ls hP hS hl) (fun q => gd_ifn q k H locs ls hP hS hl)
      · cases h; exact lv_icmp_le hx hb hd ht' (fun q => gd_ifp q k H locs ls hP hS hl) (fun q => gd_ifn q k H locs ls hP hS hl)
    · cases h
  · have ht' := of_decide_eq_true ht
    split at h
    · split at h
      · rename_i v u st' rv ru ry rx hv hu
        have e1 := gd_rv_eq hv
        have e2 := gd_rv_eq hu
        subst e1; subst e2
        show W p l e R s m args below meth c H locs cells slots Q (F0 m pc ls (gd_tr ad (va_rf ry) :: gd_tr ad (va_rf rx) :: List.map (gd_tr ad) st'))
        rw [gd_tr_rf, gd_tr_rf]
        split at h
        · cases h; exact lv_acmp_eq hx hb hd ht' (fun q => gd_ifp (gd_map_inj hinj q) k H locs ls hP hS hl) (fun q => gd_ifn (fun z => q (by rw [z])) k H locs ls hP hS hl)
        · cases h; exact lv_acmp_ne hx hb hd ht' (fun q => gd_ifn (fun z => q (by rw [z])) k H locs ls hP hS hl) (fun q => gd_ifp (gd_map_inj hinj q) k H locs ls hP hS hl)
      · cases h
    · cases h
  · have ht' := of_decide_eq_true ht
    split at h
    · cases h; exact lv_ifnull hx hb hd (k H locs ls hP hS hl)
    · cases h; exact lv_ifnullN hx hb hd ht' (k H locs ls hP hS hl)
    · cases h
  · have ht' := of_decide_eq_true ht
    split at h
    · cases h; exact lv_ifnonnull hx hb hd ht' (k H locs ls hP hS hl)
    · cases h; exact lv_ifnonnullN hx hb hd (k H locs ls hP hS hl)
    · cases h
  · have ht' := of_decide_eq_true ht
    cases h; exact lv_goto hx hb hd ht' (k H locs ls hP hS hl)
  · cases h
end GD
