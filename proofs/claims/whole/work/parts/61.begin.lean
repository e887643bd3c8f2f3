/-! The start: nothing is there yet. -/
def gs_S0 : gs_T := (fun _ => 0, fun _ _ => 0, fun _ _ => 0, fun _ => 0, 0, [])
def gd_isD (k : Nat) : Bool := Nat.ble 4 k && Nat.ble k 21 && Nat.beq ((k - 4) % 3) 0
def gd_w0 : gd_W := (fun k => bif gd_isD k then (fun j => bif (Nat.beq j 2 || Nat.beq j 8 || Nat.beq j 9) then -1 else 0) else fun _ => 0, fun _ _ => 0, fun k j => if k = 3 ∧ j < 6 then some (4 + 3 * j) else none)
theorem gs_S0_dead (k : Nat) : ¬ gs_alive gs_S0 k := fun h => Nat.not_lt_zero k h.1
theorem gs_S0_Good : gs_Good gs_S0 := ⟨fun k hk => absurd hk (gs_S0_dead k), ⟨by decide, by decide⟩, fun k hk => absurd hk (gs_S0_dead k), fun k c n hk => absurd hk (gs_S0_dead k), fun a b ha => absurd ha (gs_S0_dead a), fun k hk => absurd hk (gs_S0_dead k), rfl, by decide⟩
theorem gr_M_0 : gr_M gd_w0 gs_S0 (fun _ => 0) :=
  ⟨⟨rfl, by decide⟩, fun d _ => ⟨rfl, (by decide : 0 ≤ 2)⟩, fun d _ => ⟨rfl, (by decide : 0 < 64)⟩, fun d _ => ⟨rfl, rfl, (by decide : 0 ≤ 60)⟩, fun d _ k hk => absurd hk (Nat.not_lt_zero k), fun d _ => ⟨rfl, (by decide : 0 ≤ 60)⟩, fun c _ => ⟨rfl, (by decide : 0 < 8)⟩, fun d _ k _ => rfl, fun d _ => ⟨rfl, (by decide : 0 ≤ 60)⟩, rfl, ⟨rfl, by decide⟩, ⟨rfl, by decide⟩, ⟨rfl, by decide⟩, fun j r h => by cases h⟩
theorem gr_C_0 : gr_C gd_w0 gs_S0 (fun i => i) := by
  refine ⟨⟨⟨rfl, by decide⟩, fun i hi => ⟨?_, hi⟩, fun i j _ _ h => h, fun i d hi => by cases hi⟩, ⟨rfl, by decide⟩, fun c _ => ⟨rfl, (by decide : 0 < 8)⟩, fun c _ => ?_, rfl, rfl, rfl, ⟨⟨rfl, by decide⟩, 0, by decide, rfl, fun j r h => by cases h⟩⟩
  · show (if 3 = 3 ∧ i < 6 then some (4 + 3 * i) else none) = _
    rw [if_pos ⟨rfl, hi⟩]
  · show gm_bit 0 c = true ↔ 0 = 1
    rw [gm_bit_0]
    exact ⟨fun h => (by cases h), fun h => (by cases h)⟩
/-- the cells' addresses; the script's is the 45th -/
def gd_ad (qs : List Nat) (b k : Nat) : Nat := if k < 45 then qs.getD k 0 else if k = 45 then b else qs.foldr (· + ·) (b + 1) + k
theorem gd_ad_le : ∀ (qs : List Nat) (b k : Nat), qs.getD k 0 < qs.foldr (· + ·) (b + 1) ∧ b < qs.foldr (· + ·) (b + 1)
  | [], b, k => by simp
  | q :: qs, b, 0 => by
    have := gd_ad_le qs b 0
    simp only [List.getD_cons_zero, List.foldr_cons]
    omega
  | q :: qs, b, k + 1 => by
    have := gd_ad_le qs b k
    simp only [List.getD_cons_succ, List.foldr_cons]
    omega
theorem gd_ad_inj {qs : List Nat} {b : Nat} (hd : ∀ i j, i < 45 → j < 45 → qs.getD i 0 = qs.getD j 0 → i = j) (hb : ∀ i, i < 45 → b < qs.getD i 0) : ∀ i j, gd_ad qs b i = gd_ad qs b j → i = j := by
  intro i j h
  unfold gd_ad at h
  have hi := gd_ad_le qs b i
  have hj := gd_ad_le qs b j
  by_cases i1 : i < 45
  · rw [if_pos i1] at h
    by_cases j1 : j < 45
    · rw [if_pos j1] at h; exact hd i j i1 j1 h
    · rw [if_neg j1] at h
      have := hb i i1
      by_cases j2 : j = 45
      · rw [if_pos j2] at h; omega
      · rw [if_neg j2] at h; omega
  · rw [if_neg i1] at h
    by_cases i2 : i = 45
    · rw [if_pos i2] at h
      by_cases j1 : j < 45
      · rw [if_pos j1] at h; have := hb j j1; omega
      · rw [if_neg j1] at h
        by_cases j2 : j = 45
        · omega
        · rw [if_neg j2] at h; omega
    · rw [if_neg i2] at h
      by_cases j1 : j < 45
      · rw [if_pos j1] at h; omega
      · rw [if_neg j1] at h
        by_cases j2 : j = 45
        · rw [if_pos j2] at h; omega
        · rw [if_neg j2] at h; omega
theorem gd_list6 {ad : Nat → Nat} {a0 a1 a2 a3 a4 a5 : Nat} (h0 : ad 4 = a0) (h1 : ad 7 = a1) (h2 : ad 10 = a2) (h3 : ad 13 = a3) (h4 : ad 16 = a4) (h5 : ad 19 = a5) : va_up (va_up (va_up (va_up (va_up (va_up (fun _ => none) 0 (some a0)) 1 (some a1)) 2 (some a2)) 3 (some a3)) 4 (some a4)) 5 (some a5) = fun j => (gd_w0.2.2 3 j).map ad := by
  funext j
  show _ = (if 3 = 3 ∧ j < 6 then some (4 + 3 * j) else none).map ad
  by_cases h : j < 6
  · rw [if_pos ⟨rfl, h⟩]
    rcases (by omega : j = 0 ∨ j = 1 ∨ j = 2 ∨ j = 3 ∨ j = 4 ∨ j = 5) with rfl | rfl | rfl | rfl | rfl | rfl
    · rw [← h0]; rfl
    · rw [← h1]; rfl
    · rw [← h2]; rfl
    · rw [← h3]; rfl
    · rw [← h4]; rfl
    · rw [← h5]; rfl
  · rw [if_neg (fun z => h z.2), va_up_n (by omega), va_up_n (by omega), va_up_n (by omega), va_up_n (by omega), va_up_n (by omega), va_up_n (by omega)]
    rfl
/-! What the tables say at the entry. -/
theorem gd_tyA {s : State} {args : Array Value} {ty : FieldType} {tC : FieldType → ClassId} (d : ClassId) (ht : tC ty = (s.vm.findClass ("[" ++ ty.toString)).getD d) (h : (Cond.arrayClass ty).before args s = true) (hra : ∀ cA : ClassId, s.vm.findClass ("[" ++ ty.toString) = some cA → va_RA s cA ty) : ArrOfT s (tC ty) ty ∧ va_RA s (tC ty) ty := by
  obtain ⟨cA, kA, comp, h1, h2, h3⟩ := Cond.arrayClass_spec h
  have e : tC ty = cA := by rw [ht, h1]; rfl
  rw [e]
  exact ⟨fun n z => ⟨fun k h => (by cases h), kA, h2, comp, h3⟩, hra cA h1⟩
theorem gd_tyO {s : State} {args : Array Value} {C : String} {tC : FieldType → ClassId} (d : ClassId) (ht : tC (.object C) = (s.vm.findClass ("[" ++ (FieldType.object C).toString)).getD d) (h : (Cond.arrayOver (.object C)).before args s = true) : ArrOfT s (tC (.object C)) (.object C) ∧ va_RA s (tC (.object C)) (.object C) := by
  obtain ⟨comp, cA, kA, h1, h2, h3, h4, h5⟩ := Cond.arrayOver_spec h
  have e : tC (.object C) = cA := by rw [ht, h5]; rfl
  rw [e]
  exact ⟨fun N z => ⟨(fun k h => by cases h), kA, h3, comp, h4⟩, kA, comp, h3, h4, h1, h5⟩
set_option maxRecDepth 100000 in
theorem gd_known {s : State} {args : Array Value} (hts : ∀ w ∈ gd_all, w.before args s = true) (hao : (Cond.arrayOver (.object "GuardedDrops$Droplet")).before args s = true) : ∃ (D : va_G) (tC : FieldType → ClassId), va_K D gd_cl (gd_tys tC) s := by
  have key : ∀ ci : Nat, ∃ (cC : ClassId) (iS : Nat → Nat), ∀ q, gd_cl[ci]? = some q → u_Kn s q.1 q.2.1 q.2.2 cC iS := by
    intro ci
    by_cases h : ci < 6
    · rcases (by omega : ci = 0 ∨ ci = 1 ∨ ci = 2 ∨ ci = 3 ∨ ci = 4 ∨ ci = 5) with rfl | rfl | rfl | rfl | rfl | rfl
      · obtain ⟨cC, iS, h9⟩ := u_known hts cf_D.2.1 (hts _ (gd_in 34 rfl rfl))
        exact ⟨cC, iS, fun q hq => by cases hq; exact h9⟩
      · obtain ⟨cC, iS, h9⟩ := u_known hts cf_L.2.1 (hts _ (gd_in 27 rfl rfl))
        exact ⟨cC, iS, fun q hq => by cases hq; exact h9⟩
      · obtain ⟨cC, iS, h9⟩ := u_known hts cf_R.2.1 (hts _ (gd_in 118 rfl rfl))
        exact ⟨cC, iS, fun q hq => by cases hq; exact h9⟩
      · obtain ⟨cC, iS, h9⟩ := u_known hts cf_F.2.1 (hts _ (gd_in 105 rfl rfl))
        exact ⟨cC, iS, fun q hq => by cases hq; exact h9⟩
      · obtain ⟨cC, iS, h9⟩ := u_known hts cf_G.2.1 (hts _ (gd_in 19 rfl rfl))
        exact ⟨cC, iS, fun q hq => by cases hq; exact h9⟩
      · obtain ⟨cC, iS, h9⟩ := u_known hts cf_M.2.1 (hts _ (gd_in 550 rfl rfl))
        exact ⟨cC, iS, fun q hq => by cases hq; exact h9⟩
    · exact ⟨Classical.choice ⟨0⟩, fun _ => 0, fun q hq => absurd (List.getElem?_eq_some_iff.mp hq).1 (by show ¬ ci < 6; exact h)⟩
  have hD : ∃ D : va_G, ∀ (ci : Nat) (q : vw_C), gd_cl[ci]? = some q → u_Kn s q.1 q.2.1 q.2.2 (D.1 ci) (D.2 ci) := ⟨(fun ci => (key ci).choose, fun ci => (key ci).choose_spec.choose), fun ci => (key ci).choose_spec.choose_spec⟩
  obtain ⟨D, hD⟩ := hD
  obtain ⟨tC, htC⟩ : ∃ tC : FieldType → ClassId, ∀ ty, tC ty = (s.vm.findClass ("[" ++ ty.toString)).getD (D.1 0) := ⟨_, fun _ => rfl⟩
  refine ⟨D, tC, hD, fun k q hk => ?_⟩
  have hk4 : k < 4 := (List.getElem?_eq_some_iff.mp hk).1
  rcases (by omega : k = 0 ∨ k = 1 ∨ k = 2 ∨ k = 3) with rfl | rfl | rfl | rfl
  · cases hk; exact gd_tyA (D.1 0) (htC _) (hts _ (gd_in 89 rfl rfl)) (fun _ h => h)
  · cases hk; exact gd_tyA (D.1 0) (htC _) (hts _ (gd_in 90 rfl rfl)) (fun _ h => h)
  · cases hk; exact gd_tyA (D.1 0) (htC _) (hts _ (gd_in 625 rfl rfl)) (fun _ h => h)
  · cases hk; exact gd_tyO (D.1 0) (htC _) hao
set_option maxRecDepth 100000 in
theorem gd_XF_0 {s : State} {b : Nat} {D : va_G} {tC : FieldType → ClassId} (hts : ∀ w ∈ lw_tbl, w.before #[Value.ref b] s = true) (hK : va_K D gd_cl (gd_tys tC) s) (hgv : (Jvm.Cond.and given_1 narrow_1).before #[Value.ref b] s = true) : gd_XF (fun q => s.heap.size ≤ q) s s.heap := by
  have hs := flat_of_before _ hgv
  have hno : ∀ a : Nat, a < s.heap.size → ¬ (fun q => s.heap.size ≤ q) a := fun a h1 h2 => absurd h1 (Nat.not_lt.mpr h2)
  have hmem : ∀ {i : Nat} {w : Cond}, tables_1[i]? = some w → w.before #[Value.ref b] s = true := fun h => hts _ (List.mem_append_right _ (List.mem_of_getElem? h))
  refine ⟨fun w hw => va_Nw.of (gd_xt_on (List.mem_filter.mp hw).2) (hts w (List.mem_filter.mp hw).1), fun k tx hk => ?_, ?_, ?_, fun q hq => ?_⟩
  · have h := hts _ (List.mem_append_right _ hk)
    obtain ⟨k9, cf, i, a, -, -, -, -, -, hev⟩ := Cond.stringRef_spec (hK.1 4 _ rfl).2.1 h
    exact ⟨a, vk_R.of (A := #[Value.ref b]) h hev⟩
  · exact vx_Zqof (hmem (i := 246) rfl) (hmem (i := 8) rfl) (hs _ (by decide +kernel)) hno
  · exact vx_Zqof (hmem (i := 248) rfl) (hmem (i := 8) rfl) (hs _ (by decide +kernel)) hno
  · simp only [gd_ncs, List.mem_cons, List.not_mem_nil, or_false] at hq
    rcases hq with rfl | rfl | rfl | rfl
    · exact va_Nc.of (args := #[Value.ref b]) (hs (Cond.not (.castable "java/util/NoSuchElementException" "java/lang/IllegalArgumentException")) (by decide +kernel))
    · exact va_Nc.of (args := #[Value.ref b]) (hs (Cond.not (.castable "java/lang/IllegalStateException" "java/lang/IllegalArgumentException")) (by decide +kernel))
    · exact va_Nc.of (args := #[Value.ref b]) (hs (Cond.not (.castable "java/lang/IllegalStateException" "java/util/NoSuchElementException")) (by decide +kernel))
    · exact va_Nc.of (args := #[Value.ref b]) (hs (Cond.not (.castable "java/util/NoSuchElementException" "java/lang/IllegalStateException")) (by decide +kernel))
