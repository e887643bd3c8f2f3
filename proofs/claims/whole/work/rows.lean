section
def lw_okq (q : MethodName × Nat) : Prop := (q.1.cls ≠ "java/lang/invoke/MethodHandle" ∧ q.1.cls ≠ "java/lang/invoke/VarHandle") ∧ Cond.instantiable q.1.cls q.2 ∈ tables_1 ∧ Cond.privateMethod q.1 ∈ tables_1 ∧ Cond.instanceMethod q.1 ∈ tables_1
theorem lw_p0 : lw_okq (⟨"java/lang/Throwable", "fillInStackTrace", "(I)Ljava/lang/Throwable;"⟩, 6) := ⟨⟨by decide +kernel, by decide +kernel⟩, List.mem_of_getElem? (i := 259) (by decide +kernel), List.mem_of_getElem? (i := 257) (by decide +kernel), List.mem_of_getElem? (i := 258) (by decide +kernel)⟩
theorem lw_p1 : lw_okq (⟨"GuardedDrops", "clearSource", "(I)I"⟩, 8) := ⟨⟨by decide +kernel, by decide +kernel⟩, List.mem_of_getElem? (i := 19) (by decide +kernel), List.mem_of_getElem? (i := 289) (by decide +kernel), List.mem_of_getElem? (i := 290) (by decide +kernel)⟩
theorem lw_p2 : lw_okq (⟨"GuardedDrops", "heedAllBut", "(LGuardedDrops$Droplet;LGuardedDrops$Droplet;)V"⟩, 8) := ⟨⟨by decide +kernel, by decide +kernel⟩, List.mem_of_getElem? (i := 19) (by decide +kernel), List.mem_of_getElem? (i := 293) (by decide +kernel), List.mem_of_getElem? (i := 294) (by decide +kernel)⟩
theorem lw_p3 : lw_okq (⟨"GuardedDrops$WayFinder", "shutAt", "(I)J"⟩, 2) := ⟨⟨by decide +kernel, by decide +kernel⟩, List.mem_of_getElem? (i := 105) (by decide +kernel), List.mem_of_getElem? (i := 391) (by decide +kernel), List.mem_of_getElem? (i := 392) (by decide +kernel)⟩
theorem lw_p4 : lw_okq (⟨"GuardedDrops", "splitUp", "(LGuardedDrops$Droplet;II)I"⟩, 8) := ⟨⟨by decide +kernel, by decide +kernel⟩, List.mem_of_getElem? (i := 19) (by decide +kernel), List.mem_of_getElem? (i := 435) (by decide +kernel), List.mem_of_getElem? (i := 436) (by decide +kernel)⟩
theorem lw_p5 : lw_okq (⟨"GuardedDrops", "moveAll", "()V"⟩, 8) := ⟨⟨by decide +kernel, by decide +kernel⟩, List.mem_of_getElem? (i := 19) (by decide +kernel), List.mem_of_getElem? (i := 466) (by decide +kernel), List.mem_of_getElem? (i := 467) (by decide +kernel)⟩
theorem lw_p6 : lw_okq (⟨"GuardedDrops", "joinArrived", "()V"⟩, 8) := ⟨⟨by decide +kernel, by decide +kernel⟩, List.mem_of_getElem? (i := 19) (by decide +kernel), List.mem_of_getElem? (i := 474) (by decide +kernel), List.mem_of_getElem? (i := 475) (by decide +kernel)⟩
theorem lw_p7 : lw_okq (⟨"GuardedDrops$Droplet", "lowerExponent", "()V"⟩, 11) := ⟨⟨by decide +kernel, by decide +kernel⟩, List.mem_of_getElem? (i := 34) (by decide +kernel), List.mem_of_getElem? (i := 486) (by decide +kernel), List.mem_of_getElem? (i := 487) (by decide +kernel)⟩
theorem lw_p8 : lw_okq (⟨"GuardedDrops$Droplet", "allEven", "()Z"⟩, 11) := ⟨⟨by decide +kernel, by decide +kernel⟩, List.mem_of_getElem? (i := 34) (by decide +kernel), List.mem_of_getElem? (i := 490) (by decide +kernel), List.mem_of_getElem? (i := 491) (by decide +kernel)⟩
theorem lw_p9 : lw_okq (⟨"GuardedDrops", "readMoved", "()I"⟩, 8) := ⟨⟨by decide +kernel, by decide +kernel⟩, List.mem_of_getElem? (i := 19) (by decide +kernel), List.mem_of_getElem? (i := 494) (by decide +kernel), List.mem_of_getElem? (i := 495) (by decide +kernel)⟩
theorem lw_p10 : lw_okq (⟨"GuardedDropsModel", "count", "()I"⟩, 23) := ⟨⟨by decide +kernel, by decide +kernel⟩, List.mem_of_getElem? (i := 550) (by decide +kernel), List.mem_of_getElem? (i := 638) (by decide +kernel), List.mem_of_getElem? (i := 639) (by decide +kernel)⟩
theorem lw_p11 : lw_okq (⟨"GuardedDropsModel", "foresee", "(II)V"⟩, 23) := ⟨⟨by decide +kernel, by decide +kernel⟩, List.mem_of_getElem? (i := 550) (by decide +kernel), List.mem_of_getElem? (i := 650) (by decide +kernel), List.mem_of_getElem? (i := 651) (by decide +kernel)⟩
theorem lw_p12 : lw_okq (⟨"GuardedDropsModel", "placeAfter", "(II)I"⟩, 23) := ⟨⟨by decide +kernel, by decide +kernel⟩, List.mem_of_getElem? (i := 550) (by decide +kernel), List.mem_of_getElem? (i := 654) (by decide +kernel), List.mem_of_getElem? (i := 655) (by decide +kernel)⟩
theorem lw_p13 : lw_okq (⟨"GuardedDropsModel", "left", "(I)I"⟩, 23) := ⟨⟨by decide +kernel, by decide +kernel⟩, List.mem_of_getElem? (i := 550) (by decide +kernel), List.mem_of_getElem? (i := 658) (by decide +kernel), List.mem_of_getElem? (i := 659) (by decide +kernel)⟩
theorem lw_p14 : lw_okq (⟨"GuardedDropsModel", "canRest", "(II)Z"⟩, 23) := ⟨⟨by decide +kernel, by decide +kernel⟩, List.mem_of_getElem? (i := 550) (by decide +kernel), List.mem_of_getElem? (i := 665) (by decide +kernel), List.mem_of_getElem? (i := 666) (by decide +kernel)⟩
theorem lw_p15 : lw_okq (⟨"GuardedDropsModel", "isMet", "(II)Z"⟩, 23) := ⟨⟨by decide +kernel, by decide +kernel⟩, List.mem_of_getElem? (i := 550) (by decide +kernel), List.mem_of_getElem? (i := 669) (by decide +kernel), List.mem_of_getElem? (i := 670) (by decide +kernel)⟩
def lw_privs_1 : List (MethodName × Nat) := [(⟨"java/lang/Throwable", "fillInStackTrace", "(I)Ljava/lang/Throwable;"⟩, 6), (⟨"GuardedDrops", "clearSource", "(I)I"⟩, 8), (⟨"GuardedDrops", "heedAllBut", "(LGuardedDrops$Droplet;LGuardedDrops$Droplet;)V"⟩, 8), (⟨"GuardedDrops$WayFinder", "shutAt", "(I)J"⟩, 2), (⟨"GuardedDrops", "splitUp", "(LGuardedDrops$Droplet;II)I"⟩, 8), (⟨"GuardedDrops", "moveAll", "()V"⟩, 8), (⟨"GuardedDrops", "joinArrived", "()V"⟩, 8), (⟨"GuardedDrops$Droplet", "lowerExponent", "()V"⟩, 11), (⟨"GuardedDrops$Droplet", "allEven", "()Z"⟩, 11), (⟨"GuardedDrops", "readMoved", "()I"⟩, 8), (⟨"GuardedDropsModel", "count", "()I"⟩, 23), (⟨"GuardedDropsModel", "foresee", "(II)V"⟩, 23), (⟨"GuardedDropsModel", "placeAfter", "(II)I"⟩, 23), (⟨"GuardedDropsModel", "left", "(I)I"⟩, 23), (⟨"GuardedDropsModel", "canRest", "(II)Z"⟩, 23), (⟨"GuardedDropsModel", "isMet", "(II)Z"⟩, 23)]
theorem lw_r1 : ∀ q ∈ lw_privs_1, lw_okq q := List.forall_mem_cons.mpr ⟨lw_p0, List.forall_mem_cons.mpr ⟨lw_p1, List.forall_mem_cons.mpr ⟨lw_p2, List.forall_mem_cons.mpr ⟨lw_p3, List.forall_mem_cons.mpr ⟨lw_p4, List.forall_mem_cons.mpr ⟨lw_p5, List.forall_mem_cons.mpr ⟨lw_p6, List.forall_mem_cons.mpr ⟨lw_p7, List.forall_mem_cons.mpr ⟨lw_p8, List.forall_mem_cons.mpr ⟨lw_p9, List.forall_mem_cons.mpr ⟨lw_p10, List.forall_mem_cons.mpr ⟨lw_p11, List.forall_mem_cons.mpr ⟨lw_p12, List.forall_mem_cons.mpr ⟨lw_p13, List.forall_mem_cons.mpr ⟨lw_p14, List.forall_mem_cons.mpr ⟨lw_p15, fun _ h => absurd h List.not_mem_nil⟩⟩⟩⟩⟩⟩⟩⟩⟩⟩⟩⟩⟩⟩⟩⟩
theorem lw_p16 : lw_okq (⟨"GuardedDropsModel", "add", "(II)I"⟩, 23) := ⟨⟨by decide +kernel, by decide +kernel⟩, List.mem_of_getElem? (i := 550) (by decide +kernel), List.mem_of_getElem? (i := 676) (by decide +kernel), List.mem_of_getElem? (i := 677) (by decide +kernel)⟩
theorem lw_p17 : lw_okq (⟨"GuardedDropsModel", "isDrop", "(I)Z"⟩, 23) := ⟨⟨by decide +kernel, by decide +kernel⟩, List.mem_of_getElem? (i := 550) (by decide +kernel), List.mem_of_getElem? (i := 684) (by decide +kernel), List.mem_of_getElem? (i := 685) (by decide +kernel)⟩
theorem lw_p18 : lw_okq (⟨"GuardedDropsModel", "isFree", "(I)Z"⟩, 23) := ⟨⟨by decide +kernel, by decide +kernel⟩, List.mem_of_getElem? (i := 550) (by decide +kernel), List.mem_of_getElem? (i := 688) (by decide +kernel), List.mem_of_getElem? (i := 689) (by decide +kernel)⟩
theorem lw_p19 : lw_okq (⟨"GuardedDropsModel", "comer", "(I)I"⟩, 23) := ⟨⟨by decide +kernel, by decide +kernel⟩, List.mem_of_getElem? (i := 550) (by decide +kernel), List.mem_of_getElem? (i := 692) (by decide +kernel), List.mem_of_getElem? (i := 693) (by decide +kernel)⟩
theorem lw_p20 : lw_okq (⟨"GuardedDropsModel", "lay", "(IIZ)I"⟩, 23) := ⟨⟨by decide +kernel, by decide +kernel⟩, List.mem_of_getElem? (i := 550) (by decide +kernel), List.mem_of_getElem? (i := 696) (by decide +kernel), List.mem_of_getElem? (i := 697) (by decide +kernel)⟩
theorem lw_p21 : lw_okq (⟨"GuardedDropsModel", "spread", "(IIZ)I"⟩, 23) := ⟨⟨by decide +kernel, by decide +kernel⟩, List.mem_of_getElem? (i := 550) (by decide +kernel), List.mem_of_getElem? (i := 700) (by decide +kernel), List.mem_of_getElem? (i := 701) (by decide +kernel)⟩
theorem lw_p22 : lw_okq (⟨"GuardedDropsModel", "canEnd", "(IIZ)Z"⟩, 23) := ⟨⟨by decide +kernel, by decide +kernel⟩, List.mem_of_getElem? (i := 550) (by decide +kernel), List.mem_of_getElem? (i := 704) (by decide +kernel), List.mem_of_getElem? (i := 705) (by decide +kernel)⟩
theorem lw_p23 : lw_okq (⟨"GuardedDropsModel", "isNext", "(II)Z"⟩, 23) := ⟨⟨by decide +kernel, by decide +kernel⟩, List.mem_of_getElem? (i := 550) (by decide +kernel), List.mem_of_getElem? (i := 708) (by decide +kernel), List.mem_of_getElem? (i := 709) (by decide +kernel)⟩
theorem lw_p24 : lw_okq (⟨"GuardedDropsModel", "canBe", "(II)Z"⟩, 23) := ⟨⟨by decide +kernel, by decide +kernel⟩, List.mem_of_getElem? (i := 550) (by decide +kernel), List.mem_of_getElem? (i := 712) (by decide +kernel), List.mem_of_getElem? (i := 713) (by decide +kernel)⟩
theorem lw_p25 : lw_okq (⟨"GuardedDropsModel", "step", "()I"⟩, 23) := ⟨⟨by decide +kernel, by decide +kernel⟩, List.mem_of_getElem? (i := 550) (by decide +kernel), List.mem_of_getElem? (i := 732) (by decide +kernel), List.mem_of_getElem? (i := 733) (by decide +kernel)⟩
theorem lw_p26 : lw_okq (⟨"GuardedDropsModel", "unite", "(II)V"⟩, 23) := ⟨⟨by decide +kernel, by decide +kernel⟩, List.mem_of_getElem? (i := 550) (by decide +kernel), List.mem_of_getElem? (i := 736) (by decide +kernel), List.mem_of_getElem? (i := 737) (by decide +kernel)⟩
theorem lw_p27 : lw_okq (⟨"GuardedDropsModel", "read", "(I)V"⟩, 23) := ⟨⟨by decide +kernel, by decide +kernel⟩, List.mem_of_getElem? (i := 550) (by decide +kernel), List.mem_of_getElem? (i := 741) (by decide +kernel), List.mem_of_getElem? (i := 742) (by decide +kernel)⟩
def lw_privs_2 : List (MethodName × Nat) := [(⟨"GuardedDropsModel", "add", "(II)I"⟩, 23), (⟨"GuardedDropsModel", "isDrop", "(I)Z"⟩, 23), (⟨"GuardedDropsModel", "isFree", "(I)Z"⟩, 23), (⟨"GuardedDropsModel", "comer", "(I)I"⟩, 23), (⟨"GuardedDropsModel", "lay", "(IIZ)I"⟩, 23), (⟨"GuardedDropsModel", "spread", "(IIZ)I"⟩, 23), (⟨"GuardedDropsModel", "canEnd", "(IIZ)Z"⟩, 23), (⟨"GuardedDropsModel", "isNext", "(II)Z"⟩, 23), (⟨"GuardedDropsModel", "canBe", "(II)Z"⟩, 23), (⟨"GuardedDropsModel", "step", "()I"⟩, 23), (⟨"GuardedDropsModel", "unite", "(II)V"⟩, 23), (⟨"GuardedDropsModel", "read", "(I)V"⟩, 23)]
theorem lw_r2 : ∀ q ∈ lw_privs_2, lw_okq q := List.forall_mem_cons.mpr ⟨lw_p16, List.forall_mem_cons.mpr ⟨lw_p17, List.forall_mem_cons.mpr ⟨lw_p18, List.forall_mem_cons.mpr ⟨lw_p19, List.forall_mem_cons.mpr ⟨lw_p20, List.forall_mem_cons.mpr ⟨lw_p21, List.forall_mem_cons.mpr ⟨lw_p22, List.forall_mem_cons.mpr ⟨lw_p23, List.forall_mem_cons.mpr ⟨lw_p24, List.forall_mem_cons.mpr ⟨lw_p25, List.forall_mem_cons.mpr ⟨lw_p26, List.forall_mem_cons.mpr ⟨lw_p27, fun _ h => absurd h List.not_mem_nil⟩⟩⟩⟩⟩⟩⟩⟩⟩⟩⟩⟩
def lw_privs : List (MethodName × Nat) := lw_privs_1 ++ (lw_privs_2)
def lw_tbl : List Cond := k2_sels lw_privs ++ tables_1
theorem lw_privs_ok : ∀ q ∈ lw_privs, lw_okq q := by
  show ∀ q ∈ lw_privs_1 ++ (lw_privs_2), lw_okq q
  exact List.forall_mem_append.mpr ⟨lw_r1, lw_r2⟩
end
section
/-! Names and tables, by a program of ours out of the claim's texts. -/
def gd_all : List Cond := lw_tbl.filter goodWord
def gd_nest (x : Cond) : Bool := match x with
  | .fieldLinkNest .. => true
  | .methodLinkNest .. => true
  | _ => false
def gd_nw : List Cond := tables_1.filter gd_nest
theorem gd_good : GoodIn gd_all gd_all := fun w hw => ⟨hw, good_of_word (List.mem_filter.mp hw).2⟩
theorem gd_nest_on {x : Cond} (h : gd_nest x = true) : x.onTables = true := by
  cases x <;> first | rfl | (simp [gd_nest] at h)
theorem gd_nwk : ∀ x ∈ gd_nw, gd_nest x = true ∧ x.onTables = true := fun x hx => ⟨(List.mem_filter.mp hx).2, gd_nest_on (List.mem_filter.mp hx).2⟩
set_option maxRecDepth 100000 in
theorem gd_in (i : Nat) {w : Cond} (h : tables_1[i]? = some w) (hg : goodWord w = true) : w ∈ gd_all := List.mem_filter.mpr ⟨List.mem_append_right _ (List.mem_of_getElem? h), hg⟩
set_option maxRecDepth 100000 in
theorem gd_ins (i : Nat) {w : Cond} (h : (k2_sels lw_privs)[i]? = some w) (hg : goodWord w = true) : w ∈ gd_all := List.mem_filter.mpr ⟨List.mem_append_left _ (List.mem_of_getElem? h), hg⟩
set_option maxRecDepth 100000 in
theorem gd_inn (i : Nat) {w : Cond} (h : tables_1[i]? = some w) (hg : gd_nest w = true) : w ∈ gd_nw := List.mem_filter.mpr ⟨List.mem_of_getElem? h, hg⟩
abbrev R_D : String := "GuardedDrops$Droplet"
abbrev R_L : String := "GuardedDrops$Living"
abbrev R_R : String := "GuardedDrops$Readings"
abbrev R_F : String := "GuardedDrops$WayFinder"
abbrev R_G : String := "GuardedDrops"
abbrev R_M : String := "GuardedDropsModel"
abbrev R_S : String := "GuardedDrops$Grid"
abbrev R_A : String := "GuardedDropsLaw"
abbrev R_J : String := "java/util/Arrays"
abbrev R_K : String := "java/lang/Math"
def T_D : u_T := fun k => match k with
  | 0 => ("GuardedDrops$Droplet", "moves", "[I", true)
  | 1 => ("GuardedDrops$Droplet", "numerators", "[J", true)
  | 2 => ("GuardedDrops$Droplet", "number", "I", false)
  | 3 => ("GuardedDrops$Droplet", "place", "I", false)
  | 4 => ("GuardedDrops$Droplet", "volume", "I", false)
  | 5 => ("GuardedDrops$Droplet", "exponent", "I", false)
  | 6 => ("GuardedDrops$Droplet", "length", "I", false)
  | 7 => ("GuardedDrops$Droplet", "done", "I", false)
  | 8 => ("GuardedDrops$Droplet", "into", "I", false)
  | 9 => ("GuardedDrops$Droplet", "awaits", "I", false)
  | _ => ("GuardedDrops$Droplet", "moved", "Z", false)
def ty_D : Nat → FieldType := fun k => match k with
  | 0 => .array .int
  | 1 => .array (.long)
  | 2 => .int
  | 3 => .int
  | 4 => .int
  | 5 => .int
  | 6 => .int
  | 7 => .int
  | 8 => .int
  | 9 => .int
  | _ => .boolean
def T_L : u_T := fun k => match k with
  | 0 => ("GuardedDrops$Living", "list", "[LGuardedDrops$Droplet;", true)
  | 1 => ("GuardedDrops$Living", "count", "I", false)
  | _ => ("GuardedDrops$Living", "made", "I", false)
def ty_L : Nat → FieldType := fun k => match k with
  | 0 => .array (.object "GuardedDrops$Droplet")
  | 1 => .int
  | _ => .int
def T_R : u_T := fun k => match k with
  | 0 => ("GuardedDrops$Readings", "rows", "[I", true)
  | 1 => ("GuardedDrops$Readings", "oldest", "I", false)
  | _ => ("GuardedDrops$Readings", "count", "I", false)
def ty_R : Nat → FieldType := fun k => match k with
  | 0 => .array .int
  | 1 => .int
  | _ => .int
def T_F : u_T := fun k => match k with
  | 0 => ("GuardedDrops$WayFinder", "taken", "[J", true)
  | _ => ("GuardedDrops$WayFinder", "reached", "[J", true)
def ty_F : Nat → FieldType := fun k => match k with
  | 0 => .array (.long)
  | _ => .array (.long)
def T_G : u_T := fun k => match k with
  | 0 => ("GuardedDrops", "kinds", "[I", true)
  | 1 => ("GuardedDrops", "living", "LGuardedDrops$Living;", true)
  | 2 => ("GuardedDrops", "ways", "LGuardedDrops$WayFinder;", true)
  | 3 => ("GuardedDrops", "readings", "LGuardedDrops$Readings;", true)
  | 4 => ("GuardedDrops", "dead", "J", false)
  | 5 => ("GuardedDrops", "now", "I", false)
  | 6 => ("GuardedDrops", "letOut", "I", false)
  | _ => ("GuardedDrops", "thrownAway", "I", false)
def ty_G : Nat → FieldType := fun k => match k with
  | 0 => .array .int
  | 1 => .object "GuardedDrops$Living"
  | 2 => .object "GuardedDrops$WayFinder"
  | 3 => .object "GuardedDrops$Readings"
  | 4 => .long
  | 5 => .int
  | 6 => .int
  | _ => .int
def T_M : u_T := fun k => match k with
  | 0 => ("GuardedDropsModel", "code", "I", false)
  | 1 => ("GuardedDropsModel", "time", "I", false)
  | 2 => ("GuardedDropsModel", "kinds", "[I", true)
  | 3 => ("GuardedDropsModel", "made", "I", false)
  | 4 => ("GuardedDropsModel", "units", "[I", true)
  | 5 => ("GuardedDropsModel", "cells", "[I", true)
  | 6 => ("GuardedDropsModel", "shares", "[J", true)
  | 7 => ("GuardedDropsModel", "powers", "[I", true)
  | 8 => ("GuardedDropsModel", "routes", "[I", true)
  | 9 => ("GuardedDropsModel", "lengths", "[I", true)
  | 10 => ("GuardedDropsModel", "gone", "[I", true)
  | 11 => ("GuardedDropsModel", "into", "[I", true)
  | 12 => ("GuardedDropsModel", "out", "I", false)
  | 13 => ("GuardedDropsModel", "thrownAway", "I", false)
  | 14 => ("GuardedDropsModel", "readings", "I", false)
  | 15 => ("GuardedDropsModel", "readDrops", "[I", true)
  | 16 => ("GuardedDropsModel", "readTimes", "[I", true)
  | 17 => ("GuardedDropsModel", "readCells", "[I", true)
  | 18 => ("GuardedDropsModel", "readUnits", "[I", true)
  | 19 => ("GuardedDropsModel", "others", "I", false)
  | 20 => ("GuardedDropsModel", "table", "[I", true)
  | 21 => ("GuardedDropsModel", "reach", "[Z", true)
  | _ => ("GuardedDropsModel", "leads", "[Z", true)
def ty_M : Nat → FieldType := fun k => match k with
  | 0 => .int
  | 1 => .int
  | 2 => .array .int
  | 3 => .int
  | 4 => .array .int
  | 5 => .array .int
  | 6 => .array (.long)
  | 7 => .array .int
  | 8 => .array .int
  | 9 => .array .int
  | 10 => .array .int
  | 11 => .array .int
  | 12 => .int
  | 13 => .int
  | 14 => .int
  | 15 => .array .int
  | 16 => .array .int
  | 17 => .array .int
  | 18 => .array .int
  | 19 => .int
  | 20 => .array .int
  | 21 => .array (.boolean)
  | _ => .array (.boolean)
abbrev gd_cl : List vw_C := [(R_D, T_D, 11), (R_L, T_L, 3), (R_R, T_R, 3), (R_F, T_F, 2), (R_G, T_G, 8), (R_M, T_M, 23)]
def gd_ft (ci : Nat) : List FieldType := match ci with
  | 0 => [.array .int, .array (.long), .int, .int, .int, .int, .int, .int, .int, .int, .boolean]
  | 1 => [.array (.object "GuardedDrops$Droplet"), .int, .int]
  | 2 => [.array .int, .int, .int]
  | 3 => [.array (.long), .array (.long)]
  | 4 => [.array .int, .object "GuardedDrops$Living", .object "GuardedDrops$WayFinder", .object "GuardedDrops$Readings", .long, .int, .int, .int]
  | 5 => [.int, .int, .array .int, .int, .array .int, .array .int, .array (.long), .array .int, .array .int, .array .int, .array .int, .array .int, .int, .int, .int, .array .int, .array .int, .array .int, .array .int, .int, .array .int, .array (.boolean), .array (.boolean)]
  | _ => []
abbrev gd_S : Type := Nat ⊕ (FieldType × Nat)
def gd_shl : List gd_S := [.inl 4, .inr (.int, 64), .inl 1, .inr (.object "GuardedDrops$Droplet", 6), .inl 0, .inr (.int, 60), .inr (.long, 4), .inl 0, .inr (.int, 60), .inr (.long, 4), .inl 0, .inr (.int, 60), .inr (.long, 4), .inl 0, .inr (.int, 60), .inr (.long, 4), .inl 0, .inr (.int, 60), .inr (.long, 4), .inl 0, .inr (.int, 60), .inr (.long, 4), .inl 3, .inr (.long, 61), .inr (.long, 61), .inl 2, .inr (.int, 200), .inl 5, .inr (.int, 64), .inr (.int, 60), .inr (.int, 60), .inr (.long, 240), .inr (.int, 60), .inr (.int, 3600), .inr (.int, 60), .inr (.int, 60), .inr (.int, 60), .inr (.int, 50), .inr (.int, 50), .inr (.int, 50), .inr (.int, 50), .inr (.int, 384), .inr (.boolean, 3904), .inr (.boolean, 3904), .inr (.long, 1)]
def gd_sh (k : Nat) : gd_S := gd_shl.getD k (.inr (.int, 0))
-- the references that objects hold: they never change
def gd_fxl : List (List Nat) := [[1, 2, 22, 25], [], [3], [], [5, 6], [], [], [8, 9], [], [], [11, 12], [], [], [14, 15], [], [], [17, 18], [], [], [20, 21], [], [], [23, 24], [], [], [26], [], [0, 0, 28, 0, 29, 30, 31, 32, 33, 34, 35, 36, 0, 0, 0, 37, 38, 39, 40, 0, 41, 42, 43], [], [], [], [], [], [], [], [], [], [], [], [], [], [], [], [], []]
def gd_fix (k j : Nat) : Option Nat := (gd_fxl.getD k [])[j]?
abbrev c_A_discard : ByteArray := method_7_code
def y_A_discard : MethodName := ⟨R_A, "discard", "(LGuardedDrops;I[J)I"⟩
abbrev c_A_dispense : ByteArray := method_3_code
def y_A_dispense : MethodName := ⟨R_A, "dispense", "(LGuardedDrops;I[J)I"⟩
abbrev c_A_halve : ByteArray := method_6_code
def y_A_halve : MethodName := ⟨R_A, "halve", "(LGuardedDrops;IZ[J)I"⟩
abbrev c_A_join : ByteArray := method_5_code
def y_A_join : MethodName := ⟨R_A, "join", "(LGuardedDrops;II[J)I"⟩
abbrev c_A_law : ByteArray := code
def y_A_law : MethodName := ⟨R_A, "law", "([I)Z"⟩
abbrev c_A_look : ByteArray := method_9_code
def y_A_look : MethodName := ⟨R_A, "look", "(LGuardedDrops;II[J)I"⟩
abbrev c_A_reading : ByteArray := method_11_code
def y_A_reading : MethodName := ⟨R_A, "reading", "(LGuardedDrops;II[J)I"⟩
abbrev c_A_run : ByteArray := method_8_code
def y_A_run : MethodName := ⟨R_A, "run", "(LGuardedDrops;I[J)I"⟩
abbrev c_A_send : ByteArray := method_4_code
def y_A_send : MethodName := ⟨R_A, "send", "(LGuardedDrops;III[J)I"⟩
abbrev c_A_share : ByteArray := method_10_code
def y_A_share : MethodName := ⟨R_A, "share", "(LGuardedDrops;II[J)I"⟩
abbrev c_D_allEven : ByteArray := prog_2_method_12_code
def y_D_allEven : MethodName := ⟨R_D, "allEven", "()Z"⟩
abbrev c_D_comeToBe : ByteArray := prog_2_method_2_code
def y_D_comeToBe : MethodName := ⟨R_D, "comeToBe", "(II)V"⟩
abbrev c_D_fillLike : ByteArray := prog_2_method_4_code
def y_D_fillLike : MethodName := ⟨R_D, "fillLike", "(LGuardedDrops$Droplet;)V"⟩
abbrev c_D_fillWith : ByteArray := prog_2_method_3_code
def y_D_fillWith : MethodName := ⟨R_D, "fillWith", "(I)V"⟩
abbrev c_D_init : ByteArray := prog_2_method_1_code
def y_D_init : MethodName := ⟨R_D, "<init>", "()V"⟩
abbrev c_D_isFree : ByteArray := prog_2_method_5_code
def y_D_isFree : MethodName := ⟨R_D, "isFree", "()Z"⟩
abbrev c_D_lowerExponent : ByteArray := prog_2_method_11_code
def y_D_lowerExponent : MethodName := ⟨R_D, "lowerExponent", "()V"⟩
abbrev c_D_makeMove : ByteArray := prog_2_method_8_code
def y_D_makeMove : MethodName := ⟨R_D, "makeMove", "()V"⟩
abbrev c_D_movesLeft : ByteArray := prog_2_method_6_code
def y_D_movesLeft : MethodName := ⟨R_D, "movesLeft", "()I"⟩
abbrev c_D_placeAfter : ByteArray := prog_2_method_9_code
def y_D_placeAfter : MethodName := ⟨R_D, "placeAfter", "(I)I"⟩
abbrev c_D_takeIn : ByteArray := prog_2_method_10_code
def y_D_takeIn : MethodName := ⟨R_D, "takeIn", "(LGuardedDrops$Droplet;)V"⟩
abbrev c_D_takeRoute : ByteArray := prog_2_method_7_code
def y_D_takeRoute : MethodName := ⟨R_D, "takeRoute", "(I)V"⟩
abbrev c_F_clearFrom : ByteArray := prog_6_method_6_code
def y_F_clearFrom : MethodName := ⟨R_F, "clearFrom", "(I)I"⟩
abbrev c_F_everShut : ByteArray := prog_6_method_5_code
def y_F_everShut : MethodName := ⟨R_F, "everShut", "()J"⟩
abbrev c_F_forget : ByteArray := prog_6_method_2_code
def y_F_forget : MethodName := ⟨R_F, "forget", "()V"⟩
abbrev c_F_heed : ByteArray := prog_6_method_3_code
def y_F_heed : MethodName := ⟨R_F, "heed", "(LGuardedDrops$Droplet;)V"⟩
abbrev c_F_init : ByteArray := prog_6_method_1_code
def y_F_init : MethodName := ⟨R_F, "<init>", "()V"⟩
abbrev c_F_leastMove : ByteArray := prog_6_method_9_code
def y_F_leastMove : MethodName := ⟨R_F, "leastMove", "(IJ)I"⟩
abbrev c_F_search : ByteArray := prog_6_method_7_code
def y_F_search : MethodName := ⟨R_F, "search", "(IIJI)I"⟩
abbrev c_F_shutAt : ByteArray := prog_6_method_4_code
def y_F_shutAt : MethodName := ⟨R_F, "shutAt", "(I)J"⟩
abbrev c_F_trace : ByteArray := prog_6_method_8_code
def y_F_trace : MethodName := ⟨R_F, "trace", "(LGuardedDrops$Droplet;II)V"⟩
abbrev c_G_ahead : ByteArray := prog_1_method_12_code
def y_G_ahead : MethodName := ⟨R_G, "ahead", "(II)I"⟩
abbrev c_G_cell : ByteArray := prog_1_method_2_code
def y_G_cell : MethodName := ⟨R_G, "cell", "(III)Z"⟩
abbrev c_G_clearSource : ByteArray := prog_1_method_17_code
def y_G_clearSource : MethodName := ⟨R_G, "clearSource", "(I)I"⟩
abbrev c_G_discard : ByteArray := prog_1_method_7_code
def y_G_discard : MethodName := ⟨R_G, "discard", "(I)I"⟩
abbrev c_G_dispense : ByteArray := prog_1_method_3_code
def y_G_dispense : MethodName := ⟨R_G, "dispense", "(I)I"⟩
abbrev c_G_droplets : ByteArray := prog_1_method_10_code
def y_G_droplets : MethodName := ⟨R_G, "droplets", "()I"⟩
abbrev c_G_halve : ByteArray := prog_1_method_6_code
def y_G_halve : MethodName := ⟨R_G, "halve", "(IZ)I"⟩
abbrev c_G_heedAllBut : ByteArray := prog_1_method_19_code
def y_G_heedAllBut : MethodName := ⟨R_G, "heedAllBut", "(LGuardedDrops$Droplet;LGuardedDrops$Droplet;)V"⟩
abbrev c_G_init : ByteArray := prog_1_method_1_code
def y_G_init : MethodName := ⟨R_G, "<init>", "()V"⟩
abbrev c_G_isOpen : ByteArray := prog_1_method_18_code
def y_G_isOpen : MethodName := ⟨R_G, "isOpen", "(IJ)Z"⟩
abbrev c_G_join : ByteArray := prog_1_method_5_code
def y_G_join : MethodName := ⟨R_G, "join", "(II)I"⟩
abbrev c_G_joinArrived : ByteArray := prog_1_method_22_code
def y_G_joinArrived : MethodName := ⟨R_G, "joinArrived", "()V"⟩
abbrev c_G_kind : ByteArray := prog_1_method_16_code
def y_G_kind : MethodName := ⟨R_G, "kind", "(II)I"⟩
abbrev c_G_look : ByteArray := prog_1_method_11_code
def y_G_look : MethodName := ⟨R_G, "look", "(II)I"⟩
abbrev c_G_moveAll : ByteArray := prog_1_method_21_code
def y_G_moveAll : MethodName := ⟨R_G, "moveAll", "()V"⟩
abbrev c_G_readMoved : ByteArray := prog_1_method_23_code
def y_G_readMoved : MethodName := ⟨R_G, "readMoved", "()I"⟩
abbrev c_G_reading : ByteArray := prog_1_method_14_code
def y_G_reading : MethodName := ⟨R_G, "reading", "(II)I"⟩
abbrev c_G_run : ByteArray := prog_1_method_8_code
def y_G_run : MethodName := ⟨R_G, "run", "(I)I"⟩
abbrev c_G_send : ByteArray := prog_1_method_4_code
def y_G_send : MethodName := ⟨R_G, "send", "(III)I"⟩
abbrev c_G_share : ByteArray := prog_1_method_13_code
def y_G_share : MethodName := ⟨R_G, "share", "(II)J"⟩
abbrev c_G_splitUp : ByteArray := prog_1_method_20_code
def y_G_splitUp : MethodName := ⟨R_G, "splitUp", "(LGuardedDrops$Droplet;II)I"⟩
abbrev c_G_time : ByteArray := prog_1_method_9_code
def y_G_time : MethodName := ⟨R_G, "time", "()I"⟩
abbrev c_G_units : ByteArray := prog_1_method_15_code
def y_G_units : MethodName := ⟨R_G, "units", "(I)I"⟩
abbrev c_J_fill : ByteArray := prog_18_method_101_code
def y_J_fill : MethodName := ⟨R_J, "fill", "([JJ)V"⟩
abbrev c_K_max : ByteArray := prog_13_method_65_code
def y_K_max : MethodName := ⟨R_K, "max", "(II)I"⟩
abbrev c_L_add : ByteArray := prog_4_method_3_code
def y_L_add : MethodName := ⟨R_L, "add", "(I)LGuardedDrops$Droplet;"⟩
abbrev c_L_find : ByteArray := prog_4_method_2_code
def y_L_find : MethodName := ⟨R_L, "find", "(I)LGuardedDrops$Droplet;"⟩
abbrev c_L_init : ByteArray := prog_4_method_1_code
def y_L_init : MethodName := ⟨R_L, "<init>", "()V"⟩
abbrev c_L_remove : ByteArray := prog_4_method_4_code
def y_L_remove : MethodName := ⟨R_L, "remove", "(LGuardedDrops$Droplet;)V"⟩
abbrev c_M_add : ByteArray := prog_8_method_22_code
def y_M_add : MethodName := ⟨R_M, "add", "(II)I"⟩
abbrev c_M_ahead : ByteArray := prog_8_method_35_code
def y_M_ahead : MethodName := ⟨R_M, "ahead", "(II)I"⟩
abbrev c_M_areNear : ByteArray := prog_8_method_4_code
def y_M_areNear : MethodName := ⟨R_M, "areNear", "(II)Z"⟩
abbrev c_M_canBe : ByteArray := prog_8_method_17_code
def y_M_canBe : MethodName := ⟨R_M, "canBe", "(II)Z"⟩
abbrev c_M_canEnd : ByteArray := prog_8_method_18_code
def y_M_canEnd : MethodName := ⟨R_M, "canEnd", "(IIZ)Z"⟩
abbrev c_M_canRest : ByteArray := prog_8_method_16_code
def y_M_canRest : MethodName := ⟨R_M, "canRest", "(II)Z"⟩
abbrev c_M_cell : ByteArray := prog_8_method_7_code
def y_M_cell : MethodName := ⟨R_M, "cell", "(III)Z"⟩
abbrev c_M_comer : ByteArray := prog_8_method_10_code
def y_M_comer : MethodName := ⟨R_M, "comer", "(I)I"⟩
abbrev c_M_count : ByteArray := prog_8_method_6_code
def y_M_count : MethodName := ⟨R_M, "count", "()I"⟩
abbrev c_M_discard : ByteArray := prog_8_method_27_code
def y_M_discard : MethodName := ⟨R_M, "discard", "(I)I"⟩
abbrev c_M_dispense : ByteArray := prog_8_method_23_code
def y_M_dispense : MethodName := ⟨R_M, "dispense", "(I)I"⟩
abbrev c_M_droplets : ByteArray := prog_8_method_33_code
def y_M_droplets : MethodName := ⟨R_M, "droplets", "()I"⟩
abbrev c_M_foresee : ByteArray := prog_8_method_14_code
def y_M_foresee : MethodName := ⟨R_M, "foresee", "(II)V"⟩
abbrev c_M_halve : ByteArray := prog_8_method_26_code
def y_M_halve : MethodName := ⟨R_M, "halve", "(IZ)I"⟩
abbrev c_M_init : ByteArray := prog_8_method_1_code
def y_M_init : MethodName := ⟨R_M, "<init>", "()V"⟩
abbrev c_M_isCell : ByteArray := prog_8_method_3_code
def y_M_isCell : MethodName := ⟨R_M, "isCell", "(II)Z"⟩
abbrev c_M_isDrop : ByteArray := prog_8_method_9_code
def y_M_isDrop : MethodName := ⟨R_M, "isDrop", "(I)Z"⟩
abbrev c_M_isFree : ByteArray := prog_8_method_12_code
def y_M_isFree : MethodName := ⟨R_M, "isFree", "(I)Z"⟩
abbrev c_M_isMet : ByteArray := prog_8_method_15_code
def y_M_isMet : MethodName := ⟨R_M, "isMet", "(II)Z"⟩
abbrev c_M_isNext : ByteArray := prog_8_method_19_code
def y_M_isNext : MethodName := ⟨R_M, "isNext", "(II)Z"⟩
abbrev c_M_join : ByteArray := prog_8_method_25_code
def y_M_join : MethodName := ⟨R_M, "join", "(II)I"⟩
abbrev c_M_kind : ByteArray := prog_8_method_8_code
def y_M_kind : MethodName := ⟨R_M, "kind", "(II)I"⟩
abbrev c_M_lay : ByteArray := prog_8_method_21_code
def y_M_lay : MethodName := ⟨R_M, "lay", "(IIZ)I"⟩
abbrev c_M_left : ByteArray := prog_8_method_11_code
def y_M_left : MethodName := ⟨R_M, "left", "(I)I"⟩
abbrev c_M_look : ByteArray := prog_8_method_34_code
def y_M_look : MethodName := ⟨R_M, "look", "(II)I"⟩
abbrev c_M_moved : ByteArray := prog_8_method_5_code
def y_M_moved : MethodName := ⟨R_M, "moved", "(II)I"⟩
abbrev c_M_placeAfter : ByteArray := prog_8_method_13_code
def y_M_placeAfter : MethodName := ⟨R_M, "placeAfter", "(II)I"⟩
abbrev c_M_read : ByteArray := prog_8_method_29_code
def y_M_read : MethodName := ⟨R_M, "read", "(I)V"⟩
abbrev c_M_reading : ByteArray := prog_8_method_37_code
def y_M_reading : MethodName := ⟨R_M, "reading", "(II)I"⟩
abbrev c_M_run : ByteArray := prog_8_method_31_code
def y_M_run : MethodName := ⟨R_M, "run", "(I)I"⟩
abbrev c_M_send : ByteArray := prog_8_method_24_code
def y_M_send : MethodName := ⟨R_M, "send", "(III)I"⟩
abbrev c_M_share : ByteArray := prog_8_method_36_code
def y_M_share : MethodName := ⟨R_M, "share", "(II)J"⟩
abbrev c_M_spread : ByteArray := prog_8_method_20_code
def y_M_spread : MethodName := ⟨R_M, "spread", "(IIZ)I"⟩
abbrev c_M_step : ByteArray := prog_8_method_30_code
def y_M_step : MethodName := ⟨R_M, "step", "()I"⟩
abbrev c_M_thrown : ByteArray := prog_8_method_2_code
def y_M_thrown : MethodName := ⟨R_M, "thrown", "()I"⟩
abbrev c_M_time : ByteArray := prog_8_method_32_code
def y_M_time : MethodName := ⟨R_M, "time", "()I"⟩
abbrev c_M_unite : ByteArray := prog_8_method_28_code
def y_M_unite : MethodName := ⟨R_M, "unite", "(II)V"⟩
abbrev c_M_units : ByteArray := prog_8_method_38_code
def y_M_units : MethodName := ⟨R_M, "units", "(I)I"⟩
abbrev c_R_add : ByteArray := prog_5_method_2_code
def y_R_add : MethodName := ⟨R_R, "add", "(LGuardedDrops$Droplet;I)V"⟩
abbrev c_R_get : ByteArray := prog_5_method_4_code
def y_R_get : MethodName := ⟨R_R, "get", "(II)I"⟩
abbrev c_R_has : ByteArray := prog_5_method_3_code
def y_R_has : MethodName := ⟨R_R, "has", "(II)Z"⟩
abbrev c_R_init : ByteArray := prog_5_method_1_code
def y_R_init : MethodName := ⟨R_R, "<init>", "()V"⟩
abbrev c_S_after : ByteArray := prog_3_method_5_code
def y_S_after : MethodName := ⟨R_S, "after", "(II)I"⟩
abbrev c_S_at : ByteArray := prog_3_method_3_code
def y_S_at : MethodName := ⟨R_S, "at", "(II)I"⟩
abbrev c_S_has : ByteArray := prog_3_method_2_code
def y_S_has : MethodName := ⟨R_S, "has", "(II)Z"⟩
abbrev c_S_near : ByteArray := prog_3_method_7_code
def y_S_near : MethodName := ⟨R_S, "near", "(J)J"⟩
abbrev c_S_oneMoveFrom : ByteArray := prog_3_method_6_code
def y_S_oneMoveFrom : MethodName := ⟨R_S, "oneMoveFrom", "(J)J"⟩
abbrev c_S_only : ByteArray := prog_3_method_4_code
def y_S_only : MethodName := ⟨R_S, "only", "(I)J"⟩
abbrev c_S_sideways : ByteArray := prog_3_method_9_code
def y_S_sideways : MethodName := ⟨R_S, "sideways", "(J)J"⟩
abbrev c_S_upAndDown : ByteArray := prog_3_method_8_code
def y_S_upAndDown : MethodName := ⟨R_S, "upAndDown", "(J)J"⟩
def gd_cf (ci : Nat) (C : String) (T : u_T) (N : Nat) : Prop := gd_cl[ci]? = some (C, T, N) ∧ (∀ w ∈ u_ws C T N, w ∈ gd_all) ∧ (∃ ty0 : Nat → FieldType, (∀ k, k < N → parseFieldDescriptor (T k).2.2.1 = some (ty0 k)) ∧ ∀ k, k < N → (gd_ft ci)[k]? = some (ty0 k)) ∧ (∀ a, a < N → ∀ b, b < N → a ≠ b → (T a).2.1 ≠ (T b).2.1)
def gd_lk (own : String) (x : Nat) (q : String × String × String × Bool) : Prop := Cond.fieldLink own x q.1 q.2.1 q.2.2.1 ∈ gd_all ∨ ∃ host, Cond.fieldLinkNest own x q.1 q.2.1 q.2.2.1 host ∈ gd_nw
theorem gd_uws {C : String} {T : u_T} {N : Nat} (h : ∀ k, k < N → u_lay C T k ∈ gd_all) : ∀ w ∈ u_ws C T N, w ∈ gd_all := by
  intro w hw
  obtain ⟨k, hk, rfl⟩ := List.mem_map.mp hw
  exact h k (List.mem_range.mp hk)
set_option maxRecDepth 100000 in
theorem ul_D_0 : u_lay R_D T_D 0 ∈ gd_all := gd_in 66 rfl rfl
set_option maxRecDepth 100000 in
theorem ul_D_1 : u_lay R_D T_D 1 ∈ gd_all := gd_in 68 rfl rfl
set_option maxRecDepth 100000 in
theorem ul_D_2 : u_lay R_D T_D 2 ∈ gd_all := gd_in 70 rfl rfl
set_option maxRecDepth 100000 in
theorem ul_D_3 : u_lay R_D T_D 3 ∈ gd_all := gd_in 72 rfl rfl
set_option maxRecDepth 100000 in
theorem ul_D_4 : u_lay R_D T_D 4 ∈ gd_all := gd_in 74 rfl rfl
set_option maxRecDepth 100000 in
theorem ul_D_5 : u_lay R_D T_D 5 ∈ gd_all := gd_in 76 rfl rfl
set_option maxRecDepth 100000 in
theorem ul_D_6 : u_lay R_D T_D 6 ∈ gd_all := gd_in 78 rfl rfl
set_option maxRecDepth 100000 in
theorem ul_D_7 : u_lay R_D T_D 7 ∈ gd_all := gd_in 80 rfl rfl
set_option maxRecDepth 100000 in
theorem ul_D_8 : u_lay R_D T_D 8 ∈ gd_all := gd_in 82 rfl rfl
set_option maxRecDepth 100000 in
theorem ul_D_9 : u_lay R_D T_D 9 ∈ gd_all := gd_in 84 rfl rfl
set_option maxRecDepth 100000 in
theorem ul_D_10 : u_lay R_D T_D 10 ∈ gd_all := gd_in 86 rfl rfl
set_option maxRecDepth 100000 in
theorem cf_D : gd_cf 0 R_D T_D 11 := by
  refine ⟨rfl, gd_uws fun k hk => ?_, ⟨ty_D, by decide +kernel, by decide +kernel⟩, by decide +kernel⟩
  rcases (by omega : k = 0 ∨ k = 1 ∨ k = 2 ∨ k = 3 ∨ k = 4 ∨ k = 5 ∨ k = 6 ∨ k = 7 ∨ k = 8 ∨ k = 9 ∨ k = 10) with rfl | rfl | rfl | rfl | rfl | rfl | rfl | rfl | rfl | rfl | rfl
  · exact ul_D_0
  · exact ul_D_1
  · exact ul_D_2
  · exact ul_D_3
  · exact ul_D_4
  · exact ul_D_5
  · exact ul_D_6
  · exact ul_D_7
  · exact ul_D_8
  · exact ul_D_9
  · exact ul_D_10
set_option maxRecDepth 100000 in
theorem ul_L_0 : u_lay R_L T_L 0 ∈ gd_all := gd_in 97 rfl rfl
set_option maxRecDepth 100000 in
theorem ul_L_1 : u_lay R_L T_L 1 ∈ gd_all := gd_in 99 rfl rfl
set_option maxRecDepth 100000 in
theorem ul_L_2 : u_lay R_L T_L 2 ∈ gd_all := gd_in 101 rfl rfl
set_option maxRecDepth 100000 in
theorem cf_L : gd_cf 1 R_L T_L 3 := by
  refine ⟨rfl, gd_uws fun k hk => ?_, ⟨ty_L, by decide +kernel, by decide +kernel⟩, by decide +kernel⟩
  rcases (by omega : k = 0 ∨ k = 1 ∨ k = 2) with rfl | rfl | rfl
  · exact ul_L_0
  · exact ul_L_1
  · exact ul_L_2
set_option maxRecDepth 100000 in
theorem ul_R_0 : u_lay R_R T_R 0 ∈ gd_all := gd_in 126 rfl rfl
set_option maxRecDepth 100000 in
theorem ul_R_1 : u_lay R_R T_R 1 ∈ gd_all := gd_in 128 rfl rfl
set_option maxRecDepth 100000 in
theorem ul_R_2 : u_lay R_R T_R 2 ∈ gd_all := gd_in 130 rfl rfl
set_option maxRecDepth 100000 in
theorem cf_R : gd_cf 2 R_R T_R 3 := by
  refine ⟨rfl, gd_uws fun k hk => ?_, ⟨ty_R, by decide +kernel, by decide +kernel⟩, by decide +kernel⟩
  rcases (by omega : k = 0 ∨ k = 1 ∨ k = 2) with rfl | rfl | rfl
  · exact ul_R_0
  · exact ul_R_1
  · exact ul_R_2
set_option maxRecDepth 100000 in
theorem ul_F_0 : u_lay R_F T_F 0 ∈ gd_all := gd_in 112 rfl rfl
set_option maxRecDepth 100000 in
theorem ul_F_1 : u_lay R_F T_F 1 ∈ gd_all := gd_in 114 rfl rfl
set_option maxRecDepth 100000 in
theorem cf_F : gd_cf 3 R_F T_F 2 := by
  refine ⟨rfl, gd_uws fun k hk => ?_, ⟨ty_F, by decide +kernel, by decide +kernel⟩, by decide +kernel⟩
  rcases (by omega : k = 0 ∨ k = 1) with rfl | rfl
  · exact ul_F_0
  · exact ul_F_1
set_option maxRecDepth 100000 in
theorem ul_G_0 : u_lay R_G T_G 0 ∈ gd_all := gd_in 141 rfl rfl
set_option maxRecDepth 100000 in
theorem ul_G_1 : u_lay R_G T_G 1 ∈ gd_all := gd_in 143 rfl rfl
set_option maxRecDepth 100000 in
theorem ul_G_2 : u_lay R_G T_G 2 ∈ gd_all := gd_in 145 rfl rfl
set_option maxRecDepth 100000 in
theorem ul_G_3 : u_lay R_G T_G 3 ∈ gd_all := gd_in 147 rfl rfl
set_option maxRecDepth 100000 in
theorem ul_G_4 : u_lay R_G T_G 4 ∈ gd_all := gd_in 149 rfl rfl
set_option maxRecDepth 100000 in
theorem ul_G_5 : u_lay R_G T_G 5 ∈ gd_all := gd_in 151 rfl rfl
set_option maxRecDepth 100000 in
theorem ul_G_6 : u_lay R_G T_G 6 ∈ gd_all := gd_in 153 rfl rfl
set_option maxRecDepth 100000 in
theorem ul_G_7 : u_lay R_G T_G 7 ∈ gd_all := gd_in 155 rfl rfl
set_option maxRecDepth 100000 in
theorem cf_G : gd_cf 4 R_G T_G 8 := by
  refine ⟨rfl, gd_uws fun k hk => ?_, ⟨ty_G, by decide +kernel, by decide +kernel⟩, by decide +kernel⟩
  rcases (by omega : k = 0 ∨ k = 1 ∨ k = 2 ∨ k = 3 ∨ k = 4 ∨ k = 5 ∨ k = 6 ∨ k = 7) with rfl | rfl | rfl | rfl | rfl | rfl | rfl | rfl
  · exact ul_G_0
  · exact ul_G_1
  · exact ul_G_2
  · exact ul_G_3
  · exact ul_G_4
  · exact ul_G_5
  · exact ul_G_6
  · exact ul_G_7
set_option maxRecDepth 100000 in
theorem ul_M_0 : u_lay R_M T_M 0 ∈ gd_all := gd_in 578 rfl rfl
set_option maxRecDepth 100000 in
theorem ul_M_1 : u_lay R_M T_M 1 ∈ gd_all := gd_in 580 rfl rfl
set_option maxRecDepth 100000 in
theorem ul_M_2 : u_lay R_M T_M 2 ∈ gd_all := gd_in 582 rfl rfl
set_option maxRecDepth 100000 in
theorem ul_M_3 : u_lay R_M T_M 3 ∈ gd_all := gd_in 584 rfl rfl
set_option maxRecDepth 100000 in
theorem ul_M_4 : u_lay R_M T_M 4 ∈ gd_all := gd_in 586 rfl rfl
set_option maxRecDepth 100000 in
theorem ul_M_5 : u_lay R_M T_M 5 ∈ gd_all := gd_in 588 rfl rfl
set_option maxRecDepth 100000 in
theorem ul_M_6 : u_lay R_M T_M 6 ∈ gd_all := gd_in 590 rfl rfl
set_option maxRecDepth 100000 in
theorem ul_M_7 : u_lay R_M T_M 7 ∈ gd_all := gd_in 592 rfl rfl
set_option maxRecDepth 100000 in
theorem ul_M_8 : u_lay R_M T_M 8 ∈ gd_all := gd_in 594 rfl rfl
set_option maxRecDepth 100000 in
theorem ul_M_9 : u_lay R_M T_M 9 ∈ gd_all := gd_in 596 rfl rfl
set_option maxRecDepth 100000 in
theorem ul_M_10 : u_lay R_M T_M 10 ∈ gd_all := gd_in 598 rfl rfl
set_option maxRecDepth 100000 in
theorem ul_M_11 : u_lay R_M T_M 11 ∈ gd_all := gd_in 600 rfl rfl
set_option maxRecDepth 100000 in
theorem ul_M_12 : u_lay R_M T_M 12 ∈ gd_all := gd_in 602 rfl rfl
set_option maxRecDepth 100000 in
theorem ul_M_13 : u_lay R_M T_M 13 ∈ gd_all := gd_in 604 rfl rfl
set_option maxRecDepth 100000 in
theorem ul_M_14 : u_lay R_M T_M 14 ∈ gd_all := gd_in 606 rfl rfl
set_option maxRecDepth 100000 in
theorem ul_M_15 : u_lay R_M T_M 15 ∈ gd_all := gd_in 608 rfl rfl
set_option maxRecDepth 100000 in
theorem ul_M_16 : u_lay R_M T_M 16 ∈ gd_all := gd_in 610 rfl rfl
set_option maxRecDepth 100000 in
theorem ul_M_17 : u_lay R_M T_M 17 ∈ gd_all := gd_in 612 rfl rfl
set_option maxRecDepth 100000 in
theorem ul_M_18 : u_lay R_M T_M 18 ∈ gd_all := gd_in 614 rfl rfl
set_option maxRecDepth 100000 in
theorem ul_M_19 : u_lay R_M T_M 19 ∈ gd_all := gd_in 616 rfl rfl
set_option maxRecDepth 100000 in
theorem ul_M_20 : u_lay R_M T_M 20 ∈ gd_all := gd_in 618 rfl rfl
set_option maxRecDepth 100000 in
theorem ul_M_21 : u_lay R_M T_M 21 ∈ gd_all := gd_in 620 rfl rfl
set_option maxRecDepth 100000 in
theorem ul_M_22 : u_lay R_M T_M 22 ∈ gd_all := gd_in 622 rfl rfl
set_option maxRecDepth 100000 in
theorem cf_M : gd_cf 5 R_M T_M 23 := by
  refine ⟨rfl, gd_uws fun k hk => ?_, ⟨ty_M, by decide +kernel, by decide +kernel⟩, by decide +kernel⟩
  rcases (by omega : k = 0 ∨ k = 1 ∨ k = 2 ∨ k = 3 ∨ k = 4 ∨ k = 5 ∨ k = 6 ∨ k = 7 ∨ k = 8 ∨ k = 9 ∨ k = 10 ∨ k = 11 ∨ k = 12 ∨ k = 13 ∨ k = 14 ∨ k = 15 ∨ k = 16 ∨ k = 17 ∨ k = 18 ∨ k = 19 ∨ k = 20 ∨ k = 21 ∨ k = 22) with rfl | rfl | rfl | rfl | rfl | rfl | rfl | rfl | rfl | rfl | rfl | rfl | rfl | rfl | rfl | rfl | rfl | rfl | rfl | rfl | rfl | rfl | rfl
  · exact ul_M_0
  · exact ul_M_1
  · exact ul_M_2
  · exact ul_M_3
  · exact ul_M_4
  · exact ul_M_5
  · exact ul_M_6
  · exact ul_M_7
  · exact ul_M_8
  · exact ul_M_9
  · exact ul_M_10
  · exact ul_M_11
  · exact ul_M_12
  · exact ul_M_13
  · exact ul_M_14
  · exact ul_M_15
  · exact ul_M_16
  · exact ul_M_17
  · exact ul_M_18
  · exact ul_M_19
  · exact ul_M_20
  · exact ul_M_21
  · exact ul_M_22
abbrev gd_F : Type := List (Nat × Nat × Nat × Bool)
def gd_FB (own : String) (fl : gd_F) : Prop := ∀ q ∈ fl, ∃ (C : String) (T : u_T) (N : Nat), gd_cf q.2.1 C T N ∧ q.2.2.1 < N ∧ gd_lk own q.1 (T q.2.2.1) ∧ (q.2.2.2 = true → (T q.2.2.1).2.2.2 = false)
theorem gd_FB0 {own : String} : gd_FB own [] := fun _ h => nomatch h
theorem gd_FBc {own : String} {q : Nat × Nat × Nat × Bool} {fl : gd_F} (h : ∃ (C : String) (T : u_T) (N : Nat), gd_cf q.2.1 C T N ∧ q.2.2.1 < N ∧ gd_lk own q.1 (T q.2.2.1) ∧ (q.2.2.2 = true → (T q.2.2.1).2.2.2 = false)) (t : gd_FB own fl) : gd_FB own (q :: fl) := fun x hx => (List.mem_cons.mp hx).elim (fun e => e ▸ h) (t x)
set_option maxRecDepth 100000 in
theorem lk_D_44 : gd_lk R_D 44 (T_D 10) := Or.inl (gd_in 64 rfl rfl)
set_option maxRecDepth 100000 in
theorem lk_D_41 : gd_lk R_D 41 (T_D 9) := Or.inl (gd_in 62 rfl rfl)
set_option maxRecDepth 100000 in
theorem lk_D_38 : gd_lk R_D 38 (T_D 8) := Or.inl (gd_in 59 rfl rfl)
set_option maxRecDepth 100000 in
theorem lk_D_35 : gd_lk R_D 35 (T_D 7) := Or.inl (gd_in 57 rfl rfl)
set_option maxRecDepth 100000 in
theorem lk_D_32 : gd_lk R_D 32 (T_D 6) := Or.inl (gd_in 56 rfl rfl)
set_option maxRecDepth 100000 in
theorem lk_D_29 : gd_lk R_D 29 (T_D 5) := Or.inl (gd_in 54 rfl rfl)
set_option maxRecDepth 100000 in
theorem lk_D_26 : gd_lk R_D 26 (T_D 4) := Or.inl (gd_in 51 rfl rfl)
set_option maxRecDepth 100000 in
theorem lk_D_23 : gd_lk R_D 23 (T_D 3) := Or.inl (gd_in 47 rfl rfl)
set_option maxRecDepth 100000 in
theorem lk_D_19 : gd_lk R_D 19 (T_D 2) := Or.inl (gd_in 43 rfl rfl)
set_option maxRecDepth 100000 in
theorem lk_D_15 : gd_lk R_D 15 (T_D 1) := Or.inl (gd_in 41 rfl rfl)
set_option maxRecDepth 100000 in
theorem lk_D_9 : gd_lk R_D 9 (T_D 0) := Or.inl (gd_in 39 rfl rfl)
def fl_D : gd_F := [(9, 0, 0, false), (15, 0, 1, false), (19, 0, 2, true), (23, 0, 3, true), (26, 0, 4, true), (29, 0, 5, true), (32, 0, 6, true), (35, 0, 7, true), (38, 0, 8, true), (41, 0, 9, true), (44, 0, 10, true)]
theorem fb_D : gd_FB R_D fl_D := gd_FBc ⟨R_D, T_D, 11, cf_D, by decide, lk_D_9, fun h => nomatch h⟩ (gd_FBc ⟨R_D, T_D, 11, cf_D, by decide, lk_D_15, fun h => nomatch h⟩ (gd_FBc ⟨R_D, T_D, 11, cf_D, by decide, lk_D_19, fun _ => rfl⟩ (gd_FBc ⟨R_D, T_D, 11, cf_D, by decide, lk_D_23, fun _ => rfl⟩ (gd_FBc ⟨R_D, T_D, 11, cf_D, by decide, lk_D_26, fun _ => rfl⟩ (gd_FBc ⟨R_D, T_D, 11, cf_D, by decide, lk_D_29, fun _ => rfl⟩ (gd_FBc ⟨R_D, T_D, 11, cf_D, by decide, lk_D_32, fun _ => rfl⟩ (gd_FBc ⟨R_D, T_D, 11, cf_D, by decide, lk_D_35, fun _ => rfl⟩ (gd_FBc ⟨R_D, T_D, 11, cf_D, by decide, lk_D_38, fun _ => rfl⟩ (gd_FBc ⟨R_D, T_D, 11, cf_D, by decide, lk_D_41, fun _ => rfl⟩ (gd_FBc ⟨R_D, T_D, 11, cf_D, by decide, lk_D_44, fun _ => rfl⟩ (gd_FB0)))))))))))
set_option maxRecDepth 100000 in
theorem lk_L_25 : gd_lk R_L 25 (T_D 2) := Or.inr ⟨"GuardedDrops", gd_inn 44 rfl rfl⟩
set_option maxRecDepth 100000 in
theorem lk_L_21 : gd_lk R_L 21 (T_L 2) := Or.inl (gd_in 95 rfl rfl)
set_option maxRecDepth 100000 in
theorem lk_L_17 : gd_lk R_L 17 (T_L 1) := Or.inl (gd_in 93 rfl rfl)
set_option maxRecDepth 100000 in
theorem lk_L_11 : gd_lk R_L 11 (T_L 0) := Or.inl (gd_in 91 rfl rfl)
def fl_L : gd_F := [(11, 1, 0, false), (17, 1, 1, true), (21, 1, 2, true), (25, 0, 2, true)]
theorem fb_L : gd_FB R_L fl_L := gd_FBc ⟨R_L, T_L, 3, cf_L, by decide, lk_L_11, fun h => nomatch h⟩ (gd_FBc ⟨R_L, T_L, 3, cf_L, by decide, lk_L_17, fun _ => rfl⟩ (gd_FBc ⟨R_L, T_L, 3, cf_L, by decide, lk_L_21, fun _ => rfl⟩ (gd_FBc ⟨R_D, T_D, 11, cf_D, by decide, lk_L_25, fun _ => rfl⟩ (gd_FB0))))
set_option maxRecDepth 100000 in
theorem lk_R_30 : gd_lk R_R 30 (T_D 4) := Or.inr ⟨"GuardedDrops", gd_inn 52 rfl rfl⟩
set_option maxRecDepth 100000 in
theorem lk_R_27 : gd_lk R_R 27 (T_D 3) := Or.inr ⟨"GuardedDrops", gd_inn 48 rfl rfl⟩
set_option maxRecDepth 100000 in
theorem lk_R_22 : gd_lk R_R 22 (T_D 2) := Or.inr ⟨"GuardedDrops", gd_inn 45 rfl rfl⟩
set_option maxRecDepth 100000 in
theorem lk_R_19 : gd_lk R_R 19 (T_R 2) := Or.inl (gd_in 125 rfl rfl)
set_option maxRecDepth 100000 in
theorem lk_R_15 : gd_lk R_R 15 (T_R 1) := Or.inl (gd_in 124 rfl rfl)
set_option maxRecDepth 100000 in
theorem lk_R_11 : gd_lk R_R 11 (T_R 0) := Or.inl (gd_in 123 rfl rfl)
def fl_R : gd_F := [(11, 2, 0, false), (15, 2, 1, true), (19, 2, 2, true), (22, 0, 2, true), (27, 0, 3, true), (30, 0, 4, true)]
theorem fb_R : gd_FB R_R fl_R := gd_FBc ⟨R_R, T_R, 3, cf_R, by decide, lk_R_11, fun h => nomatch h⟩ (gd_FBc ⟨R_R, T_R, 3, cf_R, by decide, lk_R_15, fun _ => rfl⟩ (gd_FBc ⟨R_R, T_R, 3, cf_R, by decide, lk_R_19, fun _ => rfl⟩ (gd_FBc ⟨R_D, T_D, 11, cf_D, by decide, lk_R_22, fun _ => rfl⟩ (gd_FBc ⟨R_D, T_D, 11, cf_D, by decide, lk_R_27, fun _ => rfl⟩ (gd_FBc ⟨R_D, T_D, 11, cf_D, by decide, lk_R_30, fun _ => rfl⟩ (gd_FB0))))))
set_option maxRecDepth 100000 in
theorem lk_F_47 : gd_lk R_F 47 (T_D 7) := Or.inr ⟨"GuardedDrops", gd_inn 58 rfl rfl⟩
set_option maxRecDepth 100000 in
theorem lk_F_43 : gd_lk R_F 43 (T_D 0) := Or.inr ⟨"GuardedDrops", gd_inn 40 rfl rfl⟩
set_option maxRecDepth 100000 in
theorem lk_F_34 : gd_lk R_F 34 (T_D 3) := Or.inr ⟨"GuardedDrops", gd_inn 49 rfl rfl⟩
set_option maxRecDepth 100000 in
theorem lk_F_30 : gd_lk R_F 30 (T_D 8) := Or.inr ⟨"GuardedDrops", gd_inn 60 rfl rfl⟩
set_option maxRecDepth 100000 in
theorem lk_F_15 : gd_lk R_F 15 (T_F 1) := Or.inl (gd_in 111 rfl rfl)
set_option maxRecDepth 100000 in
theorem lk_F_9 : gd_lk R_F 9 (T_F 0) := Or.inl (gd_in 110 rfl rfl)
def fl_F : gd_F := [(9, 3, 0, false), (15, 3, 1, false), (30, 0, 8, true), (34, 0, 3, true), (43, 0, 0, false), (47, 0, 7, true)]
theorem fb_F : gd_FB R_F fl_F := gd_FBc ⟨R_F, T_F, 2, cf_F, by decide, lk_F_9, fun h => nomatch h⟩ (gd_FBc ⟨R_F, T_F, 2, cf_F, by decide, lk_F_15, fun h => nomatch h⟩ (gd_FBc ⟨R_D, T_D, 11, cf_D, by decide, lk_F_30, fun _ => rfl⟩ (gd_FBc ⟨R_D, T_D, 11, cf_D, by decide, lk_F_34, fun _ => rfl⟩ (gd_FBc ⟨R_D, T_D, 11, cf_D, by decide, lk_F_43, fun h => nomatch h⟩ (gd_FBc ⟨R_D, T_D, 11, cf_D, by decide, lk_F_47, fun _ => rfl⟩ (gd_FB0))))))
set_option maxRecDepth 100000 in
theorem lk_G_232 : gd_lk R_G 232 (T_D 10) := Or.inr ⟨"GuardedDrops", gd_inn 65 rfl rfl⟩
set_option maxRecDepth 100000 in
theorem lk_G_216 : gd_lk R_G 216 (T_L 0) := Or.inr ⟨"GuardedDrops", gd_inn 92 rfl rfl⟩
set_option maxRecDepth 100000 in
theorem lk_G_200 : gd_lk R_G 200 (T_D 1) := Or.inr ⟨"GuardedDrops", gd_inn 42 rfl rfl⟩
set_option maxRecDepth 100000 in
theorem lk_G_197 : gd_lk R_G 197 (T_D 5) := Or.inr ⟨"GuardedDrops", gd_inn 55 rfl rfl⟩
set_option maxRecDepth 100000 in
theorem lk_G_145 : gd_lk R_G 145 (T_D 9) := Or.inr ⟨"GuardedDrops", gd_inn 63 rfl rfl⟩
set_option maxRecDepth 100000 in
theorem lk_G_142 : gd_lk R_G 142 (T_D 8) := Or.inr ⟨"GuardedDrops", gd_inn 61 rfl rfl⟩
set_option maxRecDepth 100000 in
theorem lk_G_137 : gd_lk R_G 137 (T_D 4) := Or.inr ⟨"GuardedDrops", gd_inn 53 rfl rfl⟩
set_option maxRecDepth 100000 in
theorem lk_G_119 : gd_lk R_G 119 (T_D 3) := Or.inr ⟨"GuardedDrops", gd_inn 50 rfl rfl⟩
set_option maxRecDepth 100000 in
theorem lk_G_101 : gd_lk R_G 101 (T_D 2) := Or.inr ⟨"GuardedDrops", gd_inn 46 rfl rfl⟩
set_option maxRecDepth 100000 in
theorem lk_G_83 : gd_lk R_G 83 (T_L 2) := Or.inr ⟨"GuardedDrops", gd_inn 96 rfl rfl⟩
set_option maxRecDepth 100000 in
theorem lk_G_54 : gd_lk R_G 54 (T_L 1) := Or.inr ⟨"GuardedDrops", gd_inn 94 rfl rfl⟩
set_option maxRecDepth 100000 in
theorem lk_G_45 : gd_lk R_G 45 (T_G 7) := Or.inl (gd_in 140 rfl rfl)
set_option maxRecDepth 100000 in
theorem lk_G_42 : gd_lk R_G 42 (T_G 6) := Or.inl (gd_in 139 rfl rfl)
set_option maxRecDepth 100000 in
theorem lk_G_38 : gd_lk R_G 38 (T_G 5) := Or.inl (gd_in 138 rfl rfl)
set_option maxRecDepth 100000 in
theorem lk_G_34 : gd_lk R_G 34 (T_G 4) := Or.inl (gd_in 137 rfl rfl)
set_option maxRecDepth 100000 in
theorem lk_G_30 : gd_lk R_G 30 (T_G 3) := Or.inl (gd_in 136 rfl rfl)
set_option maxRecDepth 100000 in
theorem lk_G_23 : gd_lk R_G 23 (T_G 2) := Or.inl (gd_in 135 rfl rfl)
set_option maxRecDepth 100000 in
theorem lk_G_16 : gd_lk R_G 16 (T_G 1) := Or.inl (gd_in 134 rfl rfl)
set_option maxRecDepth 100000 in
theorem lk_G_9 : gd_lk R_G 9 (T_G 0) := Or.inl (gd_in 133 rfl rfl)
def fl_G : gd_F := [(9, 4, 0, false), (16, 4, 1, false), (23, 4, 2, false), (30, 4, 3, false), (34, 4, 4, true), (38, 4, 5, true), (42, 4, 6, true), (45, 4, 7, true), (54, 1, 1, true), (83, 1, 2, true), (101, 0, 2, true), (119, 0, 3, true), (137, 0, 4, true), (142, 0, 8, true), (145, 0, 9, true), (197, 0, 5, true), (200, 0, 1, false), (216, 1, 0, false), (232, 0, 10, true)]
theorem fb_G : gd_FB R_G fl_G := gd_FBc ⟨R_G, T_G, 8, cf_G, by decide, lk_G_9, fun h => nomatch h⟩ (gd_FBc ⟨R_G, T_G, 8, cf_G, by decide, lk_G_16, fun h => nomatch h⟩ (gd_FBc ⟨R_G, T_G, 8, cf_G, by decide, lk_G_23, fun h => nomatch h⟩ (gd_FBc ⟨R_G, T_G, 8, cf_G, by decide, lk_G_30, fun h => nomatch h⟩ (gd_FBc ⟨R_G, T_G, 8, cf_G, by decide, lk_G_34, fun _ => rfl⟩ (gd_FBc ⟨R_G, T_G, 8, cf_G, by decide, lk_G_38, fun _ => rfl⟩ (gd_FBc ⟨R_G, T_G, 8, cf_G, by decide, lk_G_42, fun _ => rfl⟩ (gd_FBc ⟨R_G, T_G, 8, cf_G, by decide, lk_G_45, fun _ => rfl⟩ (gd_FBc ⟨R_L, T_L, 3, cf_L, by decide, lk_G_54, fun _ => rfl⟩ (gd_FBc ⟨R_L, T_L, 3, cf_L, by decide, lk_G_83, fun _ => rfl⟩ (gd_FBc ⟨R_D, T_D, 11, cf_D, by decide, lk_G_101, fun _ => rfl⟩ (gd_FBc ⟨R_D, T_D, 11, cf_D, by decide, lk_G_119, fun _ => rfl⟩ (gd_FBc ⟨R_D, T_D, 11, cf_D, by decide, lk_G_137, fun _ => rfl⟩ (gd_FBc ⟨R_D, T_D, 11, cf_D, by decide, lk_G_142, fun _ => rfl⟩ (gd_FBc ⟨R_D, T_D, 11, cf_D, by decide, lk_G_145, fun _ => rfl⟩ (gd_FBc ⟨R_D, T_D, 11, cf_D, by decide, lk_G_197, fun _ => rfl⟩ (gd_FBc ⟨R_D, T_D, 11, cf_D, by decide, lk_G_200, fun h => nomatch h⟩ (gd_FBc ⟨R_L, T_L, 3, cf_L, by decide, lk_G_216, fun h => nomatch h⟩ (gd_FBc ⟨R_D, T_D, 11, cf_D, by decide, lk_G_232, fun _ => rfl⟩ (gd_FB0)))))))))))))))))))
set_option maxRecDepth 100000 in
theorem lk_M_143 : gd_lk R_M 143 (T_M 1) := Or.inl (gd_in 556 rfl rfl)
set_option maxRecDepth 100000 in
theorem lk_M_140 : gd_lk R_M 140 (T_M 14) := Or.inl (gd_in 569 rfl rfl)
set_option maxRecDepth 100000 in
theorem lk_M_135 : gd_lk R_M 135 (T_M 13) := Or.inl (gd_in 568 rfl rfl)
set_option maxRecDepth 100000 in
theorem lk_M_122 : gd_lk R_M 122 (T_M 12) := Or.inl (gd_in 567 rfl rfl)
set_option maxRecDepth 100000 in
theorem lk_M_86 : gd_lk R_M 86 (T_M 19) := Or.inl (gd_in 574 rfl rfl)
set_option maxRecDepth 100000 in
theorem lk_M_68 : gd_lk R_M 68 (T_M 3) := Or.inl (gd_in 558 rfl rfl)
set_option maxRecDepth 100000 in
theorem lk_M_60 : gd_lk R_M 60 (T_M 0) := Or.inl (gd_in 555 rfl rfl)
set_option maxRecDepth 100000 in
theorem lk_M_57 : gd_lk R_M 57 (T_M 22) := Or.inl (gd_in 577 rfl rfl)
set_option maxRecDepth 100000 in
theorem lk_M_53 : gd_lk R_M 53 (T_M 21) := Or.inl (gd_in 576 rfl rfl)
set_option maxRecDepth 100000 in
theorem lk_M_50 : gd_lk R_M 50 (T_M 20) := Or.inl (gd_in 575 rfl rfl)
set_option maxRecDepth 100000 in
theorem lk_M_47 : gd_lk R_M 47 (T_M 18) := Or.inl (gd_in 573 rfl rfl)
set_option maxRecDepth 100000 in
theorem lk_M_44 : gd_lk R_M 44 (T_M 17) := Or.inl (gd_in 572 rfl rfl)
set_option maxRecDepth 100000 in
theorem lk_M_41 : gd_lk R_M 41 (T_M 16) := Or.inl (gd_in 571 rfl rfl)
set_option maxRecDepth 100000 in
theorem lk_M_38 : gd_lk R_M 38 (T_M 15) := Or.inl (gd_in 570 rfl rfl)
set_option maxRecDepth 100000 in
theorem lk_M_35 : gd_lk R_M 35 (T_M 11) := Or.inl (gd_in 566 rfl rfl)
set_option maxRecDepth 100000 in
theorem lk_M_32 : gd_lk R_M 32 (T_M 10) := Or.inl (gd_in 565 rfl rfl)
set_option maxRecDepth 100000 in
theorem lk_M_29 : gd_lk R_M 29 (T_M 9) := Or.inl (gd_in 564 rfl rfl)
set_option maxRecDepth 100000 in
theorem lk_M_26 : gd_lk R_M 26 (T_M 8) := Or.inl (gd_in 563 rfl rfl)
set_option maxRecDepth 100000 in
theorem lk_M_23 : gd_lk R_M 23 (T_M 7) := Or.inl (gd_in 562 rfl rfl)
set_option maxRecDepth 100000 in
theorem lk_M_19 : gd_lk R_M 19 (T_M 6) := Or.inl (gd_in 561 rfl rfl)
set_option maxRecDepth 100000 in
theorem lk_M_16 : gd_lk R_M 16 (T_M 5) := Or.inl (gd_in 560 rfl rfl)
set_option maxRecDepth 100000 in
theorem lk_M_13 : gd_lk R_M 13 (T_M 4) := Or.inl (gd_in 559 rfl rfl)
set_option maxRecDepth 100000 in
theorem lk_M_7 : gd_lk R_M 7 (T_M 2) := Or.inl (gd_in 557 rfl rfl)
def fl_M : gd_F := [(7, 5, 2, false), (13, 5, 4, false), (16, 5, 5, false), (19, 5, 6, false), (23, 5, 7, false), (26, 5, 8, false), (29, 5, 9, false), (32, 5, 10, false), (35, 5, 11, false), (38, 5, 15, false), (41, 5, 16, false), (44, 5, 17, false), (47, 5, 18, false), (50, 5, 20, false), (53, 5, 21, false), (57, 5, 22, false), (60, 5, 0, true), (68, 5, 3, true), (86, 5, 19, true), (122, 5, 12, true), (135, 5, 13, true), (140, 5, 14, true), (143, 5, 1, true)]
theorem fb_M : gd_FB R_M fl_M := gd_FBc ⟨R_M, T_M, 23, cf_M, by decide, lk_M_7, fun h => nomatch h⟩ (gd_FBc ⟨R_M, T_M, 23, cf_M, by decide, lk_M_13, fun h => nomatch h⟩ (gd_FBc ⟨R_M, T_M, 23, cf_M, by decide, lk_M_16, fun h => nomatch h⟩ (gd_FBc ⟨R_M, T_M, 23, cf_M, by decide, lk_M_19, fun h => nomatch h⟩ (gd_FBc ⟨R_M, T_M, 23, cf_M, by decide, lk_M_23, fun h => nomatch h⟩ (gd_FBc ⟨R_M, T_M, 23, cf_M, by decide, lk_M_26, fun h => nomatch h⟩ (gd_FBc ⟨R_M, T_M, 23, cf_M, by decide, lk_M_29, fun h => nomatch h⟩ (gd_FBc ⟨R_M, T_M, 23, cf_M, by decide, lk_M_32, fun h => nomatch h⟩ (gd_FBc ⟨R_M, T_M, 23, cf_M, by decide, lk_M_35, fun h => nomatch h⟩ (gd_FBc ⟨R_M, T_M, 23, cf_M, by decide, lk_M_38, fun h => nomatch h⟩ (gd_FBc ⟨R_M, T_M, 23, cf_M, by decide, lk_M_41, fun h => nomatch h⟩ (gd_FBc ⟨R_M, T_M, 23, cf_M, by decide, lk_M_44, fun h => nomatch h⟩ (gd_FBc ⟨R_M, T_M, 23, cf_M, by decide, lk_M_47, fun h => nomatch h⟩ (gd_FBc ⟨R_M, T_M, 23, cf_M, by decide, lk_M_50, fun h => nomatch h⟩ (gd_FBc ⟨R_M, T_M, 23, cf_M, by decide, lk_M_53, fun h => nomatch h⟩ (gd_FBc ⟨R_M, T_M, 23, cf_M, by decide, lk_M_57, fun h => nomatch h⟩ (gd_FBc ⟨R_M, T_M, 23, cf_M, by decide, lk_M_60, fun _ => rfl⟩ (gd_FBc ⟨R_M, T_M, 23, cf_M, by decide, lk_M_68, fun _ => rfl⟩ (gd_FBc ⟨R_M, T_M, 23, cf_M, by decide, lk_M_86, fun _ => rfl⟩ (gd_FBc ⟨R_M, T_M, 23, cf_M, by decide, lk_M_122, fun _ => rfl⟩ (gd_FBc ⟨R_M, T_M, 23, cf_M, by decide, lk_M_135, fun _ => rfl⟩ (gd_FBc ⟨R_M, T_M, 23, cf_M, by decide, lk_M_140, fun _ => rfl⟩ (gd_FBc ⟨R_M, T_M, 23, cf_M, by decide, lk_M_143, fun _ => rfl⟩ (gd_FB0)))))))))))))))))))))))
def fl_S : gd_F := []
theorem fb_S : gd_FB R_S fl_S := gd_FB0
def fl_A : gd_F := []
theorem fb_A : gd_FB R_A fl_A := gd_FB0
def fl_J : gd_F := []
theorem fb_J : gd_FB R_J fl_J := gd_FB0
def fl_K : gd_F := []
theorem fb_K : gd_FB R_K fl_K := gd_FB0
abbrev gd_L : Type := List (Nat × Int64)
def gd_LB (own : String) (lc : gd_L) : Prop := ∀ q ∈ lc, Cond.constantLong own q.1 q.2 ∈ gd_all
theorem gd_LB0 {own : String} : gd_LB own [] := fun _ h => nomatch h
theorem gd_LBc {own : String} {q : Nat × Int64} {lc : gd_L} (h : Cond.constantLong own q.1 q.2 ∈ gd_all) (t : gd_LB own lc) : gd_LB own (q :: lc) := fun x hx => (List.mem_cons.mp hx).elim (fun e => e ▸ h) (t x)
def lc_D : gd_L := []
theorem lb_D : gd_LB R_D lc_D := gd_LB0
def lc_L : gd_L := []
theorem lb_L : gd_LB R_L lc_L := gd_LB0
def lc_R : gd_L := []
theorem lb_R : gd_LB R_R lc_R := gd_LB0
def lc_F : gd_L := [(64, -1)]
set_option maxRecDepth 100000 in
theorem lb_F : gd_LB R_F lc_F := gd_LBc (gd_in 401 rfl rfl) (gd_LB0)
def lc_G : gd_L := [(65, -1)]
set_option maxRecDepth 100000 in
theorem lb_G : gd_LB R_G lc_G := gd_LBc (gd_in 171 rfl rfl) (gd_LB0)
def lc_M : gd_L := [(138, 2)]
set_option maxRecDepth 100000 in
theorem lb_M : gd_LB R_M lc_M := gd_LBc (gd_in 739 rfl rfl) (gd_LB0)
def lc_S : gd_L := [(26, 9187201950435737471), (28, -72340172838076674)]
set_option maxRecDepth 100000 in
theorem lb_S : gd_LB R_S lc_S := gd_LBc (gd_in 320 rfl rfl) (gd_LBc (gd_in 321 rfl rfl) (gd_LB0))
def lc_A : gd_L := []
theorem lb_A : gd_LB R_A lc_A := gd_LB0
def lc_J : gd_L := []
theorem lb_J : gd_LB R_J lc_J := gd_LB0
def lc_K : gd_L := []
theorem lb_K : gd_LB R_K lc_K := gd_LB0
def gd_ml (own : String) (idx : Nat) (y : MethodName) : Prop := Cond.methodLink own idx y ∈ gd_all ∨ ∃ host, Cond.methodLinkNest own idx y host ∈ gd_nw
set_option maxRecDepth 100000 in
theorem ml_A_49 : gd_ml R_A 49 y_G_init := Or.inl (gd_in 20 rfl rfl)
set_option maxRecDepth 100000 in
theorem ml_G_15 : gd_ml R_G 15 y_L_init := Or.inl (gd_in 28 rfl rfl)
set_option maxRecDepth 100000 in
theorem ml_L_24 : gd_ml R_L 24 y_D_init := Or.inr ⟨"GuardedDrops", gd_inn 35 rfl rfl⟩
set_option maxRecDepth 100000 in
theorem ml_G_22 : gd_ml R_G 22 y_F_init := Or.inr ⟨"GuardedDrops", gd_inn 106 rfl rfl⟩
set_option maxRecDepth 100000 in
theorem ml_G_29 : gd_ml R_G 29 y_R_init := Or.inr ⟨"GuardedDrops", gd_inn 119 rfl rfl⟩
set_option maxRecDepth 100000 in
theorem ml_A_53 : gd_ml R_A 53 y_G_cell := Or.inl (gd_in 158 rfl rfl)
set_option maxRecDepth 100000 in
theorem ml_G_48 : gd_ml R_G 48 y_S_has := Or.inl (gd_in 162 rfl rfl)
set_option maxRecDepth 100000 in
theorem ml_G_57 : gd_ml R_G 57 y_S_at := Or.inl (gd_in 165 rfl rfl)
set_option maxRecDepth 100000 in
theorem ml_G_61 : gd_ml R_G 61 y_S_only := Or.inl (gd_in 168 rfl rfl)
set_option maxRecDepth 100000 in
theorem ml_A_86 : gd_ml R_A 86 y_G_time := Or.inl (gd_in 172 rfl rfl)
set_option maxRecDepth 100000 in
theorem ml_A_90 : gd_ml R_A 90 y_G_droplets := Or.inl (gd_in 176 rfl rfl)
set_option maxRecDepth 100000 in
theorem ml_A_97 : gd_ml R_A 97 y_G_ahead := Or.inl (gd_in 180 rfl rfl)
set_option maxRecDepth 100000 in
theorem ml_G_104 : gd_ml R_G 104 y_L_find := Or.inl (gd_in 184 rfl rfl)
set_option maxRecDepth 100000 in
theorem ml_G_192 : gd_ml R_G 192 y_D_placeAfter := Or.inl (gd_in 188 rfl rfl)
set_option maxRecDepth 100000 in
theorem ml_D_60 : gd_ml R_D 60 y_D_movesLeft := Or.inl (gd_in 192 rfl rfl)
set_option maxRecDepth 100000 in
theorem ml_D_64 : gd_ml R_D 64 y_S_after := Or.inl (gd_in 196 rfl rfl)
set_option maxRecDepth 100000 in
theorem ml_S_9 : gd_ml R_S 9 y_S_has := Or.inl (gd_in 199 rfl rfl)
set_option maxRecDepth 100000 in
theorem ml_S_15 : gd_ml R_S 15 y_S_at := Or.inl (gd_in 200 rfl rfl)
set_option maxRecDepth 100000 in
theorem ml_A_107 : gd_ml R_A 107 y_G_units := Or.inl (gd_in 201 rfl rfl)
set_option maxRecDepth 100000 in
theorem ml_A_111 : gd_ml R_A 111 y_G_kind := Or.inl (gd_in 205 rfl rfl)
set_option maxRecDepth 100000 in
theorem ml_A_58 : gd_ml R_A 58 y_A_dispense := Or.inl (gd_in 209 rfl rfl)
set_option maxRecDepth 100000 in
theorem ml_A_7 : gd_ml R_A 7 y_G_dispense := Or.inl (gd_in 215 rfl rfl)
set_option maxRecDepth 100000 in
theorem ml_G_74 : gd_ml R_G 74 y_G_clearSource := Or.inl (gd_in 288 rfl rfl)
set_option maxRecDepth 100000 in
theorem ml_G_115 : gd_ml R_G 115 y_G_heedAllBut := Or.inl (gd_in 292 rfl rfl)
set_option maxRecDepth 100000 in
theorem ml_G_213 : gd_ml R_G 213 y_F_forget := Or.inl (gd_in 296 rfl rfl)
set_option maxRecDepth 100000 in
theorem ml_F_18 : gd_ml R_F 18 y_J_fill := Or.inl (gd_in 300 rfl rfl)
set_option maxRecDepth 100000 in
theorem ml_G_220 : gd_ml R_G 220 y_F_heed := Or.inl (gd_in 303 rfl rfl)
set_option maxRecDepth 100000 in
theorem ml_F_24 : gd_ml R_F 24 y_D_movesLeft := Or.inl (gd_in 307 rfl rfl)
set_option maxRecDepth 100000 in
theorem ml_F_37 : gd_ml R_F 37 y_S_only := Or.inl (gd_in 308 rfl rfl)
set_option maxRecDepth 100000 in
theorem ml_F_50 : gd_ml R_F 50 y_S_after := Or.inl (gd_in 309 rfl rfl)
set_option maxRecDepth 100000 in
theorem ml_G_155 : gd_ml R_G 155 y_F_everShut := Or.inl (gd_in 310 rfl rfl)
set_option maxRecDepth 100000 in
theorem ml_F_54 : gd_ml R_F 54 y_S_near := Or.inl (gd_in 314 rfl rfl)
set_option maxRecDepth 100000 in
theorem ml_S_23 : gd_ml R_S 23 y_S_sideways := Or.inl (gd_in 317 rfl rfl)
set_option maxRecDepth 100000 in
theorem ml_S_19 : gd_ml R_S 19 y_S_upAndDown := Or.inl (gd_in 322 rfl rfl)
set_option maxRecDepth 100000 in
theorem ml_G_159 : gd_ml R_G 159 y_G_isOpen := Or.inl (gd_in 325 rfl rfl)
set_option maxRecDepth 100000 in
theorem ml_G_91 : gd_ml R_G 91 y_L_add := Or.inl (gd_in 360 rfl rfl)
set_option maxRecDepth 100000 in
theorem ml_L_28 : gd_ml R_L 28 y_D_comeToBe := Or.inl (gd_in 364 rfl rfl)
set_option maxRecDepth 100000 in
theorem ml_G_95 : gd_ml R_G 95 y_D_fillWith := Or.inl (gd_in 368 rfl rfl)
set_option maxRecDepth 100000 in
theorem ml_D_48 : gd_ml R_D 48 y_J_fill := Or.inl (gd_in 372 rfl rfl)
set_option maxRecDepth 100000 in
theorem ml_A_68 : gd_ml R_A 68 y_A_send := Or.inl (gd_in 373 rfl rfl)
set_option maxRecDepth 100000 in
theorem ml_A_19 : gd_ml R_A 19 y_G_send := Or.inl (gd_in 376 rfl rfl)
set_option maxRecDepth 100000 in
theorem ml_G_109 : gd_ml R_G 109 y_D_isFree := Or.inl (gd_in 381 rfl rfl)
set_option maxRecDepth 100000 in
theorem ml_G_122 : gd_ml R_G 122 y_F_clearFrom := Or.inl (gd_in 386 rfl rfl)
set_option maxRecDepth 100000 in
theorem ml_F_58 : gd_ml R_F 58 y_F_shutAt := Or.inl (gd_in 390 rfl rfl)
set_option maxRecDepth 100000 in
theorem ml_G_125 : gd_ml R_G 125 y_F_search := Or.inl (gd_in 394 rfl rfl)
set_option maxRecDepth 100000 in
theorem ml_F_61 : gd_ml R_F 61 y_S_oneMoveFrom := Or.inl (gd_in 398 rfl rfl)
set_option maxRecDepth 100000 in
theorem ml_G_131 : gd_ml R_G 131 y_F_trace := Or.inl (gd_in 403 rfl rfl)
set_option maxRecDepth 100000 in
theorem ml_F_66 : gd_ml R_F 66 y_F_leastMove := Or.inl (gd_in 407 rfl rfl)
set_option maxRecDepth 100000 in
theorem ml_F_70 : gd_ml R_F 70 y_D_takeRoute := Or.inl (gd_in 410 rfl rfl)
set_option maxRecDepth 100000 in
theorem ml_A_72 : gd_ml R_A 72 y_A_join := Or.inl (gd_in 414 rfl rfl)
set_option maxRecDepth 100000 in
theorem ml_A_23 : gd_ml R_A 23 y_G_join := Or.inl (gd_in 417 rfl rfl)
set_option maxRecDepth 100000 in
theorem ml_A_76 : gd_ml R_A 76 y_A_halve := Or.inl (gd_in 423 rfl rfl)
set_option maxRecDepth 100000 in
theorem ml_A_27 : gd_ml R_A 27 y_G_halve := Or.inl (gd_in 426 rfl rfl)
set_option maxRecDepth 100000 in
theorem ml_G_152 : gd_ml R_G 152 y_S_after := Or.inl (gd_in 432 rfl rfl)
set_option maxRecDepth 100000 in
theorem ml_G_165 : gd_ml R_G 165 y_G_splitUp := Or.inl (gd_in 434 rfl rfl)
set_option maxRecDepth 100000 in
theorem ml_G_223 : gd_ml R_G 223 y_D_fillLike := Or.inl (gd_in 438 rfl rfl)
set_option maxRecDepth 100000 in
theorem ml_G_171 : gd_ml R_G 171 y_L_remove := Or.inl (gd_in 445 rfl rfl)
set_option maxRecDepth 100000 in
theorem ml_A_80 : gd_ml R_A 80 y_A_discard := Or.inl (gd_in 449 rfl rfl)
set_option maxRecDepth 100000 in
theorem ml_A_31 : gd_ml R_A 31 y_G_discard := Or.inl (gd_in 452 rfl rfl)
set_option maxRecDepth 100000 in
theorem ml_A_83 : gd_ml R_A 83 y_A_run := Or.inl (gd_in 457 rfl rfl)
set_option maxRecDepth 100000 in
theorem ml_A_34 : gd_ml R_A 34 y_G_run := Or.inl (gd_in 460 rfl rfl)
set_option maxRecDepth 100000 in
theorem ml_G_177 : gd_ml R_G 177 y_G_moveAll := Or.inl (gd_in 465 rfl rfl)
set_option maxRecDepth 100000 in
theorem ml_G_226 : gd_ml R_G 226 y_D_makeMove := Or.inl (gd_in 469 rfl rfl)
set_option maxRecDepth 100000 in
theorem ml_G_180 : gd_ml R_G 180 y_G_joinArrived := Or.inl (gd_in 473 rfl rfl)
set_option maxRecDepth 100000 in
theorem ml_G_187 : gd_ml R_G 187 y_D_movesLeft := Or.inl (gd_in 477 rfl rfl)
set_option maxRecDepth 100000 in
theorem ml_G_229 : gd_ml R_G 229 y_D_takeIn := Or.inl (gd_in 478 rfl rfl)
set_option maxRecDepth 100000 in
theorem ml_D_70 : gd_ml R_D 70 y_K_max := Or.inl (gd_in 482 rfl rfl)
set_option maxRecDepth 100000 in
theorem ml_D_75 : gd_ml R_D 75 y_D_lowerExponent := Or.inl (gd_in 485 rfl rfl)
set_option maxRecDepth 100000 in
theorem ml_D_78 : gd_ml R_D 78 y_D_allEven := Or.inl (gd_in 489 rfl rfl)
set_option maxRecDepth 100000 in
theorem ml_G_183 : gd_ml R_G 183 y_G_readMoved := Or.inl (gd_in 493 rfl rfl)
set_option maxRecDepth 100000 in
theorem ml_G_236 : gd_ml R_G 236 y_R_add := Or.inl (gd_in 497 rfl rfl)
set_option maxRecDepth 100000 in
theorem ml_A_94 : gd_ml R_A 94 y_A_look := Or.inl (gd_in 501 rfl rfl)
set_option maxRecDepth 100000 in
theorem ml_A_37 : gd_ml R_A 37 y_G_look := Or.inl (gd_in 504 rfl rfl)
set_option maxRecDepth 100000 in
theorem ml_A_101 : gd_ml R_A 101 y_A_share := Or.inl (gd_in 509 rfl rfl)
set_option maxRecDepth 100000 in
theorem ml_A_40 : gd_ml R_A 40 y_G_share := Or.inl (gd_in 512 rfl rfl)
set_option maxRecDepth 100000 in
theorem ml_A_104 : gd_ml R_A 104 y_A_reading := Or.inl (gd_in 517 rfl rfl)
set_option maxRecDepth 100000 in
theorem ml_A_44 : gd_ml R_A 44 y_G_reading := Or.inl (gd_in 521 rfl rfl)
set_option maxRecDepth 100000 in
theorem ml_G_204 : gd_ml R_G 204 y_R_has := Or.inl (gd_in 525 rfl rfl)
set_option maxRecDepth 100000 in
theorem ml_G_210 : gd_ml R_G 210 y_R_get := Or.inl (gd_in 545 rfl rfl)
set_option maxRecDepth 100000 in
theorem ml_A_52 : gd_ml R_A 52 y_M_init := Or.inl (gd_in 551 rfl rfl)
set_option maxRecDepth 100000 in
theorem ml_A_64 : gd_ml R_A 64 y_M_thrown := Or.inl (gd_in 626 rfl rfl)
set_option maxRecDepth 100000 in
theorem ml_A_57 : gd_ml R_A 57 y_M_cell := Or.inl (gd_in 630 rfl rfl)
set_option maxRecDepth 100000 in
theorem ml_M_64 : gd_ml R_M 64 y_M_isCell := Or.inl (gd_in 634 rfl rfl)
set_option maxRecDepth 100000 in
theorem ml_M_71 : gd_ml R_M 71 y_M_count := Or.inl (gd_in 637 rfl rfl)
set_option maxRecDepth 100000 in
theorem ml_A_114 : gd_ml R_A 114 y_M_kind := Or.inl (gd_in 641 rfl rfl)
set_option maxRecDepth 100000 in
theorem ml_A_63 : gd_ml R_A 63 y_M_dispense := Or.inl (gd_in 645 rfl rfl)
set_option maxRecDepth 100000 in
theorem ml_M_115 : gd_ml R_M 115 y_M_foresee := Or.inl (gd_in 649 rfl rfl)
set_option maxRecDepth 100000 in
theorem ml_M_89 : gd_ml R_M 89 y_M_placeAfter := Or.inl (gd_in 653 rfl rfl)
set_option maxRecDepth 100000 in
theorem ml_M_75 : gd_ml R_M 75 y_M_left := Or.inl (gd_in 657 rfl rfl)
set_option maxRecDepth 100000 in
theorem ml_M_82 : gd_ml R_M 82 y_M_moved := Or.inl (gd_in 661 rfl rfl)
set_option maxRecDepth 100000 in
theorem ml_M_98 : gd_ml R_M 98 y_M_canRest := Or.inl (gd_in 664 rfl rfl)
set_option maxRecDepth 100000 in
theorem ml_M_95 : gd_ml R_M 95 y_M_isMet := Or.inl (gd_in 668 rfl rfl)
set_option maxRecDepth 100000 in
theorem ml_M_92 : gd_ml R_M 92 y_M_areNear := Or.inl (gd_in 672 rfl rfl)
set_option maxRecDepth 100000 in
theorem ml_M_119 : gd_ml R_M 119 y_M_add := Or.inl (gd_in 675 rfl rfl)
set_option maxRecDepth 100000 in
theorem ml_A_71 : gd_ml R_A 71 y_M_send := Or.inl (gd_in 679 rfl rfl)
set_option maxRecDepth 100000 in
theorem ml_M_125 : gd_ml R_M 125 y_M_isDrop := Or.inl (gd_in 683 rfl rfl)
set_option maxRecDepth 100000 in
theorem ml_M_129 : gd_ml R_M 129 y_M_isFree := Or.inl (gd_in 687 rfl rfl)
set_option maxRecDepth 100000 in
theorem ml_M_79 : gd_ml R_M 79 y_M_comer := Or.inl (gd_in 691 rfl rfl)
set_option maxRecDepth 100000 in
theorem ml_M_132 : gd_ml R_M 132 y_M_lay := Or.inl (gd_in 695 rfl rfl)
set_option maxRecDepth 100000 in
theorem ml_M_111 : gd_ml R_M 111 y_M_spread := Or.inl (gd_in 699 rfl rfl)
set_option maxRecDepth 100000 in
theorem ml_M_101 : gd_ml R_M 101 y_M_canEnd := Or.inl (gd_in 703 rfl rfl)
set_option maxRecDepth 100000 in
theorem ml_M_105 : gd_ml R_M 105 y_M_isNext := Or.inl (gd_in 707 rfl rfl)
set_option maxRecDepth 100000 in
theorem ml_M_108 : gd_ml R_M 108 y_M_canBe := Or.inl (gd_in 711 rfl rfl)
set_option maxRecDepth 100000 in
theorem ml_A_75 : gd_ml R_A 75 y_M_join := Or.inl (gd_in 715 rfl rfl)
set_option maxRecDepth 100000 in
theorem ml_A_79 : gd_ml R_A 79 y_M_halve := Or.inl (gd_in 719 rfl rfl)
set_option maxRecDepth 100000 in
theorem ml_A_82 : gd_ml R_A 82 y_M_discard := Or.inl (gd_in 723 rfl rfl)
set_option maxRecDepth 100000 in
theorem ml_A_85 : gd_ml R_A 85 y_M_run := Or.inl (gd_in 727 rfl rfl)
set_option maxRecDepth 100000 in
theorem ml_M_153 : gd_ml R_M 153 y_M_step := Or.inl (gd_in 731 rfl rfl)
set_option maxRecDepth 100000 in
theorem ml_M_146 : gd_ml R_M 146 y_M_unite := Or.inl (gd_in 735 rfl rfl)
set_option maxRecDepth 100000 in
theorem ml_M_149 : gd_ml R_M 149 y_M_read := Or.inl (gd_in 740 rfl rfl)
set_option maxRecDepth 100000 in
theorem ml_A_89 : gd_ml R_A 89 y_M_time := Or.inl (gd_in 744 rfl rfl)
set_option maxRecDepth 100000 in
theorem ml_A_93 : gd_ml R_A 93 y_M_droplets := Or.inl (gd_in 748 rfl rfl)
set_option maxRecDepth 100000 in
theorem ml_A_96 : gd_ml R_A 96 y_M_look := Or.inl (gd_in 752 rfl rfl)
set_option maxRecDepth 100000 in
theorem ml_A_100 : gd_ml R_A 100 y_M_ahead := Or.inl (gd_in 756 rfl rfl)
set_option maxRecDepth 100000 in
theorem ml_A_103 : gd_ml R_A 103 y_M_share := Or.inl (gd_in 760 rfl rfl)
set_option maxRecDepth 100000 in
theorem ml_A_106 : gd_ml R_A 106 y_M_reading := Or.inl (gd_in 764 rfl rfl)
set_option maxRecDepth 100000 in
theorem ml_A_110 : gd_ml R_A 110 y_M_units := Or.inl (gd_in 768 rfl rfl)
/-- what a call of an object's method asks of the tables -/
def gd_CV (y : MethodName) (bytes : ByteArray) (maxL : Nat) (ret : Option FieldType) (ci na : Nat) : Prop := (Cond.instanceMethod y ∈ gd_all ∧ Cond.selects y.cls y y ∈ gd_all ∧ Cond.initialized y.cls ∈ gd_all ∧ Cond.code y bytes maxL ret ∈ gd_all) ∧ (∃ (T : u_T) (N : Nat), gd_cl[ci]? = some (y.cls, T, N)) ∧ y.cls ≠ "java/lang/invoke/MethodHandle" ∧ y.cls ≠ "java/lang/invoke/VarHandle" ∧ (parseMethodDescriptor y.desc).map (fun d => d.parameters.length) = some na
def gd_CS (y : MethodName) (bytes : ByteArray) (maxL : Nat) (ret : Option FieldType) (na : Nat) : Prop := (Cond.static y ∈ gd_all ∧ Cond.initialized y.cls ∈ gd_all ∧ Cond.code y bytes maxL ret ∈ gd_all) ∧ y.cls ≠ "java/lang/invoke/MethodHandle" ∧ y.cls ≠ "java/lang/invoke/VarHandle" ∧ (parseMethodDescriptor y.desc).map (fun d => d.parameters.length) = some na
set_option maxRecDepth 100000 in
theorem cv_D_allEven : gd_CV y_D_allEven c_D_allEven 4 (some .boolean) 0 0 := ⟨⟨gd_in 491 rfl rfl, gd_ins 8 rfl rfl, gd_in 3 rfl rfl, gd_in 492 rfl rfl⟩, ⟨T_D, 11, rfl⟩, by decide, by decide, by decide +kernel⟩
set_option maxRecDepth 100000 in
theorem cv_D_comeToBe : gd_CV y_D_comeToBe c_D_comeToBe 3 none 0 2 := ⟨⟨gd_in 365 rfl rfl, gd_in 366 rfl rfl, gd_in 3 rfl rfl, gd_in 367 rfl rfl⟩, ⟨T_D, 11, rfl⟩, by decide, by decide, by decide +kernel⟩
set_option maxRecDepth 100000 in
theorem cv_D_fillLike : gd_CV y_D_fillLike c_D_fillLike 2 none 0 1 := ⟨⟨gd_in 439 rfl rfl, gd_in 440 rfl rfl, gd_in 3 rfl rfl, gd_in 441 rfl rfl⟩, ⟨T_D, 11, rfl⟩, by decide, by decide, by decide +kernel⟩
set_option maxRecDepth 100000 in
theorem cv_D_fillWith : gd_CV y_D_fillWith c_D_fillWith 2 none 0 1 := ⟨⟨gd_in 369 rfl rfl, gd_in 370 rfl rfl, gd_in 3 rfl rfl, gd_in 371 rfl rfl⟩, ⟨T_D, 11, rfl⟩, by decide, by decide, by decide +kernel⟩
set_option maxRecDepth 100000 in
theorem cv_D_isFree : gd_CV y_D_isFree c_D_isFree 1 (some .boolean) 0 0 := ⟨⟨gd_in 382 rfl rfl, gd_in 383 rfl rfl, gd_in 3 rfl rfl, gd_in 384 rfl rfl⟩, ⟨T_D, 11, rfl⟩, by decide, by decide, by decide +kernel⟩
set_option maxRecDepth 100000 in
theorem cv_D_lowerExponent : gd_CV y_D_lowerExponent c_D_lowerExponent 2 none 0 0 := ⟨⟨gd_in 487 rfl rfl, gd_ins 7 rfl rfl, gd_in 3 rfl rfl, gd_in 488 rfl rfl⟩, ⟨T_D, 11, rfl⟩, by decide, by decide, by decide +kernel⟩
set_option maxRecDepth 100000 in
theorem cv_D_makeMove : gd_CV y_D_makeMove c_D_makeMove 1 none 0 0 := ⟨⟨gd_in 470 rfl rfl, gd_in 471 rfl rfl, gd_in 3 rfl rfl, gd_in 472 rfl rfl⟩, ⟨T_D, 11, rfl⟩, by decide, by decide, by decide +kernel⟩
set_option maxRecDepth 100000 in
theorem cv_D_movesLeft : gd_CV y_D_movesLeft c_D_movesLeft 1 (some .int) 0 0 := ⟨⟨gd_in 193 rfl rfl, gd_in 194 rfl rfl, gd_in 3 rfl rfl, gd_in 195 rfl rfl⟩, ⟨T_D, 11, rfl⟩, by decide, by decide, by decide +kernel⟩
set_option maxRecDepth 100000 in
theorem cv_D_placeAfter : gd_CV y_D_placeAfter c_D_placeAfter 5 (some .int) 0 1 := ⟨⟨gd_in 189 rfl rfl, gd_in 190 rfl rfl, gd_in 3 rfl rfl, gd_in 191 rfl rfl⟩, ⟨T_D, 11, rfl⟩, by decide, by decide, by decide +kernel⟩
set_option maxRecDepth 100000 in
theorem cv_D_takeIn : gd_CV y_D_takeIn c_D_takeIn 4 none 0 1 := ⟨⟨gd_in 479 rfl rfl, gd_in 480 rfl rfl, gd_in 3 rfl rfl, gd_in 481 rfl rfl⟩, ⟨T_D, 11, rfl⟩, by decide, by decide, by decide +kernel⟩
set_option maxRecDepth 100000 in
theorem cv_D_takeRoute : gd_CV y_D_takeRoute c_D_takeRoute 2 none 0 1 := ⟨⟨gd_in 411 rfl rfl, gd_in 412 rfl rfl, gd_in 3 rfl rfl, gd_in 413 rfl rfl⟩, ⟨T_D, 11, rfl⟩, by decide, by decide, by decide +kernel⟩
set_option maxRecDepth 100000 in
theorem cv_F_clearFrom : gd_CV y_F_clearFrom c_F_clearFrom 3 (some .int) 3 1 := ⟨⟨gd_in 387 rfl rfl, gd_in 388 rfl rfl, gd_in 4 rfl rfl, gd_in 389 rfl rfl⟩, ⟨T_F, 2, rfl⟩, by decide, by decide, by decide +kernel⟩
set_option maxRecDepth 100000 in
theorem cv_F_everShut : gd_CV y_F_everShut c_F_everShut 4 (some .long) 3 0 := ⟨⟨gd_in 311 rfl rfl, gd_in 312 rfl rfl, gd_in 4 rfl rfl, gd_in 313 rfl rfl⟩, ⟨T_F, 2, rfl⟩, by decide, by decide, by decide +kernel⟩
set_option maxRecDepth 100000 in
theorem cv_F_forget : gd_CV y_F_forget c_F_forget 1 none 3 0 := ⟨⟨gd_in 297 rfl rfl, gd_in 298 rfl rfl, gd_in 4 rfl rfl, gd_in 299 rfl rfl⟩, ⟨T_F, 2, rfl⟩, by decide, by decide, by decide +kernel⟩
set_option maxRecDepth 100000 in
theorem cv_F_heed : gd_CV y_F_heed c_F_heed 6 none 3 1 := ⟨⟨gd_in 304 rfl rfl, gd_in 305 rfl rfl, gd_in 4 rfl rfl, gd_in 306 rfl rfl⟩, ⟨T_F, 2, rfl⟩, by decide, by decide, by decide +kernel⟩
set_option maxRecDepth 100000 in
theorem cv_F_leastMove : gd_CS y_F_leastMove c_F_leastMove 5 (some .int) 2 := ⟨⟨gd_in 408 rfl rfl, gd_in 4 rfl rfl, gd_in 409 rfl rfl⟩, by decide, by decide, by decide +kernel⟩
set_option maxRecDepth 100000 in
theorem cv_F_search : gd_CV y_F_search c_F_search 9 (some .int) 3 4 := ⟨⟨gd_in 395 rfl rfl, gd_in 396 rfl rfl, gd_in 4 rfl rfl, gd_in 397 rfl rfl⟩, ⟨T_F, 2, rfl⟩, by decide, by decide, by decide +kernel⟩
set_option maxRecDepth 100000 in
theorem cv_F_shutAt : gd_CV y_F_shutAt c_F_shutAt 4 (some .long) 3 1 := ⟨⟨gd_in 392 rfl rfl, gd_ins 3 rfl rfl, gd_in 4 rfl rfl, gd_in 393 rfl rfl⟩, ⟨T_F, 2, rfl⟩, by decide, by decide, by decide +kernel⟩
set_option maxRecDepth 100000 in
theorem cv_F_trace : gd_CV y_F_trace c_F_trace 7 none 3 3 := ⟨⟨gd_in 404 rfl rfl, gd_in 405 rfl rfl, gd_in 4 rfl rfl, gd_in 406 rfl rfl⟩, ⟨T_F, 2, rfl⟩, by decide, by decide, by decide +kernel⟩
set_option maxRecDepth 100000 in
theorem cv_G_ahead : gd_CV y_G_ahead c_G_ahead 4 (some .int) 4 2 := ⟨⟨gd_in 181 rfl rfl, gd_in 182 rfl rfl, gd_in 1 rfl rfl, gd_in 183 rfl rfl⟩, ⟨T_G, 8, rfl⟩, by decide, by decide, by decide +kernel⟩
set_option maxRecDepth 100000 in
theorem cv_G_cell : gd_CV y_G_cell c_G_cell 5 (some .boolean) 4 3 := ⟨⟨gd_in 159 rfl rfl, gd_in 160 rfl rfl, gd_in 1 rfl rfl, gd_in 161 rfl rfl⟩, ⟨T_G, 8, rfl⟩, by decide, by decide, by decide +kernel⟩
set_option maxRecDepth 100000 in
theorem cv_G_clearSource : gd_CV y_G_clearSource c_G_clearSource 5 (some .int) 4 1 := ⟨⟨gd_in 290 rfl rfl, gd_ins 1 rfl rfl, gd_in 1 rfl rfl, gd_in 291 rfl rfl⟩, ⟨T_G, 8, rfl⟩, by decide, by decide, by decide +kernel⟩
set_option maxRecDepth 100000 in
theorem cv_G_discard : gd_CV y_G_discard c_G_discard 4 (some .int) 4 1 := ⟨⟨gd_in 453 rfl rfl, gd_in 454 rfl rfl, gd_in 1 rfl rfl, gd_in 455 rfl rfl⟩, ⟨T_G, 8, rfl⟩, by decide, by decide, by decide +kernel⟩
set_option maxRecDepth 100000 in
theorem cv_G_dispense : gd_CV y_G_dispense c_G_dispense 4 (some .int) 4 1 := ⟨⟨gd_in 216 rfl rfl, gd_in 217 rfl rfl, gd_in 1 rfl rfl, gd_in 218 rfl rfl⟩, ⟨T_G, 8, rfl⟩, by decide, by decide, by decide +kernel⟩
set_option maxRecDepth 100000 in
theorem cv_G_droplets : gd_CV y_G_droplets c_G_droplets 1 (some .int) 4 0 := ⟨⟨gd_in 177 rfl rfl, gd_in 178 rfl rfl, gd_in 1 rfl rfl, gd_in 179 rfl rfl⟩, ⟨T_G, 8, rfl⟩, by decide, by decide, by decide +kernel⟩
set_option maxRecDepth 100000 in
theorem cv_G_halve : gd_CV y_G_halve c_G_halve 8 (some .int) 4 2 := ⟨⟨gd_in 427 rfl rfl, gd_in 428 rfl rfl, gd_in 1 rfl rfl, gd_in 429 rfl rfl⟩, ⟨T_G, 8, rfl⟩, by decide, by decide, by decide +kernel⟩
set_option maxRecDepth 100000 in
theorem cv_G_heedAllBut : gd_CV y_G_heedAllBut c_G_heedAllBut 5 none 4 2 := ⟨⟨gd_in 294 rfl rfl, gd_ins 2 rfl rfl, gd_in 1 rfl rfl, gd_in 295 rfl rfl⟩, ⟨T_G, 8, rfl⟩, by decide, by decide, by decide +kernel⟩
set_option maxRecDepth 100000 in
theorem cv_G_isOpen : gd_CS y_G_isOpen c_G_isOpen 3 (some .boolean) 2 := ⟨⟨gd_in 326 rfl rfl, gd_in 1 rfl rfl, gd_in 327 rfl rfl⟩, by decide, by decide, by decide +kernel⟩
set_option maxRecDepth 100000 in
theorem cv_G_join : gd_CV y_G_join c_G_join 6 (some .int) 4 2 := ⟨⟨gd_in 418 rfl rfl, gd_in 419 rfl rfl, gd_in 1 rfl rfl, gd_in 420 rfl rfl⟩, ⟨T_G, 8, rfl⟩, by decide, by decide, by decide +kernel⟩
set_option maxRecDepth 100000 in
theorem cv_G_joinArrived : gd_CV y_G_joinArrived c_G_joinArrived 4 none 4 0 := ⟨⟨gd_in 475 rfl rfl, gd_ins 6 rfl rfl, gd_in 1 rfl rfl, gd_in 476 rfl rfl⟩, ⟨T_G, 8, rfl⟩, by decide, by decide, by decide +kernel⟩
set_option maxRecDepth 100000 in
theorem cv_G_kind : gd_CV y_G_kind c_G_kind 3 (some .int) 4 2 := ⟨⟨gd_in 206 rfl rfl, gd_in 207 rfl rfl, gd_in 1 rfl rfl, gd_in 208 rfl rfl⟩, ⟨T_G, 8, rfl⟩, by decide, by decide, by decide +kernel⟩
set_option maxRecDepth 100000 in
theorem cv_G_look : gd_CV y_G_look c_G_look 4 (some .int) 4 2 := ⟨⟨gd_in 505 rfl rfl, gd_in 506 rfl rfl, gd_in 1 rfl rfl, gd_in 507 rfl rfl⟩, ⟨T_G, 8, rfl⟩, by decide, by decide, by decide +kernel⟩
set_option maxRecDepth 100000 in
theorem cv_G_moveAll : gd_CV y_G_moveAll c_G_moveAll 2 none 4 0 := ⟨⟨gd_in 467 rfl rfl, gd_ins 5 rfl rfl, gd_in 1 rfl rfl, gd_in 468 rfl rfl⟩, ⟨T_G, 8, rfl⟩, by decide, by decide, by decide +kernel⟩
set_option maxRecDepth 100000 in
theorem cv_G_readMoved : gd_CV y_G_readMoved c_G_readMoved 4 (some .int) 4 0 := ⟨⟨gd_in 495 rfl rfl, gd_ins 9 rfl rfl, gd_in 1 rfl rfl, gd_in 496 rfl rfl⟩, ⟨T_G, 8, rfl⟩, by decide, by decide, by decide +kernel⟩
set_option maxRecDepth 100000 in
theorem cv_G_reading : gd_CV y_G_reading c_G_reading 3 (some .int) 4 2 := ⟨⟨gd_in 522 rfl rfl, gd_in 523 rfl rfl, gd_in 1 rfl rfl, gd_in 524 rfl rfl⟩, ⟨T_G, 8, rfl⟩, by decide, by decide, by decide +kernel⟩
set_option maxRecDepth 100000 in
theorem cv_G_run : gd_CV y_G_run c_G_run 4 (some .int) 4 1 := ⟨⟨gd_in 461 rfl rfl, gd_in 462 rfl rfl, gd_in 1 rfl rfl, gd_in 463 rfl rfl⟩, ⟨T_G, 8, rfl⟩, by decide, by decide, by decide +kernel⟩
set_option maxRecDepth 100000 in
theorem cv_G_send : gd_CV y_G_send c_G_send 7 (some .int) 4 3 := ⟨⟨gd_in 377 rfl rfl, gd_in 378 rfl rfl, gd_in 1 rfl rfl, gd_in 379 rfl rfl⟩, ⟨T_G, 8, rfl⟩, by decide, by decide, by decide +kernel⟩
set_option maxRecDepth 100000 in
theorem cv_G_share : gd_CV y_G_share c_G_share 4 (some .long) 4 2 := ⟨⟨gd_in 513 rfl rfl, gd_in 514 rfl rfl, gd_in 1 rfl rfl, gd_in 515 rfl rfl⟩, ⟨T_G, 8, rfl⟩, by decide, by decide, by decide +kernel⟩
set_option maxRecDepth 100000 in
theorem cv_G_splitUp : gd_CV y_G_splitUp c_G_splitUp 6 (some .int) 4 3 := ⟨⟨gd_in 436 rfl rfl, gd_ins 4 rfl rfl, gd_in 1 rfl rfl, gd_in 437 rfl rfl⟩, ⟨T_G, 8, rfl⟩, by decide, by decide, by decide +kernel⟩
set_option maxRecDepth 100000 in
theorem cv_G_time : gd_CV y_G_time c_G_time 1 (some .int) 4 0 := ⟨⟨gd_in 173 rfl rfl, gd_in 174 rfl rfl, gd_in 1 rfl rfl, gd_in 175 rfl rfl⟩, ⟨T_G, 8, rfl⟩, by decide, by decide, by decide +kernel⟩
set_option maxRecDepth 100000 in
theorem cv_G_units : gd_CV y_G_units c_G_units 2 (some .int) 4 1 := ⟨⟨gd_in 202 rfl rfl, gd_in 203 rfl rfl, gd_in 1 rfl rfl, gd_in 204 rfl rfl⟩, ⟨T_G, 8, rfl⟩, by decide, by decide, by decide +kernel⟩
set_option maxRecDepth 100000 in
theorem cv_J_fill : gd_CS y_J_fill c_J_fill 5 none 2 := ⟨⟨gd_in 301 rfl rfl, gd_in 12 rfl rfl, gd_in 302 rfl rfl⟩, by decide, by decide, by decide +kernel⟩
set_option maxRecDepth 100000 in
theorem cv_K_max : gd_CS y_K_max c_K_max 2 (some .int) 2 := ⟨⟨gd_in 483 rfl rfl, gd_in 16 rfl rfl, gd_in 484 rfl rfl⟩, by decide, by decide, by decide +kernel⟩
set_option maxRecDepth 100000 in
theorem cv_L_add : gd_CV y_L_add c_L_add 3 (some (.object "GuardedDrops$Droplet")) 1 1 := ⟨⟨gd_in 361 rfl rfl, gd_in 362 rfl rfl, gd_in 2 rfl rfl, gd_in 363 rfl rfl⟩, ⟨T_L, 3, rfl⟩, by decide, by decide, by decide +kernel⟩
set_option maxRecDepth 100000 in
theorem cv_L_find : gd_CV y_L_find c_L_find 3 (some (.object "GuardedDrops$Droplet")) 1 1 := ⟨⟨gd_in 185 rfl rfl, gd_in 186 rfl rfl, gd_in 2 rfl rfl, gd_in 187 rfl rfl⟩, ⟨T_L, 3, rfl⟩, by decide, by decide, by decide +kernel⟩
set_option maxRecDepth 100000 in
theorem cv_L_remove : gd_CV y_L_remove c_L_remove 4 none 1 1 := ⟨⟨gd_in 446 rfl rfl, gd_in 447 rfl rfl, gd_in 2 rfl rfl, gd_in 448 rfl rfl⟩, ⟨T_L, 3, rfl⟩, by decide, by decide, by decide +kernel⟩
set_option maxRecDepth 100000 in
theorem cv_M_add : gd_CV y_M_add c_M_add 3 (some .int) 5 2 := ⟨⟨gd_in 677 rfl rfl, gd_ins 16 rfl rfl, gd_in 6 rfl rfl, gd_in 678 rfl rfl⟩, ⟨T_M, 23, rfl⟩, by decide, by decide, by decide +kernel⟩
set_option maxRecDepth 100000 in
theorem cv_M_ahead : gd_CV y_M_ahead c_M_ahead 3 (some .int) 5 2 := ⟨⟨gd_in 757 rfl rfl, gd_in 758 rfl rfl, gd_in 6 rfl rfl, gd_in 759 rfl rfl⟩, ⟨T_M, 23, rfl⟩, by decide, by decide, by decide +kernel⟩
set_option maxRecDepth 100000 in
theorem cv_M_areNear : gd_CS y_M_areNear c_M_areNear 4 (some .boolean) 2 := ⟨⟨gd_in 673 rfl rfl, gd_in 6 rfl rfl, gd_in 674 rfl rfl⟩, by decide, by decide, by decide +kernel⟩
set_option maxRecDepth 100000 in
theorem cv_M_canBe : gd_CV y_M_canBe c_M_canBe 3 (some .boolean) 5 2 := ⟨⟨gd_in 713 rfl rfl, gd_ins 24 rfl rfl, gd_in 6 rfl rfl, gd_in 714 rfl rfl⟩, ⟨T_M, 23, rfl⟩, by decide, by decide, by decide +kernel⟩
set_option maxRecDepth 100000 in
theorem cv_M_canEnd : gd_CV y_M_canEnd c_M_canEnd 4 (some .boolean) 5 3 := ⟨⟨gd_in 705 rfl rfl, gd_ins 22 rfl rfl, gd_in 6 rfl rfl, gd_in 706 rfl rfl⟩, ⟨T_M, 23, rfl⟩, by decide, by decide, by decide +kernel⟩
set_option maxRecDepth 100000 in
theorem cv_M_canRest : gd_CV y_M_canRest c_M_canRest 5 (some .boolean) 5 2 := ⟨⟨gd_in 666 rfl rfl, gd_ins 14 rfl rfl, gd_in 6 rfl rfl, gd_in 667 rfl rfl⟩, ⟨T_M, 23, rfl⟩, by decide, by decide, by decide +kernel⟩
set_option maxRecDepth 100000 in
theorem cv_M_cell : gd_CV y_M_cell c_M_cell 4 (some .boolean) 5 3 := ⟨⟨gd_in 631 rfl rfl, gd_in 632 rfl rfl, gd_in 6 rfl rfl, gd_in 633 rfl rfl⟩, ⟨T_M, 23, rfl⟩, by decide, by decide, by decide +kernel⟩
set_option maxRecDepth 100000 in
theorem cv_M_comer : gd_CV y_M_comer c_M_comer 4 (some .int) 5 1 := ⟨⟨gd_in 693 rfl rfl, gd_ins 19 rfl rfl, gd_in 6 rfl rfl, gd_in 694 rfl rfl⟩, ⟨T_M, 23, rfl⟩, by decide, by decide, by decide +kernel⟩
set_option maxRecDepth 100000 in
theorem cv_M_count : gd_CV y_M_count c_M_count 3 (some .int) 5 0 := ⟨⟨gd_in 639 rfl rfl, gd_ins 10 rfl rfl, gd_in 6 rfl rfl, gd_in 640 rfl rfl⟩, ⟨T_M, 23, rfl⟩, by decide, by decide, by decide +kernel⟩
set_option maxRecDepth 100000 in
theorem cv_M_discard : gd_CV y_M_discard c_M_discard 3 (some .int) 5 1 := ⟨⟨gd_in 724 rfl rfl, gd_in 725 rfl rfl, gd_in 6 rfl rfl, gd_in 726 rfl rfl⟩, ⟨T_M, 23, rfl⟩, by decide, by decide, by decide +kernel⟩
set_option maxRecDepth 100000 in
theorem cv_M_dispense : gd_CV y_M_dispense c_M_dispense 5 (some .int) 5 1 := ⟨⟨gd_in 646 rfl rfl, gd_in 647 rfl rfl, gd_in 6 rfl rfl, gd_in 648 rfl rfl⟩, ⟨T_M, 23, rfl⟩, by decide, by decide, by decide +kernel⟩
set_option maxRecDepth 100000 in
theorem cv_M_droplets : gd_CV y_M_droplets c_M_droplets 1 (some .int) 5 0 := ⟨⟨gd_in 749 rfl rfl, gd_in 750 rfl rfl, gd_in 6 rfl rfl, gd_in 751 rfl rfl⟩, ⟨T_M, 23, rfl⟩, by decide, by decide, by decide +kernel⟩
set_option maxRecDepth 100000 in
theorem cv_M_foresee : gd_CV y_M_foresee c_M_foresee 5 none 5 2 := ⟨⟨gd_in 651 rfl rfl, gd_ins 11 rfl rfl, gd_in 6 rfl rfl, gd_in 652 rfl rfl⟩, ⟨T_M, 23, rfl⟩, by decide, by decide, by decide +kernel⟩
set_option maxRecDepth 100000 in
theorem cv_M_halve : gd_CV y_M_halve c_M_halve 9 (some .int) 5 2 := ⟨⟨gd_in 720 rfl rfl, gd_in 721 rfl rfl, gd_in 6 rfl rfl, gd_in 722 rfl rfl⟩, ⟨T_M, 23, rfl⟩, by decide, by decide, by decide +kernel⟩
set_option maxRecDepth 100000 in
theorem cv_M_isCell : gd_CS y_M_isCell c_M_isCell 2 (some .boolean) 2 := ⟨⟨gd_in 635 rfl rfl, gd_in 6 rfl rfl, gd_in 636 rfl rfl⟩, by decide, by decide, by decide +kernel⟩
set_option maxRecDepth 100000 in
theorem cv_M_isDrop : gd_CV y_M_isDrop c_M_isDrop 2 (some .boolean) 5 1 := ⟨⟨gd_in 685 rfl rfl, gd_ins 17 rfl rfl, gd_in 6 rfl rfl, gd_in 686 rfl rfl⟩, ⟨T_M, 23, rfl⟩, by decide, by decide, by decide +kernel⟩
set_option maxRecDepth 100000 in
theorem cv_M_isFree : gd_CV y_M_isFree c_M_isFree 2 (some .boolean) 5 1 := ⟨⟨gd_in 689 rfl rfl, gd_ins 18 rfl rfl, gd_in 6 rfl rfl, gd_in 690 rfl rfl⟩, ⟨T_M, 23, rfl⟩, by decide, by decide, by decide +kernel⟩
set_option maxRecDepth 100000 in
theorem cv_M_isMet : gd_CV y_M_isMet c_M_isMet 6 (some .boolean) 5 2 := ⟨⟨gd_in 670 rfl rfl, gd_ins 15 rfl rfl, gd_in 6 rfl rfl, gd_in 671 rfl rfl⟩, ⟨T_M, 23, rfl⟩, by decide, by decide, by decide +kernel⟩
set_option maxRecDepth 100000 in
theorem cv_M_isNext : gd_CV y_M_isNext c_M_isNext 6 (some .boolean) 5 2 := ⟨⟨gd_in 709 rfl rfl, gd_ins 23 rfl rfl, gd_in 6 rfl rfl, gd_in 710 rfl rfl⟩, ⟨T_M, 23, rfl⟩, by decide, by decide, by decide +kernel⟩
set_option maxRecDepth 100000 in
theorem cv_M_join : gd_CV y_M_join c_M_join 4 (some .int) 5 2 := ⟨⟨gd_in 716 rfl rfl, gd_in 717 rfl rfl, gd_in 6 rfl rfl, gd_in 718 rfl rfl⟩, ⟨T_M, 23, rfl⟩, by decide, by decide, by decide +kernel⟩
set_option maxRecDepth 100000 in
theorem cv_M_kind : gd_CV y_M_kind c_M_kind 3 (some .int) 5 2 := ⟨⟨gd_in 642 rfl rfl, gd_in 643 rfl rfl, gd_in 6 rfl rfl, gd_in 644 rfl rfl⟩, ⟨T_M, 23, rfl⟩, by decide, by decide, by decide +kernel⟩
set_option maxRecDepth 100000 in
theorem cv_M_lay : gd_CV y_M_lay c_M_lay 10 (some .int) 5 3 := ⟨⟨gd_in 697 rfl rfl, gd_ins 20 rfl rfl, gd_in 6 rfl rfl, gd_in 698 rfl rfl⟩, ⟨T_M, 23, rfl⟩, by decide, by decide, by decide +kernel⟩
set_option maxRecDepth 100000 in
theorem cv_M_left : gd_CV y_M_left c_M_left 2 (some .int) 5 1 := ⟨⟨gd_in 659 rfl rfl, gd_ins 13 rfl rfl, gd_in 6 rfl rfl, gd_in 660 rfl rfl⟩, ⟨T_M, 23, rfl⟩, by decide, by decide, by decide +kernel⟩
set_option maxRecDepth 100000 in
theorem cv_M_look : gd_CV y_M_look c_M_look 3 (some .int) 5 2 := ⟨⟨gd_in 753 rfl rfl, gd_in 754 rfl rfl, gd_in 6 rfl rfl, gd_in 755 rfl rfl⟩, ⟨T_M, 23, rfl⟩, by decide, by decide, by decide +kernel⟩
set_option maxRecDepth 100000 in
theorem cv_M_moved : gd_CS y_M_moved c_M_moved 4 (some .int) 2 := ⟨⟨gd_in 662 rfl rfl, gd_in 6 rfl rfl, gd_in 663 rfl rfl⟩, by decide, by decide, by decide +kernel⟩
set_option maxRecDepth 100000 in
theorem cv_M_placeAfter : gd_CV y_M_placeAfter c_M_placeAfter 5 (some .int) 5 2 := ⟨⟨gd_in 655 rfl rfl, gd_ins 12 rfl rfl, gd_in 6 rfl rfl, gd_in 656 rfl rfl⟩, ⟨T_M, 23, rfl⟩, by decide, by decide, by decide +kernel⟩
set_option maxRecDepth 100000 in
theorem cv_M_read : gd_CV y_M_read c_M_read 3 none 5 1 := ⟨⟨gd_in 742 rfl rfl, gd_ins 27 rfl rfl, gd_in 6 rfl rfl, gd_in 743 rfl rfl⟩, ⟨T_M, 23, rfl⟩, by decide, by decide, by decide +kernel⟩
set_option maxRecDepth 100000 in
theorem cv_M_reading : gd_CV y_M_reading c_M_reading 3 (some .int) 5 2 := ⟨⟨gd_in 765 rfl rfl, gd_in 766 rfl rfl, gd_in 6 rfl rfl, gd_in 767 rfl rfl⟩, ⟨T_M, 23, rfl⟩, by decide, by decide, by decide +kernel⟩
set_option maxRecDepth 100000 in
theorem cv_M_run : gd_CV y_M_run c_M_run 4 (some .int) 5 1 := ⟨⟨gd_in 728 rfl rfl, gd_in 729 rfl rfl, gd_in 6 rfl rfl, gd_in 730 rfl rfl⟩, ⟨T_M, 23, rfl⟩, by decide, by decide, by decide +kernel⟩
set_option maxRecDepth 100000 in
theorem cv_M_send : gd_CV y_M_send c_M_send 5 (some .int) 5 3 := ⟨⟨gd_in 680 rfl rfl, gd_in 681 rfl rfl, gd_in 6 rfl rfl, gd_in 682 rfl rfl⟩, ⟨T_M, 23, rfl⟩, by decide, by decide, by decide +kernel⟩
set_option maxRecDepth 100000 in
theorem cv_M_share : gd_CV y_M_share c_M_share 3 (some .long) 5 2 := ⟨⟨gd_in 761 rfl rfl, gd_in 762 rfl rfl, gd_in 6 rfl rfl, gd_in 763 rfl rfl⟩, ⟨T_M, 23, rfl⟩, by decide, by decide, by decide +kernel⟩
set_option maxRecDepth 100000 in
theorem cv_M_spread : gd_CV y_M_spread c_M_spread 6 (some .int) 5 3 := ⟨⟨gd_in 701 rfl rfl, gd_ins 21 rfl rfl, gd_in 6 rfl rfl, gd_in 702 rfl rfl⟩, ⟨T_M, 23, rfl⟩, by decide, by decide, by decide +kernel⟩
set_option maxRecDepth 100000 in
theorem cv_M_step : gd_CV y_M_step c_M_step 4 (some .int) 5 0 := ⟨⟨gd_in 733 rfl rfl, gd_ins 25 rfl rfl, gd_in 6 rfl rfl, gd_in 734 rfl rfl⟩, ⟨T_M, 23, rfl⟩, by decide, by decide, by decide +kernel⟩
set_option maxRecDepth 100000 in
theorem cv_M_thrown : gd_CV y_M_thrown c_M_thrown 1 (some .int) 5 0 := ⟨⟨gd_in 627 rfl rfl, gd_in 628 rfl rfl, gd_in 6 rfl rfl, gd_in 629 rfl rfl⟩, ⟨T_M, 23, rfl⟩, by decide, by decide, by decide +kernel⟩
set_option maxRecDepth 100000 in
theorem cv_M_time : gd_CV y_M_time c_M_time 1 (some .int) 5 0 := ⟨⟨gd_in 745 rfl rfl, gd_in 746 rfl rfl, gd_in 6 rfl rfl, gd_in 747 rfl rfl⟩, ⟨T_M, 23, rfl⟩, by decide, by decide, by decide +kernel⟩
set_option maxRecDepth 100000 in
theorem cv_M_unite : gd_CV y_M_unite c_M_unite 9 none 5 2 := ⟨⟨gd_in 737 rfl rfl, gd_ins 26 rfl rfl, gd_in 6 rfl rfl, gd_in 738 rfl rfl⟩, ⟨T_M, 23, rfl⟩, by decide, by decide, by decide +kernel⟩
set_option maxRecDepth 100000 in
theorem cv_M_units : gd_CV y_M_units c_M_units 4 (some .int) 5 1 := ⟨⟨gd_in 769 rfl rfl, gd_in 770 rfl rfl, gd_in 6 rfl rfl, gd_in 771 rfl rfl⟩, ⟨T_M, 23, rfl⟩, by decide, by decide, by decide +kernel⟩
set_option maxRecDepth 100000 in
theorem cv_R_add : gd_CV y_R_add c_R_add 4 none 2 2 := ⟨⟨gd_in 498 rfl rfl, gd_in 499 rfl rfl, gd_in 5 rfl rfl, gd_in 500 rfl rfl⟩, ⟨T_R, 3, rfl⟩, by decide, by decide, by decide +kernel⟩
set_option maxRecDepth 100000 in
theorem cv_R_get : gd_CV y_R_get c_R_get 3 (some .int) 2 2 := ⟨⟨gd_in 546 rfl rfl, gd_in 547 rfl rfl, gd_in 5 rfl rfl, gd_in 548 rfl rfl⟩, ⟨T_R, 3, rfl⟩, by decide, by decide, by decide +kernel⟩
set_option maxRecDepth 100000 in
theorem cv_R_has : gd_CV y_R_has c_R_has 3 (some .boolean) 2 2 := ⟨⟨gd_in 526 rfl rfl, gd_in 527 rfl rfl, gd_in 5 rfl rfl, gd_in 528 rfl rfl⟩, ⟨T_R, 3, rfl⟩, by decide, by decide, by decide +kernel⟩
set_option maxRecDepth 100000 in
theorem cv_S_after : gd_CS y_S_after c_S_after 4 (some .int) 2 := ⟨⟨gd_in 197 rfl rfl, gd_in 7 rfl rfl, gd_in 198 rfl rfl⟩, by decide, by decide, by decide +kernel⟩
set_option maxRecDepth 100000 in
theorem cv_S_at : gd_CS y_S_at c_S_at 2 (some .int) 2 := ⟨⟨gd_in 166 rfl rfl, gd_in 7 rfl rfl, gd_in 167 rfl rfl⟩, by decide, by decide, by decide +kernel⟩
set_option maxRecDepth 100000 in
theorem cv_S_has : gd_CS y_S_has c_S_has 2 (some .boolean) 2 := ⟨⟨gd_in 163 rfl rfl, gd_in 7 rfl rfl, gd_in 164 rfl rfl⟩, by decide, by decide, by decide +kernel⟩
set_option maxRecDepth 100000 in
theorem cv_S_near : gd_CS y_S_near c_S_near 2 (some .long) 1 := ⟨⟨gd_in 315 rfl rfl, gd_in 7 rfl rfl, gd_in 316 rfl rfl⟩, by decide, by decide, by decide +kernel⟩
set_option maxRecDepth 100000 in
theorem cv_S_oneMoveFrom : gd_CS y_S_oneMoveFrom c_S_oneMoveFrom 2 (some .long) 1 := ⟨⟨gd_in 399 rfl rfl, gd_in 7 rfl rfl, gd_in 400 rfl rfl⟩, by decide, by decide, by decide +kernel⟩
set_option maxRecDepth 100000 in
theorem cv_S_only : gd_CS y_S_only c_S_only 1 (some .long) 1 := ⟨⟨gd_in 169 rfl rfl, gd_in 7 rfl rfl, gd_in 170 rfl rfl⟩, by decide, by decide, by decide +kernel⟩
set_option maxRecDepth 100000 in
theorem cv_S_sideways : gd_CS y_S_sideways c_S_sideways 2 (some .long) 1 := ⟨⟨gd_in 318 rfl rfl, gd_in 7 rfl rfl, gd_in 319 rfl rfl⟩, by decide, by decide, by decide +kernel⟩
set_option maxRecDepth 100000 in
theorem cv_S_upAndDown : gd_CS y_S_upAndDown c_S_upAndDown 2 (some .long) 1 := ⟨⟨gd_in 323 rfl rfl, gd_in 7 rfl rfl, gd_in 324 rfl rfl⟩, by decide, by decide, by decide +kernel⟩
end
section
/-! The machine by an abstract world: cells by number, each a row of ints, of longs and of references; a straight stretch of code is run by a function (gd_run), and what it gives is checked by rfl. -/
-- a world: the ints, the longs, the references of each cell, by the cell's number and the slot's
abbrev gd_W : Type := (Nat → Nat → Int32) × (Nat → Nat → Int64) × (Nat → Nat → Option Nat)
def gd_rI (w : gd_W) (k : Nat) (f : Nat → Int32) : gd_W := (fun a => if a = k then f else w.1 a, w.2.1, w.2.2)
def gd_rL (w : gd_W) (k : Nat) (f : Nat → Int64) : gd_W := (w.1, fun a => if a = k then f else w.2.1 a, w.2.2)
def gd_rR (w : gd_W) (k : Nat) (f : Nat → Option Nat) : gd_W := (w.1, w.2.1, fun a => if a = k then f else w.2.2 a)
def gd_tr (ad : Nat → Nat) (v : Value) : Value := match v with
  | .ref k => .ref (ad k)
  | .int x => .int x
  | .long x => .long x
  | .float x => .float x
  | .double x => .double x
  | .null => .null
  | .retAddr x => .retAddr x
theorem gd_tr_cat (ad : Nat → Nat) (v : Value) : (gd_tr ad v).category = v.category := by cases v <;> rfl
theorem gd_tr_rf (ad : Nat → Nat) (r : Option Nat) : gd_tr ad (va_rf r) = va_rf (r.map ad) := by cases r <;> rfl
-- a field's value, with references as cells' numbers, and with addresses
def gd_av (w : gd_W) (k j : Nat) (ty : FieldType) : Value := match ty with
  | .long => .long (w.2.1 k j)
  | .object _ => va_rf (gd_fix k j)
  | .array _ => va_rf (gd_fix k j)
  | _ => .int (w.1 k j)
def gd_ar (ad : Nat → Nat) (w : gd_W) (k : Nat) (ty : FieldType) : (Nat → Int32) ⊕ (Nat → Int64) ⊕ (Nat → UInt32) ⊕ (Nat → UInt64) ⊕ (Nat → Option Nat) := match ty with
  | .long => .inr (.inl (w.2.1 k))
  | .object _ => .inr (.inr (.inr (.inr (fun j => (w.2.2 k j).map ad))))
  | .array _ => .inr (.inr (.inr (.inr (fun j => (w.2.2 k j).map ad))))
  | _ => .inl (w.1 k)
def gd_fs (ad : Nat → Nat) (w : gd_W) (k : Nat) (ts : List FieldType) : List Value := ts.zipIdx.map fun q => gd_tr ad (gd_av w k q.2 q.1)
def gd_ce (tC : FieldType → ClassId) (ad : Nat → Nat) (w : gd_W) (k : Nat) (sh : gd_S) : va_E := match sh with
  | .inl o => .inr (o, gd_fs ad w k (gd_ft o))
  | .inr a => .inl (tC a.1, a.2, gd_ar ad w k a.1)
def gd_wl (tC : FieldType → ClassId) (ad : Nat → Nat) (n : Nat) (w : gd_W) : va_W := (List.range n).map fun k => (ad k, gd_ce tC ad w k (gd_sh k))
theorem gd_wl_at {tC : FieldType → ClassId} {ad : Nat → Nat} {n : Nat} {w : gd_W} {k : Nat} (hk : k < n) : (gd_wl tC ad n w)[k]? = some (ad k, gd_ce tC ad w k (gd_sh k)) := by
  simp [gd_wl, List.getElem?_map, List.getElem?_range hk]
/-- off row k the two worlds are one -/
def gd_off (w w' : gd_W) (k : Nat) : Prop := ∀ a, a ≠ k → w'.1 a = w.1 a ∧ w'.2.1 a = w.2.1 a ∧ w'.2.2 a = w.2.2 a
theorem gd_off_I (w : gd_W) (k : Nat) (f : Nat → Int32) : gd_off w (gd_rI w k f) k := fun a h => ⟨by simp [gd_rI, h], rfl, rfl⟩
theorem gd_off_L (w : gd_W) (k : Nat) (f : Nat → Int64) : gd_off w (gd_rL w k f) k := fun a h => ⟨rfl, by simp [gd_rL, h], rfl⟩
theorem gd_off_R (w : gd_W) (k : Nat) (f : Nat → Option Nat) : gd_off w (gd_rR w k f) k := fun a h => ⟨rfl, rfl, by simp [gd_rR, h]⟩
theorem gd_ce_off {tC : FieldType → ClassId} {ad : Nat → Nat} {w w' : gd_W} {k a : Nat} {sh : gd_S} (h : gd_off w w' k) (ha : a ≠ k) : gd_ce tC ad w' a sh = gd_ce tC ad w a sh := by
  obtain ⟨h1, h2, h3⟩ := h a ha
  cases sh with
  | inl o =>
    simp only [gd_ce, gd_fs]
    congr 2
    refine List.map_congr_left fun q _ => ?_
    simp only [gd_av, h1, h2, h3]
  | inr o => simp only [gd_ce, gd_ar, h1, h2, h3]
theorem gd_wl_set {tC : FieldType → ClassId} {ad : Nat → Nat} {n : Nat} {w w' : gd_W} {k : Nat} {x : va_E} (h : gd_off w w' k) (hx : x = gd_ce tC ad w' k (gd_sh k)) : (gd_wl tC ad n w).set k (ad k, x) = gd_wl tC ad n w' := by
  subst hx
  refine List.ext_getElem? fun i => ?_
  by_cases hi : i < n
  · by_cases hik : k = i
    · subst hik
      rw [List.getElem?_set_self (by simpa [gd_wl] using hi), gd_wl_at hi]
    · rw [List.getElem?_set_ne hik, gd_wl_at hi, gd_wl_at hi, gd_ce_off h (fun q => hik q.symm)]
  · have h1 : ((gd_wl tC ad n w).set k (ad k, gd_ce tC ad w' k (gd_sh k))).length ≤ i := by simp [gd_wl]; omega
    have h2 : (gd_wl tC ad n w').length ≤ i := by simp [gd_wl]; omega
    rw [List.getElem?_eq_none h1, List.getElem?_eq_none h2]
theorem gd_fs_at {ad : Nat → Nat} {w : gd_W} {k j : Nat} {ts : List FieldType} {ty : FieldType} (h : ts[j]? = some ty) : (gd_fs ad w k ts)[j]? = some (gd_tr ad (gd_av w k j ty)) := by
  simp [gd_fs, List.getElem?_map, List.getElem?_zipIdx, h]
theorem gd_fs_len {ad : Nat → Nat} {w : gd_W} {k : Nat} {ts : List FieldType} : (gd_fs ad w k ts).length = ts.length := by simp [gd_fs]
/-- a store into field j: the other fields are kept -/
theorem gd_fs_set {ad : Nat → Nat} {w w' : gd_W} {k j : Nat} {ts : List FieldType} {ty : FieldType} {v : Value} (h : ts[j]? = some ty) (hv : gd_tr ad (gd_av w' k j ty) = v)
    (ho : ∀ i t, ts[i]? = some t → i ≠ j → gd_av w' k i t = gd_av w k i t) : (gd_fs ad w k ts).set j v = gd_fs ad w' k ts := by
  refine List.ext_getElem? fun i => ?_
  by_cases hij : j = i
  · subst hij
    have hl : j < ts.length := (List.getElem?_eq_some_iff.mp h).1
    rw [List.getElem?_set_self (by rw [gd_fs_len]; exact hl), gd_fs_at h, hv]
  · rw [List.getElem?_set_ne hij]
    cases ht : ts[i]? with
    | some t => rw [gd_fs_at ht, gd_fs_at ht, ho i t ht (fun q => hij q.symm)]
    | none =>
      have h1 : ts.length ≤ i := by simpa using ht
      rw [List.getElem?_eq_none (by rw [gd_fs_len]; exact h1), List.getElem?_eq_none (by rw [gd_fs_len]; exact h1)]
-- locals: by their places, in rising order
def gd_get : List (Nat × Value) → Nat → Option Value
  | [], _ => none
  | q :: t, i => bif Nat.beq q.1 i then some q.2 else gd_get t i
theorem gd_get_mem : ∀ {lv : List (Nat × Value)} {i : Nat} {v : Value}, gd_get lv i = some v → (i, v) ∈ lv
  | [], i, v, h => by cases h
  | (j, x) :: t, i, v, h => by
    rw [gd_get] at h
    cases hb : Nat.beq j i with
    | true =>
      rw [hb] at h
      have hji : j = i := Nat.eq_of_beq_eq_true hb
      cases h
      rw [hji]
      exact List.mem_cons_self
    | false =>
      rw [hb] at h
      exact List.mem_cons_of_mem _ (gd_get_mem h)
def gd_ok1 (i : Nat) (q : Nat × Value) : Bool := !(q.1 == i) && !(q.1 + 1 == i && q.2.category == 2)
def gd_ok2 (i : Nat) (q : Nat × Value) : Bool := !(q.1 == i) && (!(q.1 == i + 1) && !(q.1 + 1 == i && q.2.category == 2))
def gd_put1 (lv : List (Nat × Value)) (i : Nat) (v : Value) : List (Nat × Value) := lv.filter (fun q => Nat.blt q.1 i && gd_ok1 i q) ++ (i, v) :: lv.filter (fun q => Nat.blt i q.1 && gd_ok1 i q)
def gd_put2 (lv : List (Nat × Value)) (i : Nat) (v : Value) : List (Nat × Value) := lv.filter (fun q => Nat.blt q.1 i && gd_ok2 i q) ++ (i, v) :: lv.filter (fun q => Nat.blt i q.1 && gd_ok2 i q)
def gd_lt (ad : Nat → Nat) (lv : List (Nat × Value)) : List (Nat × Value) := lv.map fun q => (q.1, gd_tr ad q.2)
theorem gd_has_sub {ls : Array Slot} {nL : Nat} {l l' : List (Nat × Value)} (h : lv_has ls nL l) (hs : ∀ q ∈ l', q ∈ l) : lv_has ls nL l' := ⟨h.1, h.2.1, fun q hq => h.2.2 q (hs q hq)⟩
theorem gd_has_get {ad : Nat → Nat} {ls : Array Slot} {nL : Nat} {lv : List (Nat × Value)} (h : lv_has ls nL (gd_lt ad lv)) {i : Nat} {v : Value} (hg : gd_get lv i = some v) : ls[i]? = some (.val (gd_tr ad v)) :=
  h.2.2 (i, gd_tr ad v) (List.mem_map.mpr ⟨(i, v), gd_get_mem hg, rfl⟩)
theorem gd_has_put1 {ad : Nat → Nat} {ls : Array Slot} {nL : Nat} {lv : List (Nat × Value)} {i : Nat} {v : Value}
    (h : lv_has ls nL ((i, gd_tr ad v) :: (gd_lt ad lv).filter (fun q => !(q.1 == i) && !(q.1 + 1 == i && q.2.category == 2)))) : lv_has ls nL (gd_lt ad (gd_put1 lv i v)) := by
  refine gd_has_sub h fun q hq => ?_
  obtain ⟨x, hx, rfl⟩ := List.mem_map.mp hq
  have key : ∀ y ∈ lv, gd_ok1 i y = true → (y.1, gd_tr ad y.2) ∈ (i, gd_tr ad v) :: (gd_lt ad lv).filter (fun q => !(q.1 == i) && !(q.1 + 1 == i && q.2.category == 2)) := by
    intro y hy ho
    refine List.mem_cons_of_mem _ (List.mem_filter.mpr ⟨List.mem_map.mpr ⟨y, hy, rfl⟩, ?_⟩)
    simp only [gd_tr_cat]
    exact ho
  rcases List.mem_append.mp hx with h1 | h1
  · obtain ⟨a, b⟩ := List.mem_filter.mp h1
    exact key x a (by simp only [Bool.and_eq_true] at b; exact b.2)
  · rcases List.mem_cons.mp h1 with h2 | h2
    · subst h2
      exact List.mem_cons_self
    · obtain ⟨a, b⟩ := List.mem_filter.mp h2
      exact key x a (by simp only [Bool.and_eq_true] at b; exact b.2)
theorem gd_has_put2 {ad : Nat → Nat} {ls : Array Slot} {nL : Nat} {lv : List (Nat × Value)} {i : Nat} {v : Value}
    (h : lv_has ls nL ((i, gd_tr ad v) :: (gd_lt ad lv).filter (fun q => !(q.1 == i) && (!(q.1 == i + 1) && !(q.1 + 1 == i && q.2.category == 2))))) : lv_has ls nL (gd_lt ad (gd_put2 lv i v)) := by
  refine gd_has_sub h fun q hq => ?_
  obtain ⟨x, hx, rfl⟩ := List.mem_map.mp hq
  have key : ∀ y ∈ lv, gd_ok2 i y = true → (y.1, gd_tr ad y.2) ∈ (i, gd_tr ad v) :: (gd_lt ad lv).filter (fun q => !(q.1 == i) && (!(q.1 == i + 1) && !(q.1 + 1 == i && q.2.category == 2))) := by
    intro y hy ho
    refine List.mem_cons_of_mem _ (List.mem_filter.mpr ⟨List.mem_map.mpr ⟨y, hy, rfl⟩, ?_⟩)
    simp only [gd_tr_cat]
    exact ho
  rcases List.mem_append.mp hx with h1 | h1
  · obtain ⟨a, b⟩ := List.mem_filter.mp h1
    exact key x a (by simp only [Bool.and_eq_true] at b; exact b.2)
  · rcases List.mem_cons.mp h1 with h2 | h2
    · subst h2
      exact List.mem_cons_self
    · obtain ⟨a, b⟩ := List.mem_filter.mp h2
      exact key x a (by simp only [Bool.and_eq_true] at b; exact b.2)
end
section
-- how long an instruction is
def gd_len (i : Instr) : Nat := match i with
  | .bipush _ | .iload _ | .lload _ | .aload _ | .istore _ | .lstore _ | .astore _ | .ldc _ | .newarray _ => 2
  | .sipush _ | .iinc _ _ | .ifCond _ _ | .if_icmp _ _ | .if_acmp _ _ | .ifnull _ | .ifnonnull _ | .goto _ | .getfield _ | .putfield _ | .invokevirtual _ | .invokestatic _ | .invokespecial _ | .new _ | .ldc2_w _ | .anewarray _ => 3
  | _ => 1
-- where it may go
def gd_tg (i : Instr) (pc tgt : Nat) : Bool := match i with
  | .ifCond _ off | .if_icmp _ off | .if_acmp _ off | .ifnull off | .ifnonnull off | .goto off => decide ((pc : Int) + off = (tgt : Int))
  | _ => true
def gd_rv (v : Value) : Option (Option Nat) := match v with
  | .null => some none
  | .ref k => some (some k)
  | _ => none
theorem gd_rv_eq {v : Value} {r : Option Nat} (h : gd_rv v = some r) : v = va_rf r := by
  cases v <;> simp [gd_rv] at h <;> subst h <;> rfl
abbrev gd_C : Type := Nat × List (Nat × Value) × List Value
-- a step that touches no heap
def gd_ps (nL : Nat) (i : Instr) (tgt pc : Nat) (lv : List (Nat × Value)) (st : List Value) : Option gd_C := match i with
  | .iconst k => some (pc + 1, lv, .int (Int32.ofInt k) :: st)
  | .bipush k => some (pc + 2, lv, .int (Int8.ofInt k).toInt32 :: st)
  | .sipush k => some (pc + 3, lv, .int (Int16.ofInt k).toInt32 :: st)
  | .lconst k => some (pc + 1, lv, .long (Int64.ofNat (k : Nat)) :: st)
  | .aconst_null => some (pc + 1, lv, .null :: st)
  | .iload_n k => match gd_get lv k with
    | some (.int x) => some (pc + 1, lv, .int x :: st)
    | _ => none
  | .iload k => match gd_get lv k with
    | some (.int x) => some (pc + 2, lv, .int x :: st)
    | _ => none
  | .lload_n k => match gd_get lv k with
    | some (.long x) => some (pc + 1, lv, .long x :: st)
    | _ => none
  | .lload k => match gd_get lv k with
    | some (.long x) => some (pc + 2, lv, .long x :: st)
    | _ => none
  | .aload_n k => match gd_get lv k with
    | some (.ref x) => some (pc + 1, lv, .ref x :: st)
    | some .null => some (pc + 1, lv, .null :: st)
    | _ => none
  | .aload k => match gd_get lv k with
    | some (.ref x) => some (pc + 2, lv, .ref x :: st)
    | some .null => some (pc + 2, lv, .null :: st)
    | _ => none
  | .istore_n k => match st with
    | .int x :: st => bif Nat.blt k nL then some (pc + 1, gd_put1 lv k (.int x), st) else none
    | _ => none
  | .istore k => match st with
    | .int x :: st => bif Nat.blt k nL then some (pc + 2, gd_put1 lv k (.int x), st) else none
    | _ => none
  | .lstore_n k => match st with
    | .long x :: st => bif Nat.blt (k + 1) nL then some (pc + 1, gd_put2 lv k (.long x), st) else none
    | _ => none
  | .lstore k => match st with
    | .long x :: st => bif Nat.blt (k + 1) nL then some (pc + 2, gd_put2 lv k (.long x), st) else none
    | _ => none
  | .astore_n k => match st with
    | .ref x :: st => bif Nat.blt k nL then some (pc + 1, gd_put1 lv k (.ref x), st) else none
    | .null :: st => bif Nat.blt k nL then some (pc + 1, gd_put1 lv k .null, st) else none
    | _ => none
  | .astore k => match st with
    | .ref x :: st => bif Nat.blt k nL then some (pc + 2, gd_put1 lv k (.ref x), st) else none
    | .null :: st => bif Nat.blt k nL then some (pc + 2, gd_put1 lv k .null, st) else none
    | _ => none
  | .iinc k d => match gd_get lv k with
    | some (.int x) => bif Nat.blt k nL then some (pc + 3, gd_put1 lv k (.int (x + Int32.ofInt d)), st) else none
    | _ => none
  | .iadd => match st with
    | .int y :: .int x :: st => some (pc + 1, lv, .int (x + y) :: st)
    | _ => none
  | .isub => match st with
    | .int y :: .int x :: st => some (pc + 1, lv, .int (x - y) :: st)
    | _ => none
  | .imul => match st with
    | .int y :: .int x :: st => some (pc + 1, lv, .int (x * y) :: st)
    | _ => none
  | .iand => match st with
    | .int y :: .int x :: st => some (pc + 1, lv, .int (x &&& y) :: st)
    | _ => none
  | .idiv => match st with
    | .int y :: .int x :: st => if y = 0 then none else some (pc + 1, lv, .int (x / y) :: st)
    | _ => none
  | .irem => match st with
    | .int y :: .int x :: st => if y = 0 then none else some (pc + 1, lv, .int (x - x / y * y) :: st)
    | _ => none
  | .ladd => match st with
    | .long y :: .long x :: st => some (pc + 1, lv, .long (x + y) :: st)
    | _ => none
  | .lmul => match st with
    | .long y :: .long x :: st => some (pc + 1, lv, .long (x * y) :: st)
    | _ => none
  | .land => match st with
    | .long y :: .long x :: st => some (pc + 1, lv, .long (x &&& y) :: st)
    | _ => none
  | .lor => match st with
    | .long y :: .long x :: st => some (pc + 1, lv, .long (x ||| y) :: st)
    | _ => none
  | .lxor => match st with
    | .long y :: .long x :: st => some (pc + 1, lv, .long (x ^^^ y) :: st)
    | _ => none
  | .ldiv => match st with
    | .long y :: .long x :: st => if y = 0 then none else some (pc + 1, lv, .long (x / y) :: st)
    | _ => none
  | .lrem => match st with
    | .long y :: .long x :: st => if y = 0 then none else some (pc + 1, lv, .long (x - x / y * y) :: st)
    | _ => none
  | .lshl => match st with
    | .int y :: .long x :: st => some (pc + 1, lv, .long (x <<< (y.toInt64 &&& 63)) :: st)
    | _ => none
  | .lshr => match st with
    | .int y :: .long x :: st => some (pc + 1, lv, .long (x >>> (y.toInt64 &&& 63)) :: st)
    | _ => none
  | .lushr => match st with
    | .int y :: .long x :: st => some (pc + 1, lv, .long (x.toUInt64 >>> (y.toInt64.toUInt64 &&& Int64.toUInt64 63)).toInt64 :: st)
    | _ => none
  | .i2l => match st with
    | .int x :: st => some (pc + 1, lv, .long x.toInt64 :: st)
    | _ => none
  | .lcmp => match st with
    | .long y :: .long x :: st => some (pc + 1, lv, .int (lg_cmp x y) :: st)
    | _ => none
  | .dup => match st with
    | v :: st => bif Nat.beq v.category 1 then some (pc + 1, lv, v :: v :: st) else none
    | _ => none
  | .pop => match st with
    | v :: st => bif Nat.beq v.category 1 then some (pc + 1, lv, st) else none
    | _ => none
  | .dup_x1 => match st with
    | v :: u :: st => bif Nat.beq v.category 1 && Nat.beq u.category 1 then some (pc + 1, lv, v :: u :: v :: st) else none
    | _ => none
  | .dup2 => match st with
    | v :: u :: st => bif Nat.beq v.category 1 && Nat.beq u.category 1 then some (pc + 1, lv, v :: u :: v :: u :: st) else none
    | _ => none
  | .ifCond cn _ => match st with
    | .int x :: st => match cn with
      | .eq => some (if x = 0 then tgt else pc + 3, lv, st)
      | .ne => some (if x = 0 then pc + 3 else tgt, lv, st)
      | .lt => some (if x < 0 then tgt else pc + 3, lv, st)
      | .ge => some (if 0 ≤ x then tgt else pc + 3, lv, st)
      | .gt => some (if 0 < x then tgt else pc + 3, lv, st)
      | .le => some (if x ≤ 0 then tgt else pc + 3, lv, st)
    | _ => none
  | .if_icmp cn _ => match st with
    | .int y :: .int x :: st => match cn with
      | .eq => some (if x = y then tgt else pc + 3, lv, st)
      | .ne => some (if x = y then pc + 3 else tgt, lv, st)
      | .lt => some (if x < y then tgt else pc + 3, lv, st)
      | .ge => some (if y ≤ x then tgt else pc + 3, lv, st)
      | .gt => some (if y < x then tgt else pc + 3, lv, st)
      | .le => some (if x ≤ y then tgt else pc + 3, lv, st)
    | _ => none
  | .if_acmp cn _ => match st with
    | v :: u :: st => match gd_rv v, gd_rv u with
      | some ry, some rx => match cn with
        | .eq => some (if rx = ry then tgt else pc + 3, lv, st)
        | .ne => some (if rx = ry then pc + 3 else tgt, lv, st)
      | _, _ => none
    | _ => none
  | .ifnull _ => match st with
    | .ref _ :: st => some (pc + 3, lv, st)
    | .null :: st => some (tgt, lv, st)
    | _ => none
  | .ifnonnull _ => match st with
    | .ref _ :: st => some (tgt, lv, st)
    | .null :: st => some (pc + 3, lv, st)
    | _ => none
  | .goto _ => some (tgt, lv, st)
  | _ => none
theorem gd_bf {α : Type} {b : Bool} {x r : α} (h : (bif b then some x else none) = some r) : b = true ∧ x = r := by
  cases b with
  | true => exact ⟨rfl, Option.some.inj h⟩
  | false => cases h
theorem gd_ne {α : Type} {q : Prop} {d : Decidable q} {x r : α} (h : (@ite _ q d none (some x)) = some r) : ¬ q ∧ x = r := by
  by_cases hq : q
  · rw [if_pos hq] at h; cases h
  · rw [if_neg hq] at h; exact ⟨hq, Option.some.inj h⟩
theorem gd_blt {a b : Nat} (h : Nat.blt a b = true) : a < b := Nat.le_of_ble_eq_true h
theorem gd_beq {a b : Nat} (h : Nat.beq a b = true) : a = b := Nat.eq_of_beq_eq_true h
theorem gd_map_inj {ad : Nat → Nat} (hinj : ∀ i j, ad i = ad j → i = j) {x y : Option Nat} (h : x.map ad = y.map ad) : x = y := by
  cases x <;> cases y <;> simp at h ⊢
  exact hinj _ _ h
/-- from this place, with these locals, this stack and this world, the machine comes to Q -/
def gd_G (p : Program) (l : Launch) (e : Env) (R : Room) (s : State) (m : MethodId) (args : Array Value) (below : List Frame) (meth : Method) (c : Code) (D : va_G) (tC : FieldType → ClassId) (ad : Nat → Nat) (A : Nat → Prop) (n nL cells slots : Nat) (Q : State → Prop) (pc : Nat) (lv : List (Nat × Value)) (st : List Value) (w : gd_W) : Prop :=
  ∀ (H : Heap) (locs : List Loc) (ls : Array Slot), va_P D gd_cl (gd_wl tC ad n w) H → va_S A s.heap H locs → lv_has ls nL (gd_lt ad lv) → W p l e R s m args below meth c H locs cells slots Q (F0 m pc ls (st.map (gd_tr ad)))
section GD
variable {p : Program} {l : Launch} {e : Env} {R : Room} {s : State} {m : MethodId} {args : Array Value} {below : List Frame} {meth : Method} {c : Code} {D : va_G} {tC : FieldType → ClassId} {ad : Nat → Nat} {A : Nat → Prop} {n nL cells slots : Nat} {Q : State → Prop} {pc tgt : Nat} {lv : List (Nat × Value)} {st : List Value} {w : gd_W} {cc : ByteArray} {i : Instr}
theorem gd_ite {q : Prop} {d : Decidable q} {a b : Nat} (kt : q → gd_G p l e R s m args below meth c D tC ad A n nL cells slots Q a lv st w) (kf : ¬ q → gd_G p l e R s m args below meth c D tC ad A n nL cells slots Q b lv st w) : gd_G p l e R s m args below meth c D tC ad A n nL cells slots Q (@ite _ q d a b) lv st w := by
  by_cases h : q
  · rw [if_pos h]; exact kt h
  · rw [if_neg h]; exact kf h
theorem gd_ifp {q : Prop} {d : Decidable q} {a b : Nat} (h : q) (k : gd_G p l e R s m args below meth c D tC ad A n nL cells slots Q (@ite _ q d a b) lv st w) : gd_G p l e R s m args below meth c D tC ad A n nL cells slots Q a lv st w := by
  rw [if_pos h] at k; exact k
theorem gd_ifn {q : Prop} {d : Decidable q} {a b : Nat} (h : ¬ q) (k : gd_G p l e R s m args below meth c D tC ad A n nL cells slots Q (@ite _ q d a b) lv st w) : gd_G p l e R s m args below meth c D tC ad A n nL cells slots Q b lv st w := by
  rw [if_neg h] at k; exact k
set_option maxHeartbeats 4000000 in
theorem gd_ps_ok (hx : p.tables.exec = Jvm.exec) (hb : c.code = cc) (hinj : ∀ i j, ad i = ad j → i = j) (hd : decode cc pc = .ok (i, gd_len i)) (ht : gd_tg i pc tgt = true) {r : gd_C} (h : gd_ps nL i tgt pc lv st = some r)
    (k : gd_G p l e R s m args below meth c D tC ad A n nL cells slots Q r.1 r.2.1 r.2.2 w) : gd_G p l e R s m args below meth c D tC ad A n nL cells slots Q pc lv st w := by
  intro H locs ls hP hS hl
  unfold gd_ps at h
  split at h
  · cases h; exact lv_iconst hx hb hd rfl (k H locs ls hP hS hl)
  · cases h; exact lv_bipush hx hb hd rfl (k H locs ls hP hS hl)
  · cases h; exact lv_sipush hx hb hd rfl (k H locs ls hP hS hl)
  · cases h; exact lv_lconst hx hb hd rfl (k H locs ls hP hS hl)
  · cases h; exact lv_null hx hb hd (k H locs ls hP hS hl)
  · split at h
    · rename_i hg; cases h; exact lv_iload_n hx hb hd rfl (gd_has_get hl hg) (k H locs ls hP hS hl)
    · cases h
  · split at h
    · rename_i hg; cases h; exact lv_iload hx hb hd (gd_has_get hl hg) (k H locs ls hP hS hl)
    · cases h
  · split at h
    · rename_i hg; cases h; exact lv_lload_n hx hb hd rfl (gd_has_get hl hg) (k H locs ls hP hS hl)
    · cases h
  · split at h
    · rename_i hg; cases h; exact lv_lload hx hb hd (gd_has_get hl hg) (k H locs ls hP hS hl)
    · cases h
  · split at h
    · rename_i hg; cases h; exact lv_aload_n hx hb hd rfl (gd_has_get hl hg) (k H locs ls hP hS hl)
    · rename_i hg; cases h; exact lv_aload_nN hx hb hd rfl (gd_has_get hl hg) (k H locs ls hP hS hl)
    · cases h
  · split at h
    · rename_i hg; cases h; exact lv_aload hx hb hd (gd_has_get hl hg) (k H locs ls hP hS hl)
    · rename_i hg; cases h; exact lv_aloadN hx hb hd (gd_has_get hl hg) (k H locs ls hP hS hl)
    · cases h
  · split at h
    · obtain ⟨hk, rfl⟩ := gd_bf h
      exact lv_istore_n hx hb hd rfl hl (gd_blt hk) rfl (fun ls' hl' => k H locs ls' hP hS (gd_has_put1 (v := .int _) hl'))
    · cases h
  · split at h
    · obtain ⟨hk, rfl⟩ := gd_bf h
      exact lv_istore hx hb hd hl (gd_blt hk) rfl (fun ls' hl' => k H locs ls' hP hS (gd_has_put1 (v := .int _) hl'))
    · cases h
  · split at h
    · obtain ⟨hk, rfl⟩ := gd_bf h
      exact lv_lstore_n hx hb hd rfl hl (gd_blt hk) rfl (fun ls' hl' => k H locs ls' hP hS (gd_has_put2 (v := .long _) hl'))
    · cases h
  · split at h
    · obtain ⟨hk, rfl⟩ := gd_bf h
      exact lv_lstore hx hb hd hl (gd_blt hk) rfl (fun ls' hl' => k H locs ls' hP hS (gd_has_put2 (v := .long _) hl'))
    · cases h
  · split at h
    · obtain ⟨hk, rfl⟩ := gd_bf h
      exact lv_astore_n hx hb hd rfl hl (gd_blt hk) rfl (fun ls' hl' => k H locs ls' hP hS (gd_has_put1 (v := .ref _) hl'))
    · obtain ⟨hk, rfl⟩ := gd_bf h
      exact lv_astore_nN hx hb hd rfl hl (gd_blt hk) rfl (fun ls' hl' => k H locs ls' hP hS (gd_has_put1 (v := .null) hl'))
    · cases h
  · split at h
    · obtain ⟨hk, rfl⟩ := gd_bf h
      exact lv_astore hx hb hd hl (gd_blt hk) rfl (fun ls' hl' => k H locs ls' hP hS (gd_has_put1 (v := .ref _) hl'))
    · obtain ⟨hk, rfl⟩ := gd_bf h
      exact lv_astoreN hx hb hd hl (gd_blt hk) rfl (fun ls' hl' => k H locs ls' hP hS (gd_has_put1 (v := .null) hl'))
    · cases h
  · split at h
    · rename_i x hg
      obtain ⟨hk, rfl⟩ := gd_bf h
      obtain ⟨pl, hpl⟩ := List.getElem?_of_mem (List.mem_map.mpr ⟨_, gd_get_mem hg, rfl⟩ : (_, gd_tr ad (.int x)) ∈ gd_lt ad lv)
      exact lv_iinc hx hb hd hl hpl rfl (gd_blt hk) rfl (fun ls' hl' => k H locs ls' hP hS (gd_has_put1 (v := .int _) hl'))
    · cases h
  · split at h
    · cases h; exact lv_iadd hx hb hd (k H locs ls hP hS hl)
    · cases h
  · split at h
    · cases h; exact lv_isub hx hb hd (k H locs ls hP hS hl)
    · cases h
  · split at h
    · cases h; exact lv_imul hx hb hd (k H locs ls hP hS hl)
    · cases h
  · split at h
    · cases h; exact lv_iand hx hb hd (k H locs ls hP hS hl)
    · cases h
  · split at h
    · obtain ⟨hk, rfl⟩ := gd_ne h; exact lv_idiv hx hb hd hk (k H locs ls hP hS hl)
    · cases h
  · split at h
    · obtain ⟨hk, rfl⟩ := gd_ne h; exact lv_irem hx hb hd hk (k H locs ls hP hS hl)
    · cases h
  · split at h
    · cases h; exact lv_ladd hx hb hd (k H locs ls hP hS hl)
    · cases h
  · split at h
    · cases h; exact lv_lmul hx hb hd (k H locs ls hP hS hl)
    · cases h
  · split at h
    · cases h; exact lv_land hx hb hd (k H locs ls hP hS hl)
    · cases h
  · split at h
    · cases h; exact lv_lor hx hb hd (k H locs ls hP hS hl)
    · cases h
  · split at h
    · cases h; exact lv_lxor hx hb hd (k H locs ls hP hS hl)
    · cases h
  · split at h
    · obtain ⟨hk, rfl⟩ := gd_ne h; exact lv_ldiv hx hb hd hk (k H locs ls hP hS hl)
    · cases h
  · split at h
    · obtain ⟨hk, rfl⟩ := gd_ne h; exact lv_lrem hx hb hd hk (k H locs ls hP hS hl)
    · cases h
  · split at h
    · cases h; exact lv_lshl hx hb hd rfl (k H locs ls hP hS hl)
    · cases h
  · split at h
    · cases h; exact lv_lshr hx hb hd rfl (k H locs ls hP hS hl)
    · cases h
  · split at h
    · cases h; exact lv_lushr hx hb hd rfl (k H locs ls hP hS hl)
    · cases h
  · split at h
    · cases h; exact lv_i2l hx hb hd rfl (k H locs ls hP hS hl)
    · cases h
  · split at h
    · cases h; exact W.lcmp hx hb hd (k H locs ls hP hS hl)
    · cases h
  · split at h
    · obtain ⟨hk, rfl⟩ := gd_bf h
      exact lv_dup hx hb hd ((gd_tr_cat ad _).trans (gd_beq hk)) (k H locs ls hP hS hl)
    · cases h
  · split at h
    · obtain ⟨hk, rfl⟩ := gd_bf h
      exact lv_pop hx hb hd ((gd_tr_cat ad _).trans (gd_beq hk)) (k H locs ls hP hS hl)
    · cases h
  · split at h
    · obtain ⟨hk, rfl⟩ := gd_bf h
      obtain ⟨h1, h2⟩ := (Bool.and_eq_true _ _).mp hk
      exact lv_dup_x1 hx hb hd ((gd_tr_cat ad _).trans (gd_beq h1)) ((gd_tr_cat ad _).trans (gd_beq h2)) (k H locs ls hP hS hl)
    · cases h
  · split at h
    · obtain ⟨hk, rfl⟩ := gd_bf h
      obtain ⟨h1, h2⟩ := (Bool.and_eq_true _ _).mp hk
      exact lv_dup2_11 hx hb hd ((gd_tr_cat ad _).trans (gd_beq h1)) ((gd_tr_cat ad _).trans (gd_beq h2)) (k H locs ls hP hS hl)
    · cases h
  · have ht' := of_decide_eq_true ht
    split at h
    · split at h
      · cases h; exact lv_if_eq hx hb hd ht' (fun q => gd_ifp q k H locs ls hP hS hl) (fun q => gd_ifn q k H locs ls hP hS hl)
      · cases h; exact lv_if_ne hx hb hd ht' (fun q => gd_ifn q k H locs ls hP hS hl) (fun q => gd_ifp q k H locs ls hP hS hl)
      · cases h; exact lv_if_lt hx hb hd ht' (fun q => gd_ifp q k H locs ls hP hS hl) (fun q => gd_ifn q k H locs ls hP hS hl)
      · cases h; exact lv_if_ge hx hb hd ht' (fun q => gd_ifp q k H locs ls hP hS hl) (fun q => gd_ifn q k H locs ls hP hS hl)
      · cases h; exact lv_if_gt hx hb hd ht' (fun q => gd_ifp q k H locs ls hP hS hl) (fun q => gd_ifn q k H locs ls hP hS hl)
      · cases h; exact lv_if_le hx hb hd ht' (fun q => gd_ifp q k H locs ls hP hS hl) (fun q => gd_ifn q k H locs ls hP hS hl)
    · cases h
  · have ht' := of_decide_eq_true ht
    split at h
    · split at h
      · cases h; exact lv_icmp_eq hx hb hd ht' (fun q => gd_ifp q k H locs ls hP hS hl) (fun q => gd_ifn q k H locs ls hP hS hl)
      · cases h; exact lv_icmp_ne hx hb hd ht' (fun q => gd_ifn q k H locs ls hP hS hl) (fun q => gd_ifp q k H locs ls hP hS hl)
      · cases h; exact lv_icmp_lt hx hb hd ht' (fun q => gd_ifp q k H locs ls hP hS hl) (fun q => gd_ifn q k H locs ls hP hS hl)
      · cases h; exact lv_icmp_ge hx hb hd ht' (fun q => gd_ifp q k H locs ls hP hS hl) (fun q => gd_ifn q k H locs ls hP hS hl)
      · cases h; exact lv_icmp_gt hx hb hd ht' (fun q => gd_ifp q k H locs ls hP hS hl) (fun q => gd_ifn q k H locs ls hP hS hl)
      · cases h; exact lv_icmp_le hx hb hd ht' (fun q => gd_ifp q k H locs ls hP hS hl) (fun q => gd_ifn q k H locs ls hP hS hl)
    · cases h
  · have ht' := of_decide_eq_true ht
    split at h
    · split at h
      · rename_i v u st' rv ru ry rx hv hu
        have e1 := gd_rv_eq hv
        have e2 := gd_rv_eq hu
        subst e1; subst e2
        show W p l e R s m args below meth c H locs cells slots Q (F0 m pc ls (gd_tr ad (va_rf ry) :: gd_tr ad (va_rf rx) :: List.map (gd_tr ad) st'))
        rw [gd_tr_rf, gd_tr_rf]
        split at h
        · cases h; exact lv_acmp_eq hx hb hd ht' (fun q => gd_ifp (gd_map_inj hinj q) k H locs ls hP hS hl) (fun q => gd_ifn (fun z => q (by rw [z])) k H locs ls hP hS hl)
        · cases h; exact lv_acmp_ne hx hb hd ht' (fun q => gd_ifn (fun z => q (by rw [z])) k H locs ls hP hS hl) (fun q => gd_ifp (gd_map_inj hinj q) k H locs ls hP hS hl)
      · cases h
    · cases h
  · have ht' := of_decide_eq_true ht
    split at h
    · cases h; exact lv_ifnull hx hb hd (k H locs ls hP hS hl)
    · cases h; exact lv_ifnullN hx hb hd ht' (k H locs ls hP hS hl)
    · cases h
  · have ht' := of_decide_eq_true ht
    split at h
    · cases h; exact lv_ifnonnull hx hb hd ht' (k H locs ls hP hS hl)
    · cases h; exact lv_ifnonnullN hx hb hd (k H locs ls hP hS hl)
    · cases h
  · have ht' := of_decide_eq_true ht
    cases h; exact lv_goto hx hb hd ht' (k H locs ls hP hS hl)
  · cases h
end GD
end
section
abbrev gd_tys (tC : FieldType → ClassId) : List (ClassId × FieldType) := [(tC .int, .int), (tC .long, .long), (tC .boolean, .boolean), (tC (.object "GuardedDrops$Droplet"), .object "GuardedDrops$Droplet")]
/-- what is fixed in a method's body -/
def gd_E (p : Program) (s : State) (m : MethodId) (args : Array Value) (c : Code) (cc : ByteArray) (nL : Nat) (own : String) (D : va_G) (tC : FieldType → ClassId) (ad : Nat → Nat) (A : Nat → Prop) (n : Nat) : Prop :=
  CallFix p m c cc nL s args gd_all own ∧ va_K D gd_cl (gd_tys tC) s ∧ (∀ w, va_D A (gd_wl tC ad n w)) ∧ (∀ i j, ad i = ad j → i = j) ∧ (∀ x ∈ gd_nw, va_Nw x s)
section GH
variable {p : Program} {l : Launch} {e : Env} {R : Room} {s : State} {m : MethodId} {args : Array Value} {below : List Frame} {meth : Method} {c : Code} {D : va_G} {tC : FieldType → ClassId} {ad : Nat → Nat} {A : Nat → Prop} {n nL cells slots : Nat} {Q : State → Prop} {pc : Nat} {lv : List (Nat × Value)} {st : List Value} {w : gd_W} {cc : ByteArray} {own : String}
theorem gd_getf (E : gd_E p s m args c cc nL own D tC ad A n) {x ci j N k : Nat} {C : String} {T : u_T} (hd : decode cc pc = .ok (.getfield x, 3)) (hc : gd_cf ci C T N) (hj : j < N) (hlk : gd_lk own x (T j)) (hk : k < n) (hs : gd_sh k = .inl ci) {ty : FieldType} (ht : (gd_ft ci)[j]? = some ty)
    (kk : gd_G p l e R s m args below meth c D tC ad A n nL cells slots Q (pc + 3) lv (gd_av w k j ty :: st) w) : gd_G p l e R s m args below meth c D tC ad A n nL cells slots Q pc lv (.ref k :: st) w := by
  intro H locs ls hP hS hl
  obtain ⟨⟨hx, hb, hml, hown, hts⟩, hK, hDD, hinj, hN⟩ := E
  obtain ⟨hc1, hc2, -, -⟩ := hc
  have he : (gd_wl tC ad n w)[k]? = some (ad k, .inr (ci, gd_fs ad w k (gd_ft ci))) := by rw [gd_wl_at hk, hs]; rfl
  rcases hlk with h1 | ⟨host, h1⟩
  · exact va_get hx hb hts hc2 hown hK hP k he hc1 j hj (hts _ h1) (fun _ h => h) (gd_fs_at ht) hd (kk H locs ls hP hS hl)
  · exact va_getN hx hb hts hc2 hown hK hP k he hc1 j hj (va_Nw.use rfl (hN _ h1)) (fun _ h => h) (gd_fs_at ht) hd (kk H locs ls hP hS hl)
theorem gd_putf (E : gd_E p s m args c cc nL own D tC ad A n) {x ci j N k : Nat} {C : String} {T : u_T} (hd : decode cc pc = .ok (.putfield x, 3)) (hc : gd_cf ci C T N) (hj : j < N) (hlk : gd_lk own x (T j)) (hfin : (T j).2.2.2 = false) (hk : k < n) (hs : gd_sh k = .inl ci) {ty : FieldType} (ht : (gd_ft ci)[j]? = some ty)
    {v : Value} {w' : gd_W} (hoff : gd_off w w' k) (hv : gd_av w' k j ty = v) (ho : ∀ i t, i ≠ j → gd_av w' k i t = gd_av w k i t) (hn : narrow ty (gd_tr ad v) = gd_tr ad v) (hfit : fits ty (gd_tr ad v) = true)
    (kk : gd_G p l e R s m args below meth c D tC ad A n nL cells slots Q (pc + 3) lv st w') : gd_G p l e R s m args below meth c D tC ad A n nL cells slots Q pc lv (v :: .ref k :: st) w := by
  intro H locs ls hP hS hl
  obtain ⟨⟨hx, hb, hml, hown, hts⟩, hK, hDD, hinj, hN⟩ := E
  obtain ⟨hc1, hc2, ⟨ty0, hty, hty2⟩, hnm⟩ := hc
  have he : (gd_wl tC ad n w)[k]? = some (ad k, .inr (ci, gd_fs ad w k (gd_ft ci))) := by rw [gd_wl_at hk, hs]; rfl
  have hdj : parseFieldDescriptor (T j).2.2.1 = some ty := by rw [hty j hj, ← hty2 j hj, ht]
  have hlen : j < (gd_fs ad w k (gd_ft ci)).length := by rw [gd_fs_len]; exact (List.getElem?_eq_some_iff.mp ht).1
  have hset : (gd_wl tC ad n w).set k (ad k, .inr (ci, (gd_fs ad w k (gd_ft ci)).set j (gd_tr ad v))) = gd_wl tC ad n w' := by
    refine gd_wl_set hoff ?_
    rw [hs, gd_fs_set (w' := w') ht (by rw [hv]) (fun i t _ h => ho i t h)]
    rfl
  rcases hlk with h1 | ⟨host, h1⟩
  · exact va_put hx hb hts hc2 ty0 hty hnm hown hK hP (hDD w) hS k he hc1 j hj (hts _ h1) (fun _ h => h) hfin hdj hn hfit hlen hd (fun H1 locs1 hP1 _ hS1 => kk H1 locs1 ls (by rw [hset] at hP1; exact hP1) hS1 hl)
  · exact va_putN hx hb hts hc2 ty0 hty hnm hown hK hP (hDD w) hS k he hc1 j hj (va_Nw.use rfl (hN _ h1)) (fun _ h => h) hfin hdj hn hfit hlen hd (fun H1 locs1 hP1 _ hS1 => kk H1 locs1 ls (by rw [hset] at hP1; exact hP1) hS1 hl)
theorem gd_av_I {w : gd_W} {k j i : Nat} {x : Int32} {t : FieldType} (h : i ≠ j) : gd_av (gd_rI w k (upd (w.1 k) j x)) k i t = gd_av w k i t := by
  cases t <;> simp [gd_av, gd_rI, upd, h]
theorem gd_av_L {w : gd_W} {k j i : Nat} {x : Int64} {t : FieldType} (h : i ≠ j) : gd_av (gd_rL w k (vp_updL (w.2.1 k) j x)) k i t = gd_av w k i t := by
  cases t <;> simp [gd_av, gd_rL, vp_updL, h]
theorem gd_puti (E : gd_E p s m args c cc nL own D tC ad A n) {x ci j N k : Nat} {C : String} {T : u_T} (hd : decode cc pc = .ok (.putfield x, 3)) (hc : gd_cf ci C T N) (hj : j < N) (hlk : gd_lk own x (T j)) (hfin : (T j).2.2.2 = false) (hk : k < n) (hs : gd_sh k = .inl ci) (ht : (gd_ft ci)[j]? = some .int) {v : Int32}
    (kk : gd_G p l e R s m args below meth c D tC ad A n nL cells slots Q (pc + 3) lv st (gd_rI w k (upd (w.1 k) j v))) : gd_G p l e R s m args below meth c D tC ad A n nL cells slots Q pc lv (.int v :: .ref k :: st) w :=
  gd_putf E hd hc hj hlk hfin hk hs ht (gd_off_I _ _ _) (by simp [gd_av, gd_rI, upd]) (fun _ _ h => gd_av_I h) rfl rfl kk
theorem gd_putz (E : gd_E p s m args c cc nL own D tC ad A n) {x ci j N k : Nat} {C : String} {T : u_T} (hd : decode cc pc = .ok (.putfield x, 3)) (hc : gd_cf ci C T N) (hj : j < N) (hlk : gd_lk own x (T j)) (hfin : (T j).2.2.2 = false) (hk : k < n) (hs : gd_sh k = .inl ci) (ht : (gd_ft ci)[j]? = some .boolean) {v : Int32} (hv : v = 0 ∨ v = 1)
    (kk : gd_G p l e R s m args below meth c D tC ad A n nL cells slots Q (pc + 3) lv st (gd_rI w k (upd (w.1 k) j v))) : gd_G p l e R s m args below meth c D tC ad A n nL cells slots Q pc lv (.int v :: .ref k :: st) w :=
  gd_putf E hd hc hj hlk hfin hk hs ht (gd_off_I _ _ _) (by simp [gd_av, gd_rI, upd]) (fun _ _ h => gd_av_I h) (by rcases hv with rfl | rfl <;> rfl) (by rcases hv with rfl | rfl <;> rfl) kk
theorem gd_putl (E : gd_E p s m args c cc nL own D tC ad A n) {x ci j N k : Nat} {C : String} {T : u_T} (hd : decode cc pc = .ok (.putfield x, 3)) (hc : gd_cf ci C T N) (hj : j < N) (hlk : gd_lk own x (T j)) (hfin : (T j).2.2.2 = false) (hk : k < n) (hs : gd_sh k = .inl ci) (ht : (gd_ft ci)[j]? = some .long) {v : Int64}
    (kk : gd_G p l e R s m args below meth c D tC ad A n nL cells slots Q (pc + 3) lv st (gd_rL w k (vp_updL (w.2.1 k) j v))) : gd_G p l e R s m args below meth c D tC ad A n nL cells slots Q pc lv (.long v :: .ref k :: st) w :=
  gd_putf E hd hc hj hlk hfin hk hs ht (gd_off_L _ _ _) (by simp [gd_av, gd_rL, vp_updL]) (fun _ _ h => gd_av_L h) rfl rfl kk
-- arrays: the index is a number below the length
theorem gd_iald (E : gd_E p s m args c cc nL own D tC ad A n) {k j len : Nat} {i : Int32} (hd : decode cc pc = .ok (.iaload, 1)) (hk : k < n) (hs : gd_sh k = .inr (.int, len)) (hi : i = nI j) (hj : j < len) (hlen : len < 2 ^ 31)
    (kk : gd_G p l e R s m args below meth c D tC ad A n nL cells slots Q (pc + 1) lv (.int (w.1 k j) :: st) w) : gd_G p l e R s m args below meth c D tC ad A n nL cells slots Q pc lv (.int i :: .ref k :: st) w := by
  intro H locs ls hP hS hl
  obtain ⟨⟨hx, hb, hml, hown, hts⟩, hK, hDD, hinj, hN⟩ := E
  subst hi
  have he : (gd_wl tC ad n w)[k]? = some (ad k, .inl (tC .int, len, .inl (w.1 k))) := by rw [gd_wl_at hk, hs]; rfl
  exact va_iald hx hb hK hP k 0 he rfl (vp_in_nI hj hlen) hd (by rw [nI_clamp (by omega)]; exact kk H locs ls hP hS hl)
theorem gd_zald (E : gd_E p s m args c cc nL own D tC ad A n) {k j len : Nat} {i : Int32} (hd : decode cc pc = .ok (.baload, 1)) (hk : k < n) (hs : gd_sh k = .inr (.boolean, len)) (hi : i = nI j) (hj : j < len) (hlen : len < 2 ^ 31)
    (kk : gd_G p l e R s m args below meth c D tC ad A n nL cells slots Q (pc + 1) lv (.int (w.1 k j) :: st) w) : gd_G p l e R s m args below meth c D tC ad A n nL cells slots Q pc lv (.int i :: .ref k :: st) w := by
  intro H locs ls hP hS hl
  obtain ⟨⟨hx, hb, hml, hown, hts⟩, hK, hDD, hinj, hN⟩ := E
  subst hi
  have he : (gd_wl tC ad n w)[k]? = some (ad k, .inl (tC .boolean, len, .inl (w.1 k))) := by rw [gd_wl_at hk, hs]; rfl
  exact va_zald hx hb hK hP k 2 he rfl (vp_in_nI hj hlen) hd (by rw [nI_clamp (by omega)]; exact kk H locs ls hP hS hl)
theorem gd_lald (E : gd_E p s m args c cc nL own D tC ad A n) {k j len : Nat} {i : Int32} (hd : decode cc pc = .ok (.laload, 1)) (hk : k < n) (hs : gd_sh k = .inr (.long, len)) (hi : i = nI j) (hj : j < len) (hlen : len < 2 ^ 31)
    (kk : gd_G p l e R s m args below meth c D tC ad A n nL cells slots Q (pc + 1) lv (.long (w.2.1 k j) :: st) w) : gd_G p l e R s m args below meth c D tC ad A n nL cells slots Q pc lv (.int i :: .ref k :: st) w := by
  intro H locs ls hP hS hl
  obtain ⟨⟨hx, hb, hml, hown, hts⟩, hK, hDD, hinj, hN⟩ := E
  subst hi
  have he : (gd_wl tC ad n w)[k]? = some (ad k, .inl (tC .long, len, .inr (.inl (w.2.1 k)))) := by rw [gd_wl_at hk, hs]; rfl
  exact va_lald hx hb hK hP k 1 he rfl (vp_in_nI hj hlen) hd (by rw [nI_clamp (by omega)]; exact kk H locs ls hP hS hl)
theorem gd_aald (E : gd_E p s m args c cc nL own D tC ad A n) {k j len q : Nat} {i : Int32} (hd : decode cc pc = .ok (.aaload, 1)) (hk : k < n) (hs : gd_sh k = .inr (.object "GuardedDrops$Droplet", len)) (hi : i = nI j) (hj : j < len) (hlen : len < 2 ^ 31) (hq : w.2.2 k j = some q)
    (kk : gd_G p l e R s m args below meth c D tC ad A n nL cells slots Q (pc + 1) lv (.ref q :: st) w) : gd_G p l e R s m args below meth c D tC ad A n nL cells slots Q pc lv (.int i :: .ref k :: st) w := by
  intro H locs ls hP hS hl
  obtain ⟨⟨hx, hb, hml, hown, hts⟩, hK, hDD, hinj, hN⟩ := E
  subst hi
  have he : (gd_wl tC ad n w)[k]? = some (ad k, .inl (tC (.object "GuardedDrops$Droplet"), len, .inr (.inr (.inr (.inr (fun j => (w.2.2 k j).map ad)))))) := by rw [gd_wl_at hk, hs]; rfl
  exact va_aldq hx hb hK hP k 3 he rfl (vp_in_nI hj hlen) hd (by rw [nI_clamp (by omega), hq]; exact kk H locs ls hP hS hl)
theorem gd_iast (E : gd_E p s m args c cc nL own D tC ad A n) {k j len : Nat} {i v : Int32} (hd : decode cc pc = .ok (.iastore, 1)) (hk : k < n) (hs : gd_sh k = .inr (.int, len)) (hi : i = nI j) (hj : j < len) (hlen : len < 2 ^ 31)
    (kk : gd_G p l e R s m args below meth c D tC ad A n nL cells slots Q (pc + 1) lv st (gd_rI w k (upd (w.1 k) j v))) : gd_G p l e R s m args below meth c D tC ad A n nL cells slots Q pc lv (.int v :: .int i :: .ref k :: st) w := by
  intro H locs ls hP hS hl
  obtain ⟨⟨hx, hb, hml, hown, hts⟩, hK, hDD, hinj, hN⟩ := E
  subst hi
  have he : (gd_wl tC ad n w)[k]? = some (ad k, .inl (tC .int, len, .inl (w.1 k))) := by rw [gd_wl_at hk, hs]; rfl
  have hset : (gd_wl tC ad n w).set k (ad k, .inl (tC .int, len, .inl (upd (w.1 k) j v))) = gd_wl tC ad n (gd_rI w k (upd (w.1 k) j v)) := gd_wl_set (gd_off_I _ _ _) (by rw [hs]; simp [gd_ce, gd_ar, gd_rI])
  exact va_iast hx hb hK hP (hDD w) hS k 0 he rfl (vp_in_nI hj hlen) hd (fun H1 locs1 hP1 _ hS1 => kk H1 locs1 ls (by rw [nI_clamp (by omega), hset] at hP1; exact hP1) hS1 hl)
theorem gd_nar01 {v : Int32} (hv : v = 0 ∨ v = 1) : vp_nar .boolean v = v := by rcases hv with rfl | rfl <;> rfl
theorem gd_zast (E : gd_E p s m args c cc nL own D tC ad A n) {k j len : Nat} {i v : Int32} (hd : decode cc pc = .ok (.bastore, 1)) (hk : k < n) (hs : gd_sh k = .inr (.boolean, len)) (hi : i = nI j) (hj : j < len) (hlen : len < 2 ^ 31) (hv : v = 0 ∨ v = 1)
    (kk : gd_G p l e R s m args below meth c D tC ad A n nL cells slots Q (pc + 1) lv st (gd_rI w k (upd (w.1 k) j v))) : gd_G p l e R s m args below meth c D tC ad A n nL cells slots Q pc lv (.int v :: .int i :: .ref k :: st) w := by
  intro H locs ls hP hS hl
  obtain ⟨⟨hx, hb, hml, hown, hts⟩, hK, hDD, hinj, hN⟩ := E
  subst hi
  have he : (gd_wl tC ad n w)[k]? = some (ad k, .inl (tC .boolean, len, .inl (w.1 k))) := by rw [gd_wl_at hk, hs]; rfl
  have hset : (gd_wl tC ad n w).set k (ad k, .inl (tC .boolean, len, .inl (upd (w.1 k) j v))) = gd_wl tC ad n (gd_rI w k (upd (w.1 k) j v)) := gd_wl_set (gd_off_I _ _ _) (by rw [hs]; simp [gd_ce, gd_ar, gd_rI])
  exact va_zast hx hb hK hP (hDD w) hS k 2 he rfl (vp_in_nI hj hlen) hd (fun H1 locs1 hP1 _ hS1 => kk H1 locs1 ls (by rw [nI_clamp (by omega), gd_nar01 hv, hset] at hP1; exact hP1) hS1 hl)
theorem gd_last (E : gd_E p s m args c cc nL own D tC ad A n) {k j len : Nat} {i : Int32} {v : Int64} (hd : decode cc pc = .ok (.lastore, 1)) (hk : k < n) (hs : gd_sh k = .inr (.long, len)) (hi : i = nI j) (hj : j < len) (hlen : len < 2 ^ 31)
    (kk : gd_G p l e R s m args below meth c D tC ad A n nL cells slots Q (pc + 1) lv st (gd_rL w k (vp_updL (w.2.1 k) j v))) : gd_G p l e R s m args below meth c D tC ad A n nL cells slots Q pc lv (.long v :: .int i :: .ref k :: st) w := by
  intro H locs ls hP hS hl
  obtain ⟨⟨hx, hb, hml, hown, hts⟩, hK, hDD, hinj, hN⟩ := E
  subst hi
  have he : (gd_wl tC ad n w)[k]? = some (ad k, .inl (tC .long, len, .inr (.inl (w.2.1 k)))) := by rw [gd_wl_at hk, hs]; rfl
  have hset : (gd_wl tC ad n w).set k (ad k, .inl (tC .long, len, .inr (.inl (vp_updL (w.2.1 k) j v)))) = gd_wl tC ad n (gd_rL w k (vp_updL (w.2.1 k) j v)) := gd_wl_set (gd_off_L _ _ _) (by rw [hs]; simp [gd_ce, gd_ar, gd_rL])
  exact va_last hx hb hK hP (hDD w) hS k 1 he rfl (vp_in_nI hj hlen) hd (fun H1 locs1 hP1 _ hS1 => kk H1 locs1 ls (by rw [nI_clamp (by omega), hset] at hP1; exact hP1) hS1 hl)
theorem gd_aast (E : gd_E p s m args c cc nL own D tC ad A n) {k j len q ci : Nat} {i : Int32} {r : vw_C} (hd : decode cc pc = .ok (.aastore, 1)) (hk : k < n) (hs : gd_sh k = .inr (.object "GuardedDrops$Droplet", len)) (hi : i = nI j) (hj : j < len) (hlen : len < 2 ^ 31) (hq : q < n) (hsq : gd_sh q = .inl ci) (hc : gd_cl[ci]? = some r) (hr : r.1 = "GuardedDrops$Droplet")
    (kk : gd_G p l e R s m args below meth c D tC ad A n nL cells slots Q (pc + 1) lv st (gd_rR w k (va_up (w.2.2 k) j (some q)))) : gd_G p l e R s m args below meth c D tC ad A n nL cells slots Q pc lv (.ref q :: .int i :: .ref k :: st) w := by
  intro H locs ls hP hS hl
  obtain ⟨⟨hx, hb, hml, hown, hts⟩, hK, hDD, hinj, hN⟩ := E
  subst hi
  have he : (gd_wl tC ad n w)[k]? = some (ad k, .inl (tC (.object "GuardedDrops$Droplet"), len, .inr (.inr (.inr (.inr (fun j => (w.2.2 k j).map ad)))))) := by rw [gd_wl_at hk, hs]; rfl
  have hv : (gd_wl tC ad n w)[q]? = some (ad q, .inr (ci, gd_fs ad w q (gd_ft ci))) := by rw [gd_wl_at hq, hsq]; rfl
  have hf : va_up (fun j => (w.2.2 k j).map ad) j (some (ad q)) = fun i => (va_up (w.2.2 k) j (some q) i).map ad := by
    funext i
    by_cases h : i = j <;> simp [va_up, h]
  have hset : (gd_wl tC ad n w).set k (ad k, .inl (tC (.object "GuardedDrops$Droplet"), len, .inr (.inr (.inr (.inr (va_up (fun j => (w.2.2 k j).map ad) j (some (ad q)))))))) = gd_wl tC ad n (gd_rR w k (va_up (w.2.2 k) j (some q))) := gd_wl_set (gd_off_R _ _ _) (by rw [hs, hf]; simp [gd_ce, gd_ar, gd_rR])
  exact va_astq hx hb hK hP (hDD w) hS k 3 q ci he (by rw [hr]; rfl) hv hc (vp_in_nI hj hlen) hd (fun H1 locs1 hP1 _ hS1 => kk H1 locs1 ls (by rw [nI_clamp (by omega), hset] at hP1; exact hP1) hS1 hl)
end GH
end
section
abbrev gd_X : Type := Nat × List (Nat × Value) × List Value × gd_W
-- a step, fields of known cells too
def gd_hs (n nL : Nat) (fl : Nat → Option (Nat × Nat × Bool)) (lc : Nat → Option Int64) (i : Instr) (tgt : Nat) (x : gd_X) : Option gd_X := match i with
  | .getfield a => match fl a, x.2.2.1 with
    | some q, .ref k :: st => match gd_sh k, (gd_ft q.1)[q.2.1]? with
      | .inl ci, some ty => bif Nat.blt k n && Nat.beq ci q.1 then some (x.1 + 3, x.2.1, gd_av x.2.2.2 k q.2.1 ty :: st, x.2.2.2) else none
      | _, _ => none
    | _, _ => none
  | .putfield a => match fl a, x.2.2.1 with
    | some q, .int v :: .ref k :: st => match gd_sh k, (gd_ft q.1)[q.2.1]? with
      | .inl ci, some .int => bif Nat.blt k n && Nat.beq ci q.1 && q.2.2 then some (x.1 + 3, x.2.1, st, gd_rI x.2.2.2 k (upd (x.2.2.2.1 k) q.2.1 v)) else none
      | _, _ => none
    | some q, .long v :: .ref k :: st => match gd_sh k, (gd_ft q.1)[q.2.1]? with
      | .inl ci, some .long => bif Nat.blt k n && Nat.beq ci q.1 && q.2.2 then some (x.1 + 3, x.2.1, st, gd_rL x.2.2.2 k (vp_updL (x.2.2.2.2.1 k) q.2.1 v)) else none
      | _, _ => none
    | _, _ => none
  | .ldc2_w a => match lc a with
    | some v => some (x.1 + 3, x.2.1, .long v :: x.2.2.1, x.2.2.2)
    | none => none
  | i => match gd_ps nL i tgt x.1 x.2.1 x.2.2.1 with
    | some r => some (r.1, r.2.1, r.2.2, x.2.2.2)
    | none => none
def gd_run (n nL : Nat) (f : Nat → Option (Instr × Nat)) (fl : Nat → Option (Nat × Nat × Bool)) (lc : Nat → Option Int64) : Nat → gd_X → Option gd_X
  | 0, x => some x
  | k + 1, x => match f x.1 with
    | some q => match gd_hs n nL fl lc q.1 q.2 x with
      | some y => gd_run n nL f fl lc k y
      | none => none
    | none => none
-- a method's instructions, by their places
abbrev gd_K : Type := List (Nat × Instr × Nat)
def gd_find : gd_K → Nat → Option (Instr × Nat)
  | [], _ => none
  | q :: t, i => bif Nat.beq q.1 i then some q.2 else gd_find t i
def gd_ff : gd_F → Nat → Option (Nat × Nat × Bool)
  | [], _ => none
  | q :: t, i => bif Nat.beq q.1 i then some q.2 else gd_ff t i
def gd_lf : gd_L → Nat → Option Int64
  | [], _ => none
  | q :: t, i => bif Nat.beq q.1 i then some q.2 else gd_lf t i
theorem gd_find_mem : ∀ {l : gd_K} {i : Nat} {v : Instr × Nat}, gd_find l i = some v → (i, v) ∈ l
  | [], i, v, h => by cases h
  | (j, x) :: t, i, v, h => by
    rw [gd_find] at h
    cases hb : Nat.beq j i with
    | true => rw [hb] at h; have hji : j = i := Nat.eq_of_beq_eq_true hb; cases h; rw [hji]; exact List.mem_cons_self
    | false => rw [hb] at h; exact List.mem_cons_of_mem _ (gd_find_mem h)
theorem gd_ff_mem : ∀ {l : gd_F} {i : Nat} {v : Nat × Nat × Bool}, gd_ff l i = some v → (i, v) ∈ l
  | [], i, v, h => by cases h
  | (j, x) :: t, i, v, h => by
    rw [gd_ff] at h
    cases hb : Nat.beq j i with
    | true => rw [hb] at h; have hji : j = i := Nat.eq_of_beq_eq_true hb; cases h; rw [hji]; exact List.mem_cons_self
    | false => rw [hb] at h; exact List.mem_cons_of_mem _ (gd_ff_mem h)
theorem gd_lf_mem : ∀ {l : gd_L} {i : Nat} {v : Int64}, gd_lf l i = some v → (i, v) ∈ l
  | [], i, v, h => by cases h
  | (j, x) :: t, i, v, h => by
    rw [gd_lf] at h
    cases hb : Nat.beq j i with
    | true => rw [hb] at h; have hji : j = i := Nat.eq_of_beq_eq_true hb; cases h; rw [hji]; exact List.mem_cons_self
    | false => rw [hb] at h; exact List.mem_cons_of_mem _ (gd_lf_mem h)
/-- what the tables of a method say -/
def gd_MK (cc : ByteArray) (own : String) (f : Nat → Option (Instr × Nat)) (fl : Nat → Option (Nat × Nat × Bool)) (lc : Nat → Option Int64) : Prop :=
  (∀ pc q, f pc = some q → decode cc pc = .ok (q.1, gd_len q.1) ∧ gd_tg q.1 pc q.2 = true) ∧ (∀ x q, fl x = some q → ∃ (C : String) (T : u_T) (N : Nat), gd_cf q.1 C T N ∧ q.2.1 < N ∧ gd_lk own x (T q.2.1) ∧ (q.2.2 = true → (T q.2.1).2.2.2 = false)) ∧ ∀ x v, lc x = some v → Cond.constantLong own x v ∈ gd_all
theorem gd_mk {cc : ByteArray} {own : String} {ct : gd_K} {fl : gd_F} {lc : gd_L} (h : ∀ q ∈ ct, decode cc q.1 = .ok (q.2.1, gd_len q.2.1) ∧ gd_tg q.2.1 q.1 q.2.2 = true) (hf : gd_FB own fl) (hl : gd_LB own lc) : gd_MK cc own (gd_find ct) (gd_ff fl) (gd_lf lc) :=
  ⟨fun pc q hq => h (pc, q) (gd_find_mem hq), fun x q hq => hf (x, q) (gd_ff_mem hq), fun x v hv => hl (x, v) (gd_lf_mem hv)⟩
section GR
variable {p : Program} {l : Launch} {e : Env} {R : Room} {s : State} {m : MethodId} {args : Array Value} {below : List Frame} {meth : Method} {c : Code} {D : va_G} {tC : FieldType → ClassId} {ad : Nat → Nat} {A : Nat → Prop} {n nL cells slots : Nat} {Q : State → Prop} {cc : ByteArray} {own : String} {f : Nat → Option (Instr × Nat)} {fl : Nat → Option (Nat × Nat × Bool)} {lc : Nat → Option Int64}
set_option maxHeartbeats 1000000 in
theorem gd_hs_ok (E : gd_E p s m args c cc nL own D tC ad A n) (K : gd_MK cc own f fl lc) {q : Instr × Nat} {x y : gd_X} (hf : f x.1 = some q) (h : gd_hs n nL fl lc q.1 q.2 x = some y)
    (k : gd_G p l e R s m args below meth c D tC ad A n nL cells slots Q y.1 y.2.1 y.2.2.1 y.2.2.2) : gd_G p l e R s m args below meth c D tC ad A n nL cells slots Q x.1 x.2.1 x.2.2.1 x.2.2.2 := by
  obtain ⟨i, tgt⟩ := q
  obtain ⟨pc, lv, st, w⟩ := x
  obtain ⟨hd, ht⟩ := K.1 _ _ hf
  dsimp only at hd ht h ⊢
  unfold gd_hs at h
  split at h
  · dsimp only at h
    split at h
    · rename_i _ _ q kc st' hfa
      split at h
      · rename_i ci ty hs hty
        obtain ⟨hc, rfl⟩ := gd_bf h
        obtain ⟨h1, h2⟩ := (Bool.and_eq_true _ _).mp hc
        obtain ⟨C, T, N, g1, g2, g3, -⟩ := K.2.1 _ _ hfa
        have h2 := gd_beq h2
        subst h2
        exact gd_getf E hd g1 g2 g3 (gd_blt h1) hs hty k
      · cases h
    · cases h
  · dsimp only at h
    split at h
    · rename_i _ _ q v kc st' hfa
      split at h
      · rename_i ci hs hty
        obtain ⟨hc, rfl⟩ := gd_bf h
        obtain ⟨h0, h3⟩ := (Bool.and_eq_true _ _).mp hc
        obtain ⟨h1, h2⟩ := (Bool.and_eq_true _ _).mp h0
        obtain ⟨C, T, N, g1, g2, g3, g4⟩ := K.2.1 _ _ hfa
        have h2 := gd_beq h2
        subst h2
        exact gd_puti E hd g1 g2 g3 (g4 h3) (gd_blt h1) hs hty k
      · cases h
    · rename_i _ _ q v kc st' hfa
      split at h
      · rename_i ci hs hty
        obtain ⟨hc, rfl⟩ := gd_bf h
        obtain ⟨h0, h3⟩ := (Bool.and_eq_true _ _).mp hc
        obtain ⟨h1, h2⟩ := (Bool.and_eq_true _ _).mp h0
        obtain ⟨C, T, N, g1, g2, g3, g4⟩ := K.2.1 _ _ hfa
        have h2 := gd_beq h2
        subst h2
        exact gd_putl E hd g1 g2 g3 (g4 h3) (gd_blt h1) hs hty k
      · cases h
    · cases h
  · dsimp only at h
    split at h
    · rename_i a v hv
      cases h
      intro H locs ls hP hS hl
      exact lv_ldc2 E.1.1 E.1.2.1 E.1.2.2.2.1 (E.1.2.2.2.2 _ (K.2.2 _ _ hv)) hd (k H locs ls hP hS hl)
    · cases h
  · split at h
    · rename_i r hr
      cases h
      exact gd_ps_ok E.1.1 E.1.2.1 E.2.2.2.1 hd ht hr k
    · cases h
theorem gd_go (E : gd_E p s m args c cc nL own D tC ad A n) (K : gd_MK cc own f fl lc) : ∀ (k : Nat) {x y : gd_X}, gd_run n nL f fl lc k x = some y →
    gd_G p l e R s m args below meth c D tC ad A n nL cells slots Q y.1 y.2.1 y.2.2.1 y.2.2.2 → gd_G p l e R s m args below meth c D tC ad A n nL cells slots Q x.1 x.2.1 x.2.2.1 x.2.2.2
  | 0, x, y, h, k => by cases h; exact k
  | j + 1, x, y, h, k => by
    unfold gd_run at h
    split at h
    · rename_i q hf
      split at h
      · rename_i z hz
        exact gd_hs_ok E K hf hz (gd_go E K j h k)
      · cases h
    · cases h
/-- a straight stretch: k steps from here to there -/
theorem gd_r (E : gd_E p s m args c cc nL own D tC ad A n) (K : gd_MK cc own f fl lc) (k : Nat) {pc pc' : Nat} {lv lv' : List (Nat × Value)} {st st' : List Value} {w w' : gd_W} (h : gd_run n nL f fl lc k (pc, lv, st, w) = some (pc', lv', st', w'))
    (kk : gd_G p l e R s m args below meth c D tC ad A n nL cells slots Q pc' lv' st' w') : gd_G p l e R s m args below meth c D tC ad A n nL cells slots Q pc lv st w := gd_go E K k (x := (pc, lv, st, w)) (y := (pc', lv', st', w')) h kk
end GR
-- contracts: the method, begun with these arguments in this world, ends with this answer in that world, and makes no cell
def gd_rm (fr lo : Nat) : Room := { frames := fr, cells := 0, slots := 0, locals := lo }
def gd_A (ad : Nat → Nat) (n sz : Nat) : Nat → Prop := fun q => (∃ k, k < n ∧ q = ad k) ∨ sz ≤ q
def gd_Pre (D : va_G) (tC : FieldType → ClassId) (ad : Nat → Nat) (n sz : Nat) (w : gd_W) (U : State) : Prop := U.heap.size = sz ∧ va_P D gd_cl (gd_wl tC ad n w) U.heap ∧ va_K D gd_cl (gd_tys tC) U ∧ ∀ x ∈ gd_nw, va_Nw x U
def gd_Q (D : va_G) (tC : FieldType → ClassId) (ad : Nat → Nat) (n sz : Nat) (r : Option Value) (w' : gd_W) : Array Value → State → Outcome → State → Prop := fun _ st oc t => oc = .returned (r.map (gd_tr ad)) ∧ va_P D gd_cl (gd_wl tC ad n w') t.heap ∧ va_F (gd_A ad n sz) st t
def gd_Ct (l : Launch) (D : va_G) (tC : FieldType → ClassId) (ad : Nat → Nat) (n fr lo : Nat) (y : MethodName) (cc : ByteArray) (nL : Nat) (ret : Option FieldType) (av : List Value) (w : gd_W) (r : Option Value) (w' : gd_W) : Prop :=
  ∀ sz, Met l y (.code y cc nL ret :: gd_all) (gd_rm fr lo) (va_Pc (av.map (gd_tr ad)) (gd_Pre D tC ad n sz w)) (gd_Q D tC ad n sz r w') 0 0 (gd_A ad n sz)
theorem gd_largs (ad : Nat → Nat) : ∀ (av : List Value) (i : Nat), lv_args i (av.map (gd_tr ad)) = gd_lt ad (lv_args i av)
  | [], i => rfl
  | v :: av, i => by
    show (i, gd_tr ad v) :: lv_args (if (gd_tr ad v).category = 2 then i + 2 else i + 1) (av.map (gd_tr ad)) = _
    rw [gd_tr_cat, gd_largs ad av]
    rfl
theorem gd_sl_len (ad : Nat → Nat) (av : List Value) : (lg_sl (av.map (gd_tr ad))).length = (lg_sl av).length := by
  induction av with
  | nil => rfl
  | cons v av ih =>
    have e1 : lg_sl (List.map (gd_tr ad) (v :: av)) = lg_sl [gd_tr ad v] ++ lg_sl (List.map (gd_tr ad) av) := by simp [lg_sl]
    have e2 : lg_sl (v :: av) = lg_sl [v] ++ lg_sl av := by simp [lg_sl]
    rw [e1, e2, List.length_append, List.length_append, ih]
    congr 1
    simp [lg_sl, gd_tr_cat]
    split <;> rfl
theorem gd_DD {tC : FieldType → ClassId} {ad : Nat → Nat} {A : Nat → Prop} {n : Nat} (hinj : ∀ i j, ad i = ad j → i = j) (hA : ∀ k, k < n → A (ad k)) (w : gd_W) : va_D A (gd_wl tC ad n w) := by
  have key : ∀ (i : Nat) (q : Nat × va_E), (gd_wl tC ad n w)[i]? = some q → i < n ∧ q.1 = ad i := by
    intro i q h
    have hi : i < n := by
      have := (List.getElem?_eq_some_iff.mp h).1
      simpa [gd_wl] using this
    rw [gd_wl_at hi] at h
    cases h
    exact ⟨hi, rfl⟩
  refine ⟨fun i j a b ha hb hab => ?_, fun k q hk => ?_⟩
  · obtain ⟨-, e1⟩ := key i a ha
    obtain ⟨-, e2⟩ := key j b hb
    exact hinj i j (by rw [← e1, ← e2]; exact hab)
  · obtain ⟨h1, e1⟩ := key k q hk
    rw [e1]
    exact hA k h1
theorem gd_Ct_of {l : Launch} {D : va_G} {tC : FieldType → ClassId} {ad : Nat → Nat} {n fr lo : Nat} {y : MethodName} {cc : ByteArray} {nL : Nat} {ret : Option FieldType} {av : List Value} {w : gd_W} {r : Option Value} {w' : gd_W} (hy : plainName y.cls = true) (hinj : ∀ i j, ad i = ad j → i = j) (hn : (lg_sl av).length ≤ nL)
    (body : ∀ (p : Program) (e : Env) (s : State) (m : MethodId) (args : Array Value) (below : List Frame) (meth : Method) (c : Code), gd_E p s m args c cc nL y.cls D tC ad (gd_A ad n s.heap.size) n → meth.sig.returnType = ret → meth.locks = false →
      gd_G p l e (gd_rm fr lo) s m args below meth c D tC ad (gd_A ad n s.heap.size) n nL 0 0 (MQ below (gd_Q D tC ad n s.heap.size r w') args s 0 0 (gd_A ad n s.heap.size)) 0 (lv_args 0 av) [] w) : gd_Ct l D tC ad n fr lo y cc nL ret av w r w' := by
  intro sz
  refine Met.ofW (cc := cc) (maxL := nL) (ret := ret) hy rfl ?_
  intro p e s m args below meth c s₁ B hml hv
  obtain ⟨rfl, hsz, hP, hK, hN⟩ := hv
  have hts := atoms_spec (ws := .code y cc nL ret :: gd_all) B.pre
  subst hsz
  have E : gd_E p s m (av.map (gd_tr ad)).toArray c cc nL y.cls D tC ad (gd_A ad n s.heap.size) n := ⟨⟨B.exec, B.bytes, hml, findClass_of_methodNamed B.named, fun w hw => hts w (List.mem_cons_of_mem _ hw)⟩, hK, fun w => gd_DD hinj (fun k hk => Or.inl ⟨k, hk, rfl⟩) w, hinj, hN⟩
  have hl := lv_entry (av.map (gd_tr ad)) (n := nL) (by rw [gd_sl_len]; exact hn)
  rw [lg_entry_eq]
  rw [gd_largs] at hl
  exact body p e s m _ below meth c E B.returns B.notSynchronized s.heap [] _ hP va_S.rf hl
section GC
variable {p : Program} {l : Launch} {e : Env} {R : Room} {s : State} {m : MethodId} {args : Array Value} {below : List Frame} {meth : Method} {c : Code} {D : va_G} {tC : FieldType → ClassId} {ad : Nat → Nat} {A : Nat → Prop} {n nL cells slots : Nat} {Q : State → Prop} {pc : Nat} {lv : List (Nat × Value)} {st : List Value} {w : gd_W} {cc : ByteArray} {own : String}
theorem gd_iret (E : gd_E p s m args c cc nL own D tC ad (gd_A ad n s.heap.size) n) (hr : meth.sig.returnType = some .int) (hlk : meth.locks = false) (hd : decode cc pc = .ok (.ireturn, 1)) {v : Int32} : gd_G p l e R s m args below meth c D tC ad (gd_A ad n s.heap.size) n nL cells slots (MQ below (gd_Q D tC ad n s.heap.size (some (.int v)) w) args s cells slots (gd_A ad n s.heap.size)) pc lv [.int v] w :=
  fun H locs ls hP hS hl => W.iret E.1.1 E.1.2.1 hr (fun t ht _ => ⟨rfl, by rw [ht]; exact hP, hS.F ht⟩) hS.2.2 hd hlk
theorem gd_zret (E : gd_E p s m args c cc nL own D tC ad (gd_A ad n s.heap.size) n) (hr : meth.sig.returnType = some .boolean) (hlk : meth.locks = false) (hd : decode cc pc = .ok (.ireturn, 1)) {v : Int32} (hv : v = 0 ∨ v = 1) : gd_G p l e R s m args below meth c D tC ad (gd_A ad n s.heap.size) n nL cells slots (MQ below (gd_Q D tC ad n s.heap.size (some (.int v)) w) args s cells slots (gd_A ad n s.heap.size)) pc lv [.int v] w :=
  fun H locs ls hP hS hl => W.zret E.1.1 E.1.2.1 hr (by rcases hv with rfl | rfl <;> rfl) (fun t ht _ => ⟨rfl, by rw [ht]; exact hP, hS.F ht⟩) hS.2.2 hd hlk
theorem gd_lret (E : gd_E p s m args c cc nL own D tC ad (gd_A ad n s.heap.size) n) (hr : meth.sig.returnType = some .long) (hlk : meth.locks = false) (hd : decode cc pc = .ok (.lreturn, 1)) {v : Int64} : gd_G p l e R s m args below meth c D tC ad (gd_A ad n s.heap.size) n nL cells slots (MQ below (gd_Q D tC ad n s.heap.size (some (.long v)) w) args s cells slots (gd_A ad n s.heap.size)) pc lv [.long v] w :=
  fun H locs ls hP hS hl => W.lret E.1.1 E.1.2.1 hr (fun t ht _ => ⟨rfl, by rw [ht]; exact hP, hS.F ht⟩) hS.2.2 hd hlk
theorem gd_vret (E : gd_E p s m args c cc nL own D tC ad (gd_A ad n s.heap.size) n) (hr : meth.sig.returnType = none) (hlk : meth.locks = false) (hd : decode cc pc = .ok (.return_, 1)) : gd_G p l e R s m args below meth c D tC ad (gd_A ad n s.heap.size) n nL cells slots (MQ below (gd_Q D tC ad n s.heap.size none w) args s cells slots (gd_A ad n s.heap.size)) pc lv [] w :=
  fun H locs ls hP hS hl => W.vret E.1.1 E.1.2.1 hr (fun t ht _ => ⟨rfl, by rw [ht]; exact hP, hS.F ht⟩) hS.2.2 hd hlk
theorem gd_aret (E : gd_E p s m args c cc nL own D tC ad (gd_A ad n s.heap.size) n) {C : String} (hr : meth.sig.returnType = some (.object C)) (hlk : meth.locks = false) (hd : decode cc pc = .ok (.areturn, 1)) {v : Value} (hv : v = .null ∨ ∃ a, v = .ref a) : gd_G p l e R s m args below meth c D tC ad (gd_A ad n s.heap.size) n nL cells slots (MQ below (gd_Q D tC ad n s.heap.size (some v) w) args s cells slots (gd_A ad n s.heap.size)) pc lv [v] w :=
  fun H locs ls hP hS hl => W.aret E.1.1 E.1.2.1 hr (Or.inl ⟨C, rfl⟩) (by rcases hv with rfl | ⟨a, rfl⟩; exact Or.inl rfl; exact Or.inr ⟨_, rfl⟩) (fun t ht _ => ⟨rfl, by rw [ht]; exact hP, hS.F ht⟩) hS.2.2 hd hlk
/-- behind a call -/
theorem gd_back {sz : Nat} {w' : gd_W} {r : Option Value} {a : Array Value} {H : Heap} {locs : List Loc} {ls : Array Slot} {st0 rest : List Value} (hr : va_Run p l e R s m args below meth c H locs cells slots 0 0 (F0 m pc ls st0) (rest.map (gd_tr ad)) (gd_Q D tC ad n sz r w' a) (gd_A ad n sz)) (hsz : H.size = sz) (hA : ∀ q, gd_A ad n sz q → A q) (hS : va_S A s.heap H locs) (hl : lv_has ls nL (gd_lt ad lv))
    (kk : gd_G p l e R s m args below meth c D tC ad A n nL cells slots Q (pc + 3) lv (r.toList ++ rest) w') : W p l e R s m args below meth c H locs cells slots Q (F0 m pc ls st0) := by
  intro T hT X
  obtain ⟨v, st₀, t, T', L, h0, X', hL, e1, e2, ⟨hv, hP, hz, hk⟩, st⟩ := hr T hT X
  have hv : v = r.map (gd_tr ad) := Outcome.returned.inj hv
  subst hv
  rw [h0] at hz hk
  have hS1 : va_S A s.heap T'.heap (locs ++ L) := ⟨Nat.le_trans hS.1 (by rw [e1]; exact hz), fun q h1 h2 => by rw [e1, hk q (Nat.lt_of_lt_of_le h1 hS.1) (fun z => h2 (hA q z))]; exact hS.2.1 q h1 h2, fun q hq => by
    rcases List.mem_append.mp hq with h | h
    · exact hS.2.2 q h
    · exact hA _ (hL q h)⟩
  obtain ⟨t2, a1, b1⟩ := kk T'.heap (locs ++ L) ls (by rw [e1]; exact hP) hS1 hl T' rfl X'
  refine ⟨t2, st t2 ?_, b1⟩
  have e3 : (r.toList ++ rest).map (gd_tr ad) = (r.map (gd_tr ad)).toList ++ rest.map (gd_tr ad) := by cases r <;> simp
  rw [e3] at a1
  exact a1
theorem gd_warm {x : Cond} (hx : gd_nest x = true) {u U : State} (hW : u.WarmedH U.vm) (h : va_Nw x u) : va_Nw x U := by
  cases x <;> simp [gd_nest] at hx
  · exact va_Nw.warmM hW h
  · exact va_Nw.warmF hW h
theorem gd_blind {av : List Value} {sz : Nat} (hnw : ∀ x ∈ gd_nw, gd_nest x = true ∧ x.onTables = true) : FrameBlind (va_Pc av (gd_Pre D tC ad n sz w)) := by
  intro a U g mk q
  obtain ⟨q0, q1, qP, qK, qN⟩ := q
  exact ⟨q0, q1, qP, va_K.moved (u := U) (U := U.calling g mk a) (Vm.Alike.refl U.vm) qK, fun x hx => va_Nw.same (u := U) (U := U.calling g mk a) (hnw x hx).2 rfl (qN x hx)⟩
theorem gd_pre {H : Heap} (E : gd_E p s m args c cc nL own D tC ad A n) (hnw : ∀ x ∈ gd_nw, gd_nest x = true ∧ x.onTables = true) (hP : va_P D gd_cl (gd_wl tC ad n w) H) {av : List Value} : ∀ U : State, U.heap = H → s.WarmedH U.vm → va_Pc (av.map (gd_tr ad)) (gd_Pre D tC ad n H.size w) (av.map (gd_tr ad)).toArray U := by
  intro U hU hW
  exact ⟨rfl, by rw [hU], by rw [hU]; exact hP, va_K.moved hW.alike E.2.1, fun x hx => gd_warm (hnw x hx).1 hW (E.2.2.2.2 x hx)⟩
theorem gd_gin {y : MethodName} {bytes : ByteArray} {maxL : Nat} {ret : Option FieldType} (hg : GoodIn gd_all gd_all) (hc : Cond.code y bytes maxL ret ∈ gd_all) : GoodIn gd_all (.code y bytes maxL ret :: gd_all) := by
  intro w hw
  rcases List.mem_cons.mp hw with rfl | h
  · exact hg _ hc
  · exact hg _ h
end GC
end
section
section GI
variable {p : Program} {l : Launch} {e : Env} {R : Room} {s : State} {m : MethodId} {args : Array Value} {below : List Frame} {meth : Method} {c : Code} {D : va_G} {tC : FieldType → ClassId} {ad : Nat → Nat} {A : Nat → Prop} {n nL cells slots : Nat} {Q : State → Prop} {pc : Nat} {lv : List (Nat × Value)} {st : List Value} {w : gd_W} {cc : ByteArray} {own : String}
theorem gd_sum {rest : List Value} (h : (rest.map fun v => v.category).sum ≤ 8) : ((rest.map (gd_tr ad)).map fun v => v.category).sum ≤ 8 := by
  have e1 : (rest.map (gd_tr ad)).map (fun v => v.category) = rest.map fun v => v.category := by
    rw [List.map_map]
    exact List.map_congr_left fun v _ => gd_tr_cat ad v
  rw [e1]
  exact h
theorem gd_AA {A : Nat → Prop} {sz sz' : Nat} (hA : ∀ q, gd_A ad n sz q → A q) (h : sz ≤ sz') : ∀ q, gd_A ad n sz' q → A q := fun q hq => hA q (hq.elim Or.inl (fun z => Or.inr (Nat.le_trans h z)))
set_option maxHeartbeats 1000000 in
/-- invokevirtual -/
theorem gd_cV (E : gd_E p s m args c cc nL own D tC ad A n) (hA : ∀ q, gd_A ad n s.heap.size q → A q) {y : MethodName} {bytes : ByteArray} {maxL fr lo k idx ci : Nat} {ret : Option FieldType} {av rest : List Value} {r : Option Value} {w' : gd_W} (hc : gd_Ct l D tC ad n fr lo y bytes maxL ret (.ref k :: av) w r w') (hd : decode cc pc = .ok (.invokevirtual idx, 3)) (hl : gd_ml own idx y)
    (hcv : gd_CV y bytes maxL ret ci av.length) (hk : k < n) (hs : gd_sh k = .inl ci) (hR : fr + 1 ≤ R.frames ∧ 8 + (maxL + 11) + lo ≤ R.locals) (hcs : cells ≤ R.cells ∧ slots ≤ R.slots) (hst : st = av.reverse ++ .ref k :: rest) (hsum : (rest.map fun v => v.category).sum ≤ 8)
    (kk : gd_G p l e R s m args below meth c D tC ad A n nL cells slots Q (pc + 3) lv (r.toList ++ rest) w') : gd_G p l e R s m args below meth c D tC ad A n nL cells slots Q pc lv st w := by
  intro H locs ls hP hS hv
  have hst' : st.map (gd_tr ad) = (av.map (gd_tr ad)).reverse ++ .ref (ad k) :: rest.map (gd_tr ad) := by rw [hst]; simp [gd_tr]
  have he : (gd_wl tC ad n w)[k]? = some (ad k, .inr (ci, gd_fs ad w k (gd_ft ci))) := by rw [gd_wl_at hk, hs]; rfl
  have hts := E.1.2.2.2.2
  obtain ⟨⟨h1, h2, h3, h4⟩, ⟨T, N, hcl⟩, hy⟩ := hcv
  have hp : PreV s H y.cls (ad k) (va_Pc ((Value.ref k :: av).map (gd_tr ad)) (gd_Pre D tC ad n H.size w)) (av.map (gd_tr ad)) := ⟨gd_blind gd_nwk, va_recv E.2.1 hP hcl he, gd_pre E gd_nwk hP (av := .ref k :: av)⟩
  have hg := gd_gin gd_good h4
  rcases hl with h0 | ⟨host, h0⟩
  · have cw : CallW R s args own y.cls idx y bytes maxL ret (.code y bytes maxL ret :: gd_all) (gd_rm fr lo) 0 0 av.length := ⟨callB_of av.length hts hg rfl rfl rfl (hts _ h3) (hts _ h0) hy hR, hts _ h1, hts _ h2⟩
    rw [hst']
    exact gd_back (va_runV E.1 (hc H.size) cw hp rfl (by simp) hv.1 rfl (lv_room (gd_sum hsum)) hd hcs) rfl (gd_AA hA hS.1) hS hv kk
  · have cw : va_CN R s args own idx y host bytes maxL ret (.code y bytes maxL ret :: gd_all) (gd_rm fr lo) 0 0 av.length ∧ (Cond.instanceMethod y).before args s = true ∧ (Cond.selects y.cls y y).before args s = true := ⟨va_cnB av.length hts hg rfl rfl rfl (E.2.2.2.2 _ h0) (hts _ h3) hy hR, hts _ h1, hts _ h2⟩
    rw [hst']
    exact gd_back (va_runVN E.1 (hc H.size) cw hp rfl (by simp) hv.1 rfl (lv_room (gd_sum hsum)) hd hcs) rfl (gd_AA hA hS.1) hS hv kk
set_option maxHeartbeats 1000000 in
/-- invokestatic -/
theorem gd_cS (E : gd_E p s m args c cc nL own D tC ad A n) (hA : ∀ q, gd_A ad n s.heap.size q → A q) {y : MethodName} {bytes : ByteArray} {maxL fr lo idx : Nat} {ret : Option FieldType} {av rest : List Value} {r : Option Value} {w' : gd_W} (hc : gd_Ct l D tC ad n fr lo y bytes maxL ret av w r w') (hd : decode cc pc = .ok (.invokestatic idx, 3)) (hl : gd_ml own idx y)
    (hcv : gd_CS y bytes maxL ret av.length) (hR : fr + 1 ≤ R.frames ∧ 8 + (maxL + 11) + lo ≤ R.locals) (hcs : cells ≤ R.cells ∧ slots ≤ R.slots) (hst : st = av.reverse ++ rest) (hsum : (rest.map fun v => v.category).sum ≤ 8)
    (kk : gd_G p l e R s m args below meth c D tC ad A n nL cells slots Q (pc + 3) lv (r.toList ++ rest) w') : gd_G p l e R s m args below meth c D tC ad A n nL cells slots Q pc lv st w := by
  intro H locs ls hP hS hv
  have hst' : st.map (gd_tr ad) = (av.map (gd_tr ad)).reverse ++ rest.map (gd_tr ad) := by rw [hst]; simp
  have hts := E.1.2.2.2.2
  obtain ⟨⟨h1, h3, h4⟩, hy⟩ := hcv
  have hp : PreS s H (va_Pc (av.map (gd_tr ad)) (gd_Pre D tC ad n H.size w)) (av.map (gd_tr ad)) := ⟨gd_blind gd_nwk, gd_pre E gd_nwk hP (av := av)⟩
  have hg := gd_gin gd_good h4
  rcases hl with h0 | ⟨host, h0⟩
  · have cw : CallB R s args own idx y bytes maxL ret (.code y bytes maxL ret :: gd_all) (gd_rm fr lo) 0 0 av.length ∧ (Cond.static y).before args s = true := ⟨callB_of av.length hts hg rfl rfl rfl (hts _ h3) (hts _ h0) hy hR, hts _ h1⟩
    rw [hst']
    exact gd_back (va_runS E.1 (hc H.size) cw hp rfl (by simp) hv.1 rfl (lv_room (gd_sum hsum)) hd hcs) rfl (gd_AA hA hS.1) hS hv kk
  · have cw : va_CN R s args own idx y host bytes maxL ret (.code y bytes maxL ret :: gd_all) (gd_rm fr lo) 0 0 av.length ∧ (Cond.static y).before args s = true ∧ True := ⟨va_cnB av.length hts hg rfl rfl rfl (E.2.2.2.2 _ h0) (hts _ h3) hy hR, hts _ h1, trivial⟩
    rw [hst']
    exact gd_back (va_runSN E.1 (hc H.size) cw hp rfl (by simp) hv.1 rfl (lv_room (gd_sum hsum)) hd hcs) rfl (gd_AA hA hS.1) hS hv kk
end GI
end
section
section GX
variable {p : Program} {l : Launch} {e : Env} {R : Room} {s : State} {m : MethodId} {args : Array Value} {below : List Frame} {meth : Method} {c : Code} {D : va_G} {tC : FieldType → ClassId} {ad : Nat → Nat} {A : Nat → Prop} {n nL cells slots : Nat} {Q : State → Prop} {pc : Nat} {lv : List (Nat × Value)} {st : List Value} {w : gd_W} {cc : ByteArray} {own : String}
theorem gd_it {q : Prop} {d : Decidable q} {a b : Nat} (h : q) (k : gd_G p l e R s m args below meth c D tC ad A n nL cells slots Q a lv st w) : gd_G p l e R s m args below meth c D tC ad A n nL cells slots Q (@ite _ q d a b) lv st w := by
  rw [if_pos h]; exact k
theorem gd_if {q : Prop} {d : Decidable q} {a b : Nat} (h : ¬ q) (k : gd_G p l e R s m args below meth c D tC ad A n nL cells slots Q b lv st w) : gd_G p l e R s m args below meth c D tC ad A n nL cells slots Q (@ite _ q d a b) lv st w := by
  rw [if_neg h]; exact k
/-- fewer locals -/
theorem gd_lv {lv' : List (Nat × Value)} (h : ∀ q ∈ lv', q ∈ lv) (k : gd_G p l e R s m args below meth c D tC ad A n nL cells slots Q pc lv' st w) : gd_G p l e R s m args below meth c D tC ad A n nL cells slots Q pc lv st w := by
  intro H locs ls hP hS hl
  refine k H locs ls hP hS (gd_has_sub hl fun q hq => ?_)
  obtain ⟨x, hx, rfl⟩ := List.mem_map.mp hq
  exact List.mem_map.mpr ⟨x, h x hx, rfl⟩
/-- the same place, written otherwise -/
theorem gd_cg {lv' : List (Nat × Value)} {st' : List Value} {w' : gd_W} (k : gd_G p l e R s m args below meth c D tC ad A n nL cells slots Q pc lv' st' w') (h1 : lv = lv' := by rfl) (h2 : st = st' := by rfl) (h3 : w = w' := by rfl) : gd_G p l e R s m args below meth c D tC ad A n nL cells slots Q pc lv st w := by
  subst h1; subst h2; subst h3; exact k
theorem gd_alen (E : gd_E p s m args c cc nL own D tC ad A n) {k len t0 : Nat} {ty : FieldType} (hd : decode cc pc = .ok (.arraylength, 1)) (hk : k < n) (hs : gd_sh k = .inr (ty, len)) (ht : (gd_tys tC)[t0]? = some (tC ty, ty))
    (kk : gd_G p l e R s m args below meth c D tC ad A n nL cells slots Q (pc + 1) lv (.int (nI len) :: st) w) : gd_G p l e R s m args below meth c D tC ad A n nL cells slots Q pc lv (.ref k :: st) w := by
  intro H locs ls hP hS hl
  obtain ⟨⟨hx, hb, hml, hown, hts⟩, hK, hDD, hinj, hN⟩ := E
  have he : (gd_wl tC ad n w)[k]? = some (ad k, .inl (tC ty, len, gd_ar ad w k ty)) := by rw [gd_wl_at hk, hs]; rfl
  exact va_alen hx hb hK hP k t0 he ht (v := nI len) rfl hd (kk H locs ls hP hS hl)
theorem gd_iretq (E : gd_E p s m args c cc nL own D tC ad (gd_A ad n s.heap.size) n) (hr : meth.sig.returnType = some .int) (hlk : meth.locks = false) (hd : decode cc pc = .ok (.ireturn, 1)) {v v' : Int32} {w' : gd_W} (hv : v' = v) (hw : w' = w) : gd_G p l e R s m args below meth c D tC ad (gd_A ad n s.heap.size) n nL cells slots (MQ below (gd_Q D tC ad n s.heap.size (some (.int v')) w') args s cells slots (gd_A ad n s.heap.size)) pc lv [.int v] w := by
  subst hv; subst hw; exact gd_iret E hr hlk hd
theorem gd_zretq (E : gd_E p s m args c cc nL own D tC ad (gd_A ad n s.heap.size) n) (hr : meth.sig.returnType = some .boolean) (hlk : meth.locks = false) (hd : decode cc pc = .ok (.ireturn, 1)) {v v' : Int32} {w' : gd_W} (h01 : v = 0 ∨ v = 1) (hv : v' = v) (hw : w' = w) : gd_G p l e R s m args below meth c D tC ad (gd_A ad n s.heap.size) n nL cells slots (MQ below (gd_Q D tC ad n s.heap.size (some (.int v')) w') args s cells slots (gd_A ad n s.heap.size)) pc lv [.int v] w := by
  subst hv; subst hw; exact gd_zret E hr hlk hd h01
theorem gd_lretq (E : gd_E p s m args c cc nL own D tC ad (gd_A ad n s.heap.size) n) (hr : meth.sig.returnType = some .long) (hlk : meth.locks = false) (hd : decode cc pc = .ok (.lreturn, 1)) {v v' : Int64} {w' : gd_W} (hv : v' = v) (hw : w' = w) : gd_G p l e R s m args below meth c D tC ad (gd_A ad n s.heap.size) n nL cells slots (MQ below (gd_Q D tC ad n s.heap.size (some (.long v')) w') args s cells slots (gd_A ad n s.heap.size)) pc lv [.long v] w := by
  subst hv; subst hw; exact gd_lret E hr hlk hd
theorem gd_vretq (E : gd_E p s m args c cc nL own D tC ad (gd_A ad n s.heap.size) n) (hr : meth.sig.returnType = none) (hlk : meth.locks = false) (hd : decode cc pc = .ok (.return_, 1)) {w' : gd_W} (hw : w' = w) : gd_G p l e R s m args below meth c D tC ad (gd_A ad n s.heap.size) n nL cells slots (MQ below (gd_Q D tC ad n s.heap.size none w') args s cells slots (gd_A ad n s.heap.size)) pc lv [] w := by
  subst hw; exact gd_vret E hr hlk hd
theorem gd_aretq (E : gd_E p s m args c cc nL own D tC ad (gd_A ad n s.heap.size) n) {C : String} (hr : meth.sig.returnType = some (.object C)) (hlk : meth.locks = false) (hd : decode cc pc = .ok (.areturn, 1)) {v v' : Value} {w' : gd_W} (h01 : v = .null ∨ ∃ a, v = .ref a) (hv : v' = v) (hw : w' = w) : gd_G p l e R s m args below meth c D tC ad (gd_A ad n s.heap.size) n nL cells slots (MQ below (gd_Q D tC ad n s.heap.size (some v') w') args s cells slots (gd_A ad n s.heap.size)) pc lv [v] w := by
  subst hv; subst hw; exact gd_aret E hr hlk hd h01
theorem gd_tabIn (E : gd_E p s m args c cc nL own D tC ad A n) {dflt lo hi off : Int} {offs : Array Int} {len tgt : Nat} {x : Int32} (hd : decode cc pc = .ok (.tableswitch dflt lo hi offs, len)) (h1 : ¬ x.toInt < lo) (h2 : ¬ hi < x.toInt) (ho : offs[(x.toInt - lo).toNat]? = some off) (ht : (pc : Int) + off = (tgt : Int))
    (kk : gd_G p l e R s m args below meth c D tC ad A n nL cells slots Q tgt lv st w) : gd_G p l e R s m args below meth c D tC ad A n nL cells slots Q pc lv (.int x :: st) w :=
  fun H locs ls hP hS hl => lv_tableIn E.1.1 E.1.2.1 hd h1 h2 ho ht (kk H locs ls hP hS hl)
theorem gd_tabOut (E : gd_E p s m args c cc nL own D tC ad A n) {dflt lo hi : Int} {offs : Array Int} {len tgt : Nat} {x : Int32} (hd : decode cc pc = .ok (.tableswitch dflt lo hi offs, len)) (h : x.toInt < lo ∨ hi < x.toInt) (ht : (pc : Int) + dflt = (tgt : Int))
    (kk : gd_G p l e R s m args below meth c D tC ad A n nL cells slots Q tgt lv st w) : gd_G p l e R s m args below meth c D tC ad A n nL cells slots Q pc lv (.int x :: st) w :=
  fun H locs ls hP hS hl => lv_tableOut E.1.1 E.1.2.1 hd h ht (kk H locs ls hP hS hl)
end GX
end
section
def ct_D_allEven : gd_K := [(0, .lconst 0, 0), (1, .lstore_n 1, 0), (2, .iconst 0, 0), (3, .istore_n 3, 0), (4, .iload_n 3, 0), (5, .iconst 4, 0), (6, .if_icmp .ge 18, 24), (9, .lload_n 1, 0), (10, .aload_n 0, 0), (11, .getfield 15, 0), (14, .iload_n 3, 0), (15, .laload, 0), (16, .lor, 0), (17, .lstore_n 1, 0), (18, .iinc 3 1, 0), (21, .goto (-17), 4), (24, .lload_n 1, 0), (25, .lconst 1, 0), (26, .land, 0), (27, .lconst 0, 0), (28, .lcmp, 0), (29, .ifCond .ne 7, 36), (32, .iconst 1, 0), (33, .goto 4, 37), (36, .iconst 0, 0), (37, .ireturn, 0)]
set_option maxRecDepth 100000 in
theorem k_D_allEven : gd_MK c_D_allEven R_D (gd_find ct_D_allEven) (gd_ff fl_D) (gd_lf lc_D) := gd_mk (by decide +kernel) fb_D lb_D
def ct_D_comeToBe : gd_K := [(0, .aload_n 0, 0), (1, .iload_n 1, 0), (2, .putfield 19, 0), (5, .aload_n 0, 0), (6, .iload_n 2, 0), (7, .putfield 23, 0), (10, .aload_n 0, 0), (11, .iconst 1, 0), (12, .putfield 26, 0), (15, .aload_n 0, 0), (16, .iconst 0, 0), (17, .putfield 32, 0), (20, .aload_n 0, 0), (21, .iconst 0, 0), (22, .putfield 35, 0), (25, .aload_n 0, 0), (26, .iconst (-1), 0), (27, .putfield 38, 0), (30, .aload_n 0, 0), (31, .iconst (-1), 0), (32, .putfield 41, 0), (35, .aload_n 0, 0), (36, .iconst 0, 0), (37, .putfield 44, 0), (40, .return_, 0)]
set_option maxRecDepth 100000 in
theorem k_D_comeToBe : gd_MK c_D_comeToBe R_D (gd_find ct_D_comeToBe) (gd_ff fl_D) (gd_lf lc_D) := gd_mk (by decide +kernel) fb_D lb_D
def ct_D_fillLike : gd_K := [(0, .aload_n 1, 0), (1, .getfield 15, 0), (4, .iconst 0, 0), (5, .aload_n 0, 0), (6, .getfield 15, 0), (9, .iconst 0, 0), (10, .iconst 4, 0), (11, .invokestatic 54, 0), (14, .aload_n 0, 0), (15, .aload_n 1, 0), (16, .getfield 29, 0), (19, .putfield 29, 0), (22, .return_, 0)]
set_option maxRecDepth 100000 in
theorem k_D_fillLike : gd_MK c_D_fillLike R_D (gd_find ct_D_fillLike) (gd_ff fl_D) (gd_lf lc_D) := gd_mk (by decide +kernel) fb_D lb_D
def ct_D_fillWith : gd_K := [(0, .aload_n 0, 0), (1, .getfield 15, 0), (4, .lconst 0, 0), (5, .invokestatic 48, 0), (8, .aload_n 0, 0), (9, .getfield 15, 0), (12, .iload_n 1, 0), (13, .lconst 1, 0), (14, .lastore, 0), (15, .aload_n 0, 0), (16, .iconst 0, 0), (17, .putfield 29, 0), (20, .return_, 0)]
set_option maxRecDepth 100000 in
theorem k_D_fillWith : gd_MK c_D_fillWith R_D (gd_find ct_D_fillWith) (gd_ff fl_D) (gd_lf lc_D) := gd_mk (by decide +kernel) fb_D lb_D
def ct_D_init : gd_K := [(0, .aload_n 0, 0), (1, .invokespecial 3, 0), (4, .aload_n 0, 0), (5, .bipush 60, 0), (7, .newarray .int, 0), (9, .putfield 9, 0), (12, .aload_n 0, 0), (13, .iconst 4, 0), (14, .newarray .long, 0), (16, .putfield 15, 0), (19, .aload_n 0, 0), (20, .iconst (-1), 0), (21, .putfield 19, 0), (24, .aload_n 0, 0), (25, .iconst 0, 0), (26, .putfield 23, 0), (29, .aload_n 0, 0), (30, .iconst 0, 0), (31, .putfield 26, 0), (34, .aload_n 0, 0), (35, .iconst 0, 0), (36, .putfield 29, 0), (39, .aload_n 0, 0), (40, .iconst 0, 0), (41, .putfield 32, 0), (44, .aload_n 0, 0), (45, .iconst 0, 0), (46, .putfield 35, 0), (49, .aload_n 0, 0), (50, .iconst (-1), 0), (51, .putfield 38, 0), (54, .aload_n 0, 0), (55, .iconst (-1), 0), (56, .putfield 41, 0), (59, .aload_n 0, 0), (60, .iconst 0, 0), (61, .putfield 44, 0), (64, .return_, 0)]
set_option maxRecDepth 100000 in
theorem k_D_init : gd_MK c_D_init R_D (gd_find ct_D_init) (gd_ff fl_D) (gd_lf lc_D) := gd_mk (by decide +kernel) fb_D lb_D
def ct_D_isFree : gd_K := [(0, .aload_n 0, 0), (1, .invokevirtual 60, 0), (4, .ifCond .ne 15, 19), (7, .aload_n 0, 0), (8, .getfield 41, 0), (11, .iconst (-1), 0), (12, .if_icmp .ne 7, 19), (15, .iconst 1, 0), (16, .goto 4, 20), (19, .iconst 0, 0), (20, .ireturn, 0)]
set_option maxRecDepth 100000 in
theorem k_D_isFree : gd_MK c_D_isFree R_D (gd_find ct_D_isFree) (gd_ff fl_D) (gd_lf lc_D) := gd_mk (by decide +kernel) fb_D lb_D
def ct_D_lowerExponent : gd_K := [(0, .aload_n 0, 0), (1, .getfield 29, 0), (4, .ifCond .le 50, 54), (7, .aload_n 0, 0), (8, .invokevirtual 78, 0), (11, .ifCond .eq 43, 54), (14, .iconst 0, 0), (15, .istore_n 1, 0), (16, .iload_n 1, 0), (17, .iconst 4, 0), (18, .if_icmp .ge 23, 41), (21, .aload_n 0, 0), (22, .getfield 15, 0), (25, .iload_n 1, 0), (26, .aload_n 0, 0), (27, .getfield 15, 0), (30, .iload_n 1, 0), (31, .laload, 0), (32, .iconst 1, 0), (33, .lshr, 0), (34, .lastore, 0), (35, .iinc 1 1, 0), (38, .goto (-22), 16), (41, .aload_n 0, 0), (42, .dup, 0), (43, .getfield 29, 0), (46, .iconst 1, 0), (47, .isub, 0), (48, .putfield 29, 0), (51, .goto (-51), 0), (54, .return_, 0)]
set_option maxRecDepth 100000 in
theorem k_D_lowerExponent : gd_MK c_D_lowerExponent R_D (gd_find ct_D_lowerExponent) (gd_ff fl_D) (gd_lf lc_D) := gd_mk (by decide +kernel) fb_D lb_D
def ct_D_makeMove : gd_K := [(0, .aload_n 0, 0), (1, .iconst 0, 0), (2, .putfield 44, 0), (5, .aload_n 0, 0), (6, .getfield 35, 0), (9, .aload_n 0, 0), (10, .getfield 32, 0), (13, .if_icmp .ge 54, 67), (16, .aload_n 0, 0), (17, .aload_n 0, 0), (18, .getfield 9, 0), (21, .aload_n 0, 0), (22, .getfield 35, 0), (25, .iaload, 0), (26, .ifCond .eq 7, 33), (29, .iconst 1, 0), (30, .goto 4, 34), (33, .iconst 0, 0), (34, .putfield 44, 0), (37, .aload_n 0, 0), (38, .aload_n 0, 0), (39, .getfield 23, 0), (42, .aload_n 0, 0), (43, .getfield 9, 0), (46, .aload_n 0, 0), (47, .getfield 35, 0), (50, .iaload, 0), (51, .invokestatic 64, 0), (54, .putfield 23, 0), (57, .aload_n 0, 0), (58, .dup, 0), (59, .getfield 35, 0), (62, .iconst 1, 0), (63, .iadd, 0), (64, .putfield 35, 0), (67, .return_, 0)]
set_option maxRecDepth 100000 in
theorem k_D_makeMove : gd_MK c_D_makeMove R_D (gd_find ct_D_makeMove) (gd_ff fl_D) (gd_lf lc_D) := gd_mk (by decide +kernel) fb_D lb_D
def ct_D_movesLeft : gd_K := [(0, .aload_n 0, 0), (1, .getfield 32, 0), (4, .aload_n 0, 0), (5, .getfield 35, 0), (8, .isub, 0), (9, .ireturn, 0)]
set_option maxRecDepth 100000 in
theorem k_D_movesLeft : gd_MK c_D_movesLeft R_D (gd_find ct_D_movesLeft) (gd_ff fl_D) (gd_lf lc_D) := gd_mk (by decide +kernel) fb_D lb_D
def ct_D_placeAfter : gd_K := [(0, .aload_n 0, 0), (1, .invokevirtual 60, 0), (4, .istore_n 2, 0), (5, .aload_n 0, 0), (6, .getfield 38, 0), (9, .iconst (-1), 0), (10, .if_icmp .eq 10, 20), (13, .iload_n 1, 0), (14, .iload_n 2, 0), (15, .if_icmp .lt 5, 20), (18, .iconst (-1), 0), (19, .ireturn, 0), (20, .aload_n 0, 0), (21, .getfield 23, 0), (24, .istore_n 3, 0), (25, .iconst 0, 0), (26, .istore 4, 0), (28, .iload 4, 0), (30, .iload_n 2, 0), (31, .if_icmp .ge 32, 63), (34, .iload 4, 0), (36, .iload_n 1, 0), (37, .if_icmp .ge 26, 63), (40, .iload_n 3, 0), (41, .aload_n 0, 0), (42, .getfield 9, 0), (45, .aload_n 0, 0), (46, .getfield 35, 0), (49, .iload 4, 0), (51, .iadd, 0), (52, .iaload, 0), (53, .invokestatic 64, 0), (56, .istore_n 3, 0), (57, .iinc 4 1, 0), (60, .goto (-32), 28), (63, .iload_n 3, 0), (64, .ireturn, 0)]
set_option maxRecDepth 100000 in
theorem k_D_placeAfter : gd_MK c_D_placeAfter R_D (gd_find ct_D_placeAfter) (gd_ff fl_D) (gd_lf lc_D) := gd_mk (by decide +kernel) fb_D lb_D
def ct_D_takeIn : gd_K := [(0, .aload_n 0, 0), (1, .getfield 29, 0), (4, .aload_n 1, 0), (5, .getfield 29, 0), (8, .invokestatic 70, 0), (11, .istore_n 2, 0), (12, .iconst 0, 0), (13, .istore_n 3, 0), (14, .iload_n 3, 0), (15, .iconst 4, 0), (16, .if_icmp .ge 42, 58), (19, .aload_n 0, 0), (20, .getfield 15, 0), (23, .iload_n 3, 0), (24, .aload_n 0, 0), (25, .getfield 15, 0), (28, .iload_n 3, 0), (29, .laload, 0), (30, .iload_n 2, 0), (31, .aload_n 0, 0), (32, .getfield 29, 0), (35, .isub, 0), (36, .lshl, 0), (37, .aload_n 1, 0), (38, .getfield 15, 0), (41, .iload_n 3, 0), (42, .laload, 0), (43, .iload_n 2, 0), (44, .aload_n 1, 0), (45, .getfield 29, 0), (48, .isub, 0), (49, .lshl, 0), (50, .ladd, 0), (51, .lastore, 0), (52, .iinc 3 1, 0), (55, .goto (-41), 14), (58, .aload_n 0, 0), (59, .iload_n 2, 0), (60, .iconst 1, 0), (61, .iadd, 0), (62, .putfield 29, 0), (65, .aload_n 0, 0), (66, .invokevirtual 75, 0), (69, .aload_n 0, 0), (70, .dup, 0), (71, .getfield 26, 0), (74, .aload_n 1, 0), (75, .getfield 26, 0), (78, .iadd, 0), (79, .putfield 26, 0), (82, .aload_n 0, 0), (83, .iconst (-1), 0), (84, .putfield 41, 0), (87, .return_, 0)]
set_option maxRecDepth 100000 in
theorem k_D_takeIn : gd_MK c_D_takeIn R_D (gd_find ct_D_takeIn) (gd_ff fl_D) (gd_lf lc_D) := gd_mk (by decide +kernel) fb_D lb_D
def ct_D_takeRoute : gd_K := [(0, .aload_n 0, 0), (1, .iload_n 1, 0), (2, .putfield 32, 0), (5, .aload_n 0, 0), (6, .iconst 0, 0), (7, .putfield 35, 0), (10, .return_, 0)]
set_option maxRecDepth 100000 in
theorem k_D_takeRoute : gd_MK c_D_takeRoute R_D (gd_find ct_D_takeRoute) (gd_ff fl_D) (gd_lf lc_D) := gd_mk (by decide +kernel) fb_D lb_D
def ct_F_clearFrom : gd_K := [(0, .bipush 61, 0), (2, .istore_n 2, 0), (3, .iload_n 2, 0), (4, .ifCond .le 26, 30), (7, .aload_n 0, 0), (8, .iload_n 2, 0), (9, .iconst 1, 0), (10, .isub, 0), (11, .invokevirtual 58, 0), (14, .iload_n 1, 0), (15, .invokestatic 37, 0), (18, .land, 0), (19, .lconst 0, 0), (20, .lcmp, 0), (21, .ifCond .ne 9, 30), (24, .iinc 2 (-1), 0), (27, .goto (-24), 3), (30, .iload_n 2, 0), (31, .ireturn, 0)]
set_option maxRecDepth 100000 in
theorem k_F_clearFrom : gd_MK c_F_clearFrom R_F (gd_find ct_F_clearFrom) (gd_ff fl_F) (gd_lf lc_F) := gd_mk (by decide +kernel) fb_F lb_F
def ct_F_everShut : gd_K := [(0, .lconst 0, 0), (1, .lstore_n 1, 0), (2, .iconst 0, 0), (3, .istore_n 3, 0), (4, .iload_n 3, 0), (5, .bipush 60, 0), (7, .if_icmp .gt 18, 25), (10, .lload_n 1, 0), (11, .aload_n 0, 0), (12, .getfield 9, 0), (15, .iload_n 3, 0), (16, .laload, 0), (17, .lor, 0), (18, .lstore_n 1, 0), (19, .iinc 3 1, 0), (22, .goto (-18), 4), (25, .lload_n 1, 0), (26, .invokestatic 54, 0), (29, .lreturn, 0)]
set_option maxRecDepth 100000 in
theorem k_F_everShut : gd_MK c_F_everShut R_F (gd_find ct_F_everShut) (gd_ff fl_F) (gd_lf lc_F) := gd_mk (by decide +kernel) fb_F lb_F
def ct_F_forget : gd_K := [(0, .aload_n 0, 0), (1, .getfield 9, 0), (4, .lconst 0, 0), (5, .invokestatic 18, 0), (8, .return_, 0)]
set_option maxRecDepth 100000 in
theorem k_F_forget : gd_MK c_F_forget R_F (gd_find ct_F_forget) (gd_ff fl_F) (gd_lf lc_F) := gd_mk (by decide +kernel) fb_F lb_F
def ct_F_heed : gd_K := [(0, .aload_n 1, 0), (1, .invokevirtual 24, 0), (4, .istore_n 2, 0), (5, .aload_n 1, 0), (6, .getfield 30, 0), (9, .iconst (-1), 0), (10, .if_icmp .ne 8, 18), (13, .bipush 61, 0), (15, .goto 4, 19), (18, .iload_n 2, 0), (19, .istore_n 3, 0), (20, .aload_n 1, 0), (21, .getfield 34, 0), (24, .istore 4, 0), (26, .iconst 0, 0), (27, .istore 5, 0), (29, .iload 5, 0), (31, .iload_n 3, 0), (32, .if_icmp .ge 49, 81), (35, .aload_n 0, 0), (36, .getfield 9, 0), (39, .iload 5, 0), (41, .dup2, 0), (42, .laload, 0), (43, .iload 4, 0), (45, .invokestatic 37, 0), (48, .lor, 0), (49, .lastore, 0), (50, .iload 5, 0), (52, .iload_n 2, 0), (53, .if_icmp .ge 22, 75), (56, .iload 4, 0), (58, .aload_n 1, 0), (59, .getfield 43, 0), (62, .aload_n 1, 0), (63, .getfield 47, 0), (66, .iload 5, 0), (68, .iadd, 0), (69, .iaload, 0), (70, .invokestatic 50, 0), (73, .istore 4, 0), (75, .iinc 5 1, 0), (78, .goto (-49), 29), (81, .return_, 0)]
set_option maxRecDepth 100000 in
theorem k_F_heed : gd_MK c_F_heed R_F (gd_find ct_F_heed) (gd_ff fl_F) (gd_lf lc_F) := gd_mk (by decide +kernel) fb_F lb_F
def ct_F_init : gd_K := [(0, .aload_n 0, 0), (1, .invokespecial 3, 0), (4, .aload_n 0, 0), (5, .bipush 61, 0), (7, .newarray .long, 0), (9, .putfield 9, 0), (12, .aload_n 0, 0), (13, .bipush 61, 0), (15, .newarray .long, 0), (17, .putfield 15, 0), (20, .return_, 0)]
set_option maxRecDepth 100000 in
theorem k_F_init : gd_MK c_F_init R_F (gd_find ct_F_init) (gd_ff fl_F) (gd_lf lc_F) := gd_mk (by decide +kernel) fb_F lb_F
def ct_F_leastMove : gd_K := [(0, .iconst 0, 0), (1, .istore_n 3, 0), (2, .iload_n 3, 0), (3, .iconst 5, 0), (4, .if_icmp .ge 36, 40), (7, .iload_n 0, 0), (8, .iload_n 3, 0), (9, .invokestatic 50, 0), (12, .istore 4, 0), (14, .iload 4, 0), (16, .iconst (-1), 0), (17, .if_icmp .eq 17, 34), (20, .lload_n 1, 0), (21, .iload 4, 0), (23, .invokestatic 37, 0), (26, .land, 0), (27, .lconst 0, 0), (28, .lcmp, 0), (29, .ifCond .eq 5, 34), (32, .iload_n 3, 0), (33, .ireturn, 0), (34, .iinc 3 1, 0), (37, .goto (-35), 2), (40, .iconst 0, 0), (41, .ireturn, 0)]
set_option maxRecDepth 100000 in
theorem k_F_leastMove : gd_MK c_F_leastMove R_F (gd_find ct_F_leastMove) (gd_ff fl_F) (gd_lf lc_F) := gd_mk (by decide +kernel) fb_F lb_F
def ct_F_search : gd_K := [(0, .iload_n 2, 0), (1, .invokestatic 37, 0), (4, .lstore 6, 0), (6, .aload_n 0, 0), (7, .getfield 15, 0), (10, .iconst 0, 0), (11, .iload_n 1, 0), (12, .invokestatic 37, 0), (15, .lastore, 0), (16, .iconst 0, 0), (17, .istore 8, 0), (19, .iload 8, 0), (21, .bipush 60, 0), (23, .if_icmp .gt 75, 98), (26, .iload 8, 0), (28, .ifCond .le 39, 67), (31, .aload_n 0, 0), (32, .getfield 15, 0), (35, .iload 8, 0), (37, .aload_n 0, 0), (38, .getfield 15, 0), (41, .iload 8, 0), (43, .iconst 1, 0), (44, .isub, 0), (45, .laload, 0), (46, .invokestatic 61, 0), (49, .lload_n 3, 0), (50, .ldc2_w 64, 0), (53, .lxor, 0), (54, .land, 0), (55, .aload_n 0, 0), (56, .iload 8, 0), (58, .invokevirtual 58, 0), (61, .ldc2_w 64, 0), (64, .lxor, 0), (65, .land, 0), (66, .lastore, 0), (67, .iload 8, 0), (69, .iload 5, 0), (71, .if_icmp .lt 21, 92), (74, .aload_n 0, 0), (75, .getfield 15, 0), (78, .iload 8, 0), (80, .laload, 0), (81, .lload 6, 0), (83, .land, 0), (84, .lconst 0, 0), (85, .lcmp, 0), (86, .ifCond .eq 6, 92), (89, .iload 8, 0), (91, .ireturn, 0), (92, .iinc 8 1, 0), (95, .goto (-76), 19), (98, .iconst (-1), 0), (99, .ireturn, 0)]
set_option maxRecDepth 100000 in
theorem k_F_search : gd_MK c_F_search R_F (gd_find ct_F_search) (gd_ff fl_F) (gd_lf lc_F) := gd_mk (by decide +kernel) fb_F lb_F
def ct_F_shutAt : gd_K := [(0, .aload_n 0, 0), (1, .getfield 9, 0), (4, .iload_n 1, 0), (5, .laload, 0), (6, .lstore_n 2, 0), (7, .iload_n 1, 0), (8, .ifCond .le 14, 22), (11, .lload_n 2, 0), (12, .aload_n 0, 0), (13, .getfield 9, 0), (16, .iload_n 1, 0), (17, .iconst 1, 0), (18, .isub, 0), (19, .laload, 0), (20, .lor, 0), (21, .lstore_n 2, 0), (22, .iload_n 1, 0), (23, .bipush 60, 0), (25, .if_icmp .ge 14, 39), (28, .lload_n 2, 0), (29, .aload_n 0, 0), (30, .getfield 9, 0), (33, .iload_n 1, 0), (34, .iconst 1, 0), (35, .iadd, 0), (36, .laload, 0), (37, .lor, 0), (38, .lstore_n 2, 0), (39, .lload_n 2, 0), (40, .invokestatic 54, 0), (43, .lreturn, 0)]
set_option maxRecDepth 100000 in
theorem k_F_shutAt : gd_MK c_F_shutAt R_F (gd_find ct_F_shutAt) (gd_ff fl_F) (gd_lf lc_F) := gd_mk (by decide +kernel) fb_F lb_F
def ct_F_trace : gd_K := [(0, .aload_n 0, 0), (1, .getfield 15, 0), (4, .iload_n 3, 0), (5, .iload_n 2, 0), (6, .invokestatic 37, 0), (9, .lastore, 0), (10, .iload_n 3, 0), (11, .iconst 1, 0), (12, .isub, 0), (13, .istore 4, 0), (15, .iload 4, 0), (17, .ifCond .lt 31, 48), (20, .aload_n 0, 0), (21, .getfield 15, 0), (24, .iload 4, 0), (26, .dup2, 0), (27, .laload, 0), (28, .aload_n 0, 0), (29, .getfield 15, 0), (32, .iload 4, 0), (34, .iconst 1, 0), (35, .iadd, 0), (36, .laload, 0), (37, .invokestatic 61, 0), (40, .land, 0), (41, .lastore, 0), (42, .iinc 4 (-1), 0), (45, .goto (-30), 15), (48, .aload_n 1, 0), (49, .getfield 34, 0), (52, .istore 4, 0), (54, .iconst 0, 0), (55, .istore 5, 0), (57, .iload 5, 0), (59, .iload_n 3, 0), (60, .if_icmp .ge 43, 103), (63, .iload 4, 0), (65, .aload_n 0, 0), (66, .getfield 15, 0), (69, .iload 5, 0), (71, .iconst 1, 0), (72, .iadd, 0), (73, .laload, 0), (74, .invokestatic 66, 0), (77, .istore 6, 0), (79, .aload_n 1, 0), (80, .getfield 43, 0), (83, .iload 5, 0), (85, .iload 6, 0), (87, .iastore, 0), (88, .iload 4, 0), (90, .iload 6, 0), (92, .invokestatic 50, 0), (95, .istore 4, 0), (97, .iinc 5 1, 0), (100, .goto (-43), 57), (103, .aload_n 1, 0), (104, .iload_n 3, 0), (105, .invokevirtual 70, 0), (108, .return_, 0)]
set_option maxRecDepth 100000 in
theorem k_F_trace : gd_MK c_F_trace R_F (gd_find ct_F_trace) (gd_ff fl_F) (gd_lf lc_F) := gd_mk (by decide +kernel) fb_F lb_F
def ct_J_fill : gd_K := [(0, .iconst 0, 0), (1, .istore_n 3, 0), (2, .aload_n 0, 0), (3, .arraylength, 0), (4, .istore 4, 0), (6, .iload_n 3, 0), (7, .iload 4, 0), (9, .if_icmp .ge 13, 22), (12, .aload_n 0, 0), (13, .iload_n 3, 0), (14, .lload_n 1, 0), (15, .lastore, 0), (16, .iinc 3 1, 0), (19, .goto (-13), 6), (22, .return_, 0)]
set_option maxRecDepth 100000 in
theorem k_J_fill : gd_MK c_J_fill R_J (gd_find ct_J_fill) (gd_ff fl_J) (gd_lf lc_J) := gd_mk (by decide +kernel) fb_J lb_J
def ct_K_max : gd_K := [(0, .iload_n 0, 0), (1, .iload_n 1, 0), (2, .if_icmp .lt 7, 9), (5, .iload_n 0, 0), (6, .goto 4, 10), (9, .iload_n 1, 0), (10, .ireturn, 0)]
set_option maxRecDepth 100000 in
theorem k_K_max : gd_MK c_K_max R_K (gd_find ct_K_max) (gd_ff fl_K) (gd_lf lc_K) := gd_mk (by decide +kernel) fb_K lb_K
def ct_L_add : gd_K := [(0, .aload_n 0, 0), (1, .getfield 11, 0), (4, .aload_n 0, 0), (5, .getfield 17, 0), (8, .aaload, 0), (9, .astore_n 2, 0), (10, .aload_n 2, 0), (11, .aload_n 0, 0), (12, .getfield 21, 0), (15, .iload_n 1, 0), (16, .invokevirtual 28, 0), (19, .aload_n 0, 0), (20, .dup, 0), (21, .getfield 17, 0), (24, .iconst 1, 0), (25, .iadd, 0), (26, .putfield 17, 0), (29, .aload_n 0, 0), (30, .dup, 0), (31, .getfield 21, 0), (34, .iconst 1, 0), (35, .iadd, 0), (36, .putfield 21, 0), (39, .aload_n 2, 0), (40, .areturn, 0)]
set_option maxRecDepth 100000 in
theorem k_L_add : gd_MK c_L_add R_L (gd_find ct_L_add) (gd_ff fl_L) (gd_lf lc_L) := gd_mk (by decide +kernel) fb_L lb_L
def ct_L_find : gd_K := [(0, .iconst 0, 0), (1, .istore_n 2, 0), (2, .iload_n 2, 0), (3, .aload_n 0, 0), (4, .getfield 17, 0), (7, .if_icmp .ge 29, 36), (10, .aload_n 0, 0), (11, .getfield 11, 0), (14, .iload_n 2, 0), (15, .aaload, 0), (16, .getfield 25, 0), (19, .iload_n 1, 0), (20, .if_icmp .ne 10, 30), (23, .aload_n 0, 0), (24, .getfield 11, 0), (27, .iload_n 2, 0), (28, .aaload, 0), (29, .areturn, 0), (30, .iinc 2 1, 0), (33, .goto (-31), 2), (36, .aconst_null, 0), (37, .areturn, 0)]
set_option maxRecDepth 100000 in
theorem k_L_find : gd_MK c_L_find R_L (gd_find ct_L_find) (gd_ff fl_L) (gd_lf lc_L) := gd_mk (by decide +kernel) fb_L lb_L
def ct_L_init : gd_K := [(0, .aload_n 0, 0), (1, .invokespecial 3, 0), (4, .aload_n 0, 0), (5, .bipush 6, 0), (7, .anewarray 9, 0), (10, .putfield 11, 0), (13, .aload_n 0, 0), (14, .iconst 0, 0), (15, .putfield 17, 0), (18, .aload_n 0, 0), (19, .iconst 0, 0), (20, .putfield 21, 0), (23, .iconst 0, 0), (24, .istore_n 1, 0), (25, .iload_n 1, 0), (26, .bipush 6, 0), (28, .if_icmp .ge 22, 50), (31, .aload_n 0, 0), (32, .getfield 11, 0), (35, .iload_n 1, 0), (36, .new 9, 0), (39, .dup, 0), (40, .invokespecial 24, 0), (43, .aastore, 0), (44, .iinc 1 1, 0), (47, .goto (-22), 25), (50, .return_, 0)]
set_option maxRecDepth 100000 in
theorem k_L_init : gd_MK c_L_init R_L (gd_find ct_L_init) (gd_ff fl_L) (gd_lf lc_L) := gd_mk (by decide +kernel) fb_L lb_L
def ct_L_remove : gd_K := [(0, .iconst 0, 0), (1, .istore_n 2, 0), (2, .iconst 0, 0), (3, .istore_n 3, 0), (4, .iload_n 3, 0), (5, .aload_n 0, 0), (6, .getfield 17, 0), (9, .if_icmp .ge 34, 43), (12, .aload_n 0, 0), (13, .getfield 11, 0), (16, .iload_n 3, 0), (17, .aaload, 0), (18, .aload_n 1, 0), (19, .if_acmp .eq 18, 37), (22, .aload_n 0, 0), (23, .getfield 11, 0), (26, .iload_n 2, 0), (27, .aload_n 0, 0), (28, .getfield 11, 0), (31, .iload_n 3, 0), (32, .aaload, 0), (33, .aastore, 0), (34, .iinc 2 1, 0), (37, .iinc 3 1, 0), (40, .goto (-36), 4), (43, .iload_n 2, 0), (44, .aload_n 0, 0), (45, .getfield 17, 0), (48, .if_icmp .ge 15, 63), (51, .aload_n 0, 0), (52, .getfield 11, 0), (55, .iload_n 2, 0), (56, .aload_n 1, 0), (57, .aastore, 0), (58, .aload_n 0, 0), (59, .iload_n 2, 0), (60, .putfield 17, 0), (63, .return_, 0)]
set_option maxRecDepth 100000 in
theorem k_L_remove : gd_MK c_L_remove R_L (gd_find ct_L_remove) (gd_ff fl_L) (gd_lf lc_L) := gd_mk (by decide +kernel) fb_L lb_L
def ct_R_add : gd_K := [(0, .aload_n 0, 0), (1, .getfield 15, 0), (4, .aload_n 0, 0), (5, .getfield 19, 0), (8, .iadd, 0), (9, .bipush 50, 0), (11, .irem, 0), (12, .iconst 4, 0), (13, .imul, 0), (14, .istore_n 3, 0), (15, .aload_n 0, 0), (16, .getfield 11, 0), (19, .iload_n 3, 0), (20, .aload_n 1, 0), (21, .getfield 22, 0), (24, .iastore, 0), (25, .aload_n 0, 0), (26, .getfield 11, 0), (29, .iload_n 3, 0), (30, .iconst 1, 0), (31, .iadd, 0), (32, .iload_n 2, 0), (33, .iastore, 0), (34, .aload_n 0, 0), (35, .getfield 11, 0), (38, .iload_n 3, 0), (39, .iconst 2, 0), (40, .iadd, 0), (41, .aload_n 1, 0), (42, .getfield 27, 0), (45, .iastore, 0), (46, .aload_n 0, 0), (47, .getfield 11, 0), (50, .iload_n 3, 0), (51, .iconst 3, 0), (52, .iadd, 0), (53, .aload_n 1, 0), (54, .getfield 30, 0), (57, .iastore, 0), (58, .aload_n 0, 0), (59, .getfield 19, 0), (62, .bipush 50, 0), (64, .if_icmp .ge 16, 80), (67, .aload_n 0, 0), (68, .dup, 0), (69, .getfield 19, 0), (72, .iconst 1, 0), (73, .iadd, 0), (74, .putfield 19, 0), (77, .goto 16, 93), (80, .aload_n 0, 0), (81, .aload_n 0, 0), (82, .getfield 15, 0), (85, .iconst 1, 0), (86, .iadd, 0), (87, .bipush 50, 0), (89, .irem, 0), (90, .putfield 15, 0), (93, .return_, 0)]
set_option maxRecDepth 100000 in
theorem k_R_add : gd_MK c_R_add R_R (gd_find ct_R_add) (gd_ff fl_R) (gd_lf lc_R) := gd_mk (by decide +kernel) fb_R lb_R
def ct_R_get : gd_K := [(0, .aload_n 0, 0), (1, .getfield 11, 0), (4, .aload_n 0, 0), (5, .getfield 15, 0), (8, .iload_n 1, 0), (9, .iadd, 0), (10, .bipush 50, 0), (12, .irem, 0), (13, .iconst 4, 0), (14, .imul, 0), (15, .iload_n 2, 0), (16, .iadd, 0), (17, .iaload, 0), (18, .ireturn, 0)]
set_option maxRecDepth 100000 in
theorem k_R_get : gd_MK c_R_get R_R (gd_find ct_R_get) (gd_ff fl_R) (gd_lf lc_R) := gd_mk (by decide +kernel) fb_R lb_R
def ct_R_has : gd_K := [(0, .iload_n 1, 0), (1, .ifCond .lt 24, 25), (4, .iload_n 1, 0), (5, .aload_n 0, 0), (6, .getfield 19, 0), (9, .if_icmp .ge 16, 25), (12, .iload_n 2, 0), (13, .ifCond .lt 12, 25), (16, .iload_n 2, 0), (17, .iconst 4, 0), (18, .if_icmp .ge 7, 25), (21, .iconst 1, 0), (22, .goto 4, 26), (25, .iconst 0, 0), (26, .ireturn, 0)]
set_option maxRecDepth 100000 in
theorem k_R_has : gd_MK c_R_has R_R (gd_find ct_R_has) (gd_ff fl_R) (gd_lf lc_R) := gd_mk (by decide +kernel) fb_R lb_R
def ct_R_init : gd_K := [(0, .aload_n 0, 0), (1, .invokespecial 3, 0), (4, .aload_n 0, 0), (5, .sipush 200, 0), (8, .newarray .int, 0), (10, .putfield 11, 0), (13, .aload_n 0, 0), (14, .iconst 0, 0), (15, .putfield 15, 0), (18, .aload_n 0, 0), (19, .iconst 0, 0), (20, .putfield 19, 0), (23, .return_, 0)]
set_option maxRecDepth 100000 in
theorem k_R_init : gd_MK c_R_init R_R (gd_find ct_R_init) (gd_ff fl_R) (gd_lf lc_R) := gd_mk (by decide +kernel) fb_R lb_R
def ct_S_after : gd_K := [(0, .iload_n 0, 0), (1, .bipush 8, 0), (3, .irem, 0), (4, .istore_n 2, 0), (5, .iload_n 0, 0), (6, .bipush 8, 0), (8, .idiv, 0), (9, .istore_n 3, 0), (10, .iload_n 1, 0), (40, .iinc 3 (-1), 0), (43, .goto 21, 64), (46, .iinc 2 1, 0), (49, .goto 15, 64), (52, .iinc 3 1, 0), (55, .goto 9, 64), (58, .iinc 2 (-1), 0), (61, .goto 3, 64), (64, .iload_n 2, 0), (65, .iload_n 3, 0), (66, .invokestatic 9, 0), (69, .ifCond .eq 11, 80), (72, .iload_n 2, 0), (73, .iload_n 3, 0), (74, .invokestatic 15, 0), (77, .goto 4, 81), (80, .iconst (-1), 0), (81, .ireturn, 0)]
set_option maxRecDepth 100000 in
theorem k_S_after : gd_MK c_S_after R_S (gd_find ct_S_after) (gd_ff fl_S) (gd_lf lc_S) := gd_mk (by decide +kernel) fb_S lb_S
def ct_S_at : gd_K := [(0, .bipush 8, 0), (2, .iload_n 1, 0), (3, .imul, 0), (4, .iload_n 0, 0), (5, .iadd, 0), (6, .ireturn, 0)]
set_option maxRecDepth 100000 in
theorem k_S_at : gd_MK c_S_at R_S (gd_find ct_S_at) (gd_ff fl_S) (gd_lf lc_S) := gd_mk (by decide +kernel) fb_S lb_S
def ct_S_has : gd_K := [(0, .iload_n 0, 0), (1, .ifCond .lt 23, 24), (4, .iload_n 0, 0), (5, .bipush 8, 0), (7, .if_icmp .ge 17, 24), (10, .iload_n 1, 0), (11, .ifCond .lt 13, 24), (14, .iload_n 1, 0), (15, .bipush 8, 0), (17, .if_icmp .ge 7, 24), (20, .iconst 1, 0), (21, .goto 4, 25), (24, .iconst 0, 0), (25, .ireturn, 0)]
set_option maxRecDepth 100000 in
theorem k_S_has : gd_MK c_S_has R_S (gd_find ct_S_has) (gd_ff fl_S) (gd_lf lc_S) := gd_mk (by decide +kernel) fb_S lb_S
def ct_S_near : gd_K := [(0, .lload_n 0, 0), (1, .invokestatic 23, 0), (4, .invokestatic 19, 0), (7, .lreturn, 0)]
set_option maxRecDepth 100000 in
theorem k_S_near : gd_MK c_S_near R_S (gd_find ct_S_near) (gd_ff fl_S) (gd_lf lc_S) := gd_mk (by decide +kernel) fb_S lb_S
def ct_S_oneMoveFrom : gd_K := [(0, .lload_n 0, 0), (1, .invokestatic 19, 0), (4, .lload_n 0, 0), (5, .invokestatic 23, 0), (8, .lor, 0), (9, .lreturn, 0)]
set_option maxRecDepth 100000 in
theorem k_S_oneMoveFrom : gd_MK c_S_oneMoveFrom R_S (gd_find ct_S_oneMoveFrom) (gd_ff fl_S) (gd_lf lc_S) := gd_mk (by decide +kernel) fb_S lb_S
def ct_S_only : gd_K := [(0, .lconst 1, 0), (1, .iload_n 0, 0), (2, .lshl, 0), (3, .lreturn, 0)]
set_option maxRecDepth 100000 in
theorem k_S_only : gd_MK c_S_only R_S (gd_find ct_S_only) (gd_ff fl_S) (gd_lf lc_S) := gd_mk (by decide +kernel) fb_S lb_S
def ct_S_sideways : gd_K := [(0, .lload_n 0, 0), (1, .lload_n 0, 0), (2, .ldc2_w 26, 0), (5, .land, 0), (6, .iconst 1, 0), (7, .lshl, 0), (8, .lor, 0), (9, .lload_n 0, 0), (10, .ldc2_w 28, 0), (13, .land, 0), (14, .iconst 1, 0), (15, .lushr, 0), (16, .lor, 0), (17, .lreturn, 0)]
set_option maxRecDepth 100000 in
theorem k_S_sideways : gd_MK c_S_sideways R_S (gd_find ct_S_sideways) (gd_ff fl_S) (gd_lf lc_S) := gd_mk (by decide +kernel) fb_S lb_S
def ct_S_upAndDown : gd_K := [(0, .lload_n 0, 0), (1, .lload_n 0, 0), (2, .bipush 8, 0), (4, .lshl, 0), (5, .lor, 0), (6, .lload_n 0, 0), (7, .bipush 8, 0), (9, .lushr, 0), (10, .lor, 0), (11, .lreturn, 0)]
set_option maxRecDepth 100000 in
theorem k_S_upAndDown : gd_MK c_S_upAndDown R_S (gd_find ct_S_upAndDown) (gd_ff fl_S) (gd_lf lc_S) := gd_mk (by decide +kernel) fb_S lb_S
end
section
def ct_G_ahead : gd_K := [(0, .aload_n 0, 0), (1, .getfield 16, 0), (4, .iload_n 1, 0), (5, .invokevirtual 104, 0), (8, .astore_n 3, 0), (9, .aload_n 3, 0), (10, .ifnull 7, 17), (13, .iload_n 2, 0), (14, .ifCond .ge 5, 19), (17, .iconst (-1), 0), (18, .ireturn, 0), (19, .aload_n 3, 0), (20, .iload_n 2, 0), (21, .invokevirtual 192, 0), (24, .ireturn, 0)]
set_option maxRecDepth 100000 in
theorem k_G_ahead : gd_MK c_G_ahead R_G (gd_find ct_G_ahead) (gd_ff fl_G) (gd_lf lc_G) := gd_mk (by decide +kernel) fb_G lb_G
def ct_G_cell : gd_K := [(0, .iload_n 1, 0), (1, .iload_n 2, 0), (2, .invokestatic 48, 0), (5, .ifCond .eq 23, 28), (8, .iload_n 3, 0), (9, .ifCond .lt 19, 28), (12, .iload_n 3, 0), (13, .bipush 8, 0), (15, .if_icmp .ge 13, 28), (18, .aload_n 0, 0), (19, .getfield 16, 0), (22, .getfield 54, 0), (25, .ifCond .le 5, 30), (28, .iconst 0, 0), (29, .ireturn, 0), (30, .iload_n 1, 0), (31, .iload_n 2, 0), (32, .invokestatic 57, 0), (35, .istore 4, 0), (37, .aload_n 0, 0), (38, .getfield 9, 0), (41, .iload 4, 0), (43, .iload_n 3, 0), (44, .iastore, 0), (45, .aload_n 0, 0), (46, .iload_n 3, 0), (47, .iconst 1, 0), (48, .if_icmp .ne 16, 64), (51, .aload_n 0, 0), (52, .getfield 34, 0), (55, .iload 4, 0), (57, .invokestatic 61, 0), (60, .lor, 0), (61, .goto 17, 78), (64, .aload_n 0, 0), (65, .getfield 34, 0), (68, .iload 4, 0), (70, .invokestatic 61, 0), (73, .ldc2_w 65, 0), (76, .lxor, 0), (77, .land, 0), (78, .putfield 34, 0), (81, .iconst 1, 0), (82, .ireturn, 0)]
set_option maxRecDepth 100000 in
theorem k_G_cell : gd_MK c_G_cell R_G (gd_find ct_G_cell) (gd_ff fl_G) (gd_lf lc_G) := gd_mk (by decide +kernel) fb_G lb_G
def ct_G_clearSource : gd_K := [(0, .aload_n 0, 0), (1, .aconst_null, 0), (2, .aconst_null, 0), (3, .invokevirtual 115, 0), (6, .aload_n 0, 0), (7, .getfield 23, 0), (10, .invokevirtual 155, 0), (13, .lstore_n 2, 0), (14, .iconst 0, 0), (15, .istore 4, 0), (17, .iload 4, 0), (19, .bipush 64, 0), (21, .if_icmp .ge 34, 55), (24, .aload_n 0, 0), (25, .getfield 9, 0), (28, .iload 4, 0), (30, .iaload, 0), (31, .iconst 4, 0), (32, .iload_n 1, 0), (33, .iadd, 0), (34, .if_icmp .ne 15, 49), (37, .iload 4, 0), (39, .lload_n 2, 0), (40, .invokestatic 159, 0), (43, .ifCond .eq 6, 49), (46, .iload 4, 0), (48, .ireturn, 0), (49, .iinc 4 1, 0), (52, .goto (-35), 17), (55, .iconst (-1), 0), (56, .ireturn, 0)]
set_option maxRecDepth 100000 in
theorem k_G_clearSource : gd_MK c_G_clearSource R_G (gd_find ct_G_clearSource) (gd_ff fl_G) (gd_lf lc_G) := gd_mk (by decide +kernel) fb_G lb_G
def ct_G_discard : gd_K := [(0, .aload_n 0, 0), (1, .getfield 16, 0), (4, .iload_n 1, 0), (5, .invokevirtual 104, 0), (8, .astore_n 2, 0), (9, .aload_n 2, 0), (10, .ifnonnull 13, 23), (13, .new 67, 0), (16, .dup, 0), (17, .ldc 148, 0), (19, .invokespecial 71, 0), (22, .athrow, 0), (23, .aload_n 2, 0), (24, .invokevirtual 109, 0), (27, .ifCond .eq 16, 43), (30, .aload_n 0, 0), (31, .getfield 9, 0), (34, .aload_n 2, 0), (35, .getfield 119, 0), (38, .iaload, 0), (39, .iconst 2, 0), (40, .if_icmp .eq 13, 53), (43, .new 86, 0), (46, .dup, 0), (47, .ldc 169, 0), (49, .invokespecial 90, 0), (52, .athrow, 0), (53, .aload_n 2, 0), (54, .getfield 137, 0), (57, .istore_n 3, 0), (58, .aload_n 0, 0), (59, .dup, 0), (60, .getfield 45, 0), (63, .iload_n 3, 0), (64, .iadd, 0), (65, .putfield 45, 0), (68, .aload_n 0, 0), (69, .getfield 16, 0), (72, .aload_n 2, 0), (73, .invokevirtual 171, 0), (76, .iload_n 3, 0), (77, .ireturn, 0)]
set_option maxRecDepth 100000 in
theorem k_G_discard : gd_MK c_G_discard R_G (gd_find ct_G_discard) (gd_ff fl_G) (gd_lf lc_G) := gd_mk (by decide +kernel) fb_G lb_G
def ct_G_dispense : gd_K := [(0, .iload_n 1, 0), (1, .ifCond .lt 8, 9), (4, .iload_n 1, 0), (5, .iconst 4, 0), (6, .if_icmp .lt 13, 19), (9, .new 67, 0), (12, .dup, 0), (13, .ldc 69, 0), (15, .invokespecial 71, 0), (18, .athrow, 0), (19, .aload_n 0, 0), (20, .iload_n 1, 0), (21, .invokevirtual 74, 0), (24, .istore_n 2, 0), (25, .iload_n 2, 0), (26, .iconst (-1), 0), (27, .if_icmp .ne 13, 40), (30, .new 78, 0), (33, .dup, 0), (34, .ldc 80, 0), (36, .invokespecial 82, 0), (39, .athrow, 0), (40, .aload_n 0, 0), (41, .getfield 16, 0), (44, .getfield 54, 0), (47, .bipush 6, 0), (49, .if_icmp .ge 15, 64), (52, .aload_n 0, 0), (53, .getfield 16, 0), (56, .getfield 83, 0), (59, .bipush 60, 0), (61, .if_icmp .lt 13, 74), (64, .new 86, 0), (67, .dup, 0), (68, .ldc 88, 0), (70, .invokespecial 90, 0), (73, .athrow, 0), (74, .aload_n 0, 0), (75, .getfield 16, 0), (78, .iload_n 2, 0), (79, .invokevirtual 91, 0), (82, .astore_n 3, 0), (83, .aload_n 3, 0), (84, .iload_n 1, 0), (85, .invokevirtual 95, 0), (88, .aload_n 0, 0), (89, .dup, 0), (90, .getfield 42, 0), (93, .iconst 1, 0), (94, .iadd, 0), (95, .putfield 42, 0), (98, .aload_n 3, 0), (99, .getfield 101, 0), (102, .ireturn, 0)]
set_option maxRecDepth 100000 in
theorem k_G_dispense : gd_MK c_G_dispense R_G (gd_find ct_G_dispense) (gd_ff fl_G) (gd_lf lc_G) := gd_mk (by decide +kernel) fb_G lb_G
def ct_G_droplets : gd_K := [(0, .aload_n 0, 0), (1, .getfield 16, 0), (4, .getfield 54, 0), (7, .ireturn, 0)]
set_option maxRecDepth 100000 in
theorem k_G_droplets : gd_MK c_G_droplets R_G (gd_find ct_G_droplets) (gd_ff fl_G) (gd_lf lc_G) := gd_mk (by decide +kernel) fb_G lb_G
def ct_G_halve : gd_K := [(0, .aload_n 0, 0), (1, .getfield 16, 0), (4, .iload_n 1, 0), (5, .invokevirtual 104, 0), (8, .astore_n 3, 0), (9, .aload_n 3, 0), (10, .ifnonnull 13, 23), (13, .new 67, 0), (16, .dup, 0), (17, .ldc 148, 0), (19, .invokespecial 71, 0), (22, .athrow, 0), (23, .aload_n 3, 0), (24, .invokevirtual 109, 0), (27, .ifCond .eq 11, 38), (30, .aload_n 3, 0), (31, .getfield 137, 0), (34, .iconst 2, 0), (35, .if_icmp .eq 13, 48), (38, .new 86, 0), (41, .dup, 0), (42, .ldc 150, 0), (44, .invokespecial 90, 0), (47, .athrow, 0), (48, .aload_n 0, 0), (49, .getfield 16, 0), (52, .getfield 54, 0), (55, .bipush 6, 0), (57, .if_icmp .ge 15, 72), (60, .aload_n 0, 0), (61, .getfield 16, 0), (64, .getfield 83, 0), (67, .bipush 58, 0), (69, .if_icmp .le 13, 82), (72, .new 86, 0), (75, .dup, 0), (76, .ldc 88, 0), (78, .invokespecial 90, 0), (81, .athrow, 0), (82, .aload_n 3, 0), (83, .getfield 119, 0), (86, .iload_n 2, 0), (87, .ifCond .eq 7, 94), (90, .iconst 1, 0), (91, .goto 4, 95), (94, .iconst 4, 0), (95, .invokestatic 152, 0), (98, .istore 4, 0), (100, .aload_n 3, 0), (101, .getfield 119, 0), (104, .iload_n 2, 0), (105, .ifCond .eq 7, 112), (108, .iconst 3, 0), (109, .goto 4, 113), (112, .iconst 2, 0), (113, .invokestatic 152, 0), (116, .istore 5, 0), (118, .aload_n 0, 0), (119, .aload_n 3, 0), (120, .aconst_null, 0), (121, .invokevirtual 115, 0), (124, .aload_n 0, 0), (125, .getfield 34, 0), (128, .aload_n 0, 0), (129, .getfield 23, 0), (132, .invokevirtual 155, 0), (135, .lor, 0), (136, .lstore 6, 0), (138, .iload 4, 0), (140, .lload 6, 0), (142, .invokestatic 159, 0), (145, .ifCond .eq 13, 158), (148, .iload 5, 0), (150, .lload 6, 0), (152, .invokestatic 159, 0), (155, .ifCond .ne 13, 168), (158, .new 86, 0), (161, .dup, 0), (162, .ldc 163, 0), (164, .invokespecial 90, 0), (167, .athrow, 0), (168, .aload_n 0, 0), (169, .aload_n 3, 0), (170, .iload 4, 0), (172, .iload 5, 0), (174, .invokevirtual 165, 0), (177, .ireturn, 0)]
set_option maxRecDepth 100000 in
theorem k_G_halve : gd_MK c_G_halve R_G (gd_find ct_G_halve) (gd_ff fl_G) (gd_lf lc_G) := gd_mk (by decide +kernel) fb_G lb_G
def ct_G_heedAllBut : gd_K := [(0, .aload_n 0, 0), (1, .getfield 23, 0), (4, .invokevirtual 213, 0), (7, .iconst 0, 0), (8, .istore_n 3, 0), (9, .iload_n 3, 0), (10, .aload_n 0, 0), (11, .getfield 16, 0), (14, .getfield 54, 0), (17, .if_icmp .ge 41, 58), (20, .aload_n 0, 0), (21, .getfield 16, 0), (24, .getfield 216, 0), (27, .iload_n 3, 0), (28, .aaload, 0), (29, .astore 4, 0), (31, .aload 4, 0), (33, .aload_n 1, 0), (34, .if_acmp .eq 18, 52), (37, .aload 4, 0), (39, .aload_n 2, 0), (40, .if_acmp .eq 12, 52), (43, .aload_n 0, 0), (44, .getfield 23, 0), (47, .aload 4, 0), (49, .invokevirtual 220, 0), (52, .iinc 3 1, 0), (55, .goto (-46), 9), (58, .return_, 0)]
set_option maxRecDepth 100000 in
theorem k_G_heedAllBut : gd_MK c_G_heedAllBut R_G (gd_find ct_G_heedAllBut) (gd_ff fl_G) (gd_lf lc_G) := gd_mk (by decide +kernel) fb_G lb_G
def ct_G_init : gd_K := [(0, .aload_n 0, 0), (1, .invokespecial 3, 0), (4, .aload_n 0, 0), (5, .bipush 64, 0), (7, .newarray .int, 0), (9, .putfield 9, 0), (12, .aload_n 0, 0), (13, .new 13, 0), (16, .dup, 0), (17, .invokespecial 15, 0), (20, .putfield 16, 0), (23, .aload_n 0, 0), (24, .new 20, 0), (27, .dup, 0), (28, .invokespecial 22, 0), (31, .putfield 23, 0), (34, .aload_n 0, 0), (35, .new 27, 0), (38, .dup, 0), (39, .invokespecial 29, 0), (42, .putfield 30, 0), (45, .aload_n 0, 0), (46, .lconst 0, 0), (47, .putfield 34, 0), (50, .aload_n 0, 0), (51, .iconst 0, 0), (52, .putfield 38, 0), (55, .aload_n 0, 0), (56, .iconst 0, 0), (57, .putfield 42, 0), (60, .aload_n 0, 0), (61, .iconst 0, 0), (62, .putfield 45, 0), (65, .return_, 0)]
set_option maxRecDepth 100000 in
theorem k_G_init : gd_MK c_G_init R_G (gd_find ct_G_init) (gd_ff fl_G) (gd_lf lc_G) := gd_mk (by decide +kernel) fb_G lb_G
def ct_G_isOpen : gd_K := [(0, .iload_n 0, 0), (1, .iconst (-1), 0), (2, .if_icmp .eq 18, 20), (5, .lload_n 1, 0), (6, .iload_n 0, 0), (7, .invokestatic 61, 0), (10, .land, 0), (11, .lconst 0, 0), (12, .lcmp, 0), (13, .ifCond .ne 7, 20), (16, .iconst 1, 0), (17, .goto 4, 21), (20, .iconst 0, 0), (21, .ireturn, 0)]
set_option maxRecDepth 100000 in
theorem k_G_isOpen : gd_MK c_G_isOpen R_G (gd_find ct_G_isOpen) (gd_ff fl_G) (gd_lf lc_G) := gd_mk (by decide +kernel) fb_G lb_G
def ct_G_join : gd_K := [(0, .aload_n 0, 0), (1, .getfield 16, 0), (4, .iload_n 1, 0), (5, .invokevirtual 104, 0), (8, .astore_n 3, 0), (9, .aload_n 0, 0), (10, .getfield 16, 0), (13, .iload_n 2, 0), (14, .invokevirtual 104, 0), (17, .astore 4, 0), (19, .aload_n 3, 0), (20, .ifnull 13, 33), (23, .aload 4, 0), (25, .ifnull 8, 33), (28, .iload_n 1, 0), (29, .iload_n 2, 0), (30, .if_icmp .ne 13, 43), (33, .new 67, 0), (36, .dup, 0), (37, .ldc 135, 0), (39, .invokespecial 71, 0), (42, .athrow, 0), (43, .aload_n 3, 0), (44, .invokevirtual 109, 0), (47, .ifCond .eq 28, 75), (50, .aload 4, 0), (52, .invokevirtual 109, 0), (55, .ifCond .eq 20, 75), (58, .aload_n 3, 0), (59, .getfield 137, 0), (62, .iconst 1, 0), (63, .if_icmp .ne 12, 75), (66, .aload 4, 0), (68, .getfield 137, 0), (71, .iconst 1, 0), (72, .if_icmp .eq 13, 85), (75, .new 86, 0), (78, .dup, 0), (79, .ldc 140, 0), (81, .invokespecial 90, 0), (84, .athrow, 0), (85, .aload_n 0, 0), (86, .aload_n 3, 0), (87, .aload 4, 0), (89, .invokevirtual 115, 0), (92, .aload_n 0, 0), (93, .getfield 23, 0), (96, .aload_n 3, 0), (97, .getfield 119, 0), (100, .aload 4, 0), (102, .getfield 119, 0), (105, .aload_n 0, 0), (106, .getfield 34, 0), (109, .iconst 0, 0), (110, .invokevirtual 125, 0), (113, .istore 5, 0), (115, .iload 5, 0), (117, .iconst (-1), 0), (118, .if_icmp .ne 13, 131), (121, .new 78, 0), (124, .dup, 0), (125, .ldc 129, 0), (127, .invokespecial 82, 0), (130, .athrow, 0), (131, .aload_n 0, 0), (132, .getfield 23, 0), (135, .aload_n 3, 0), (136, .aload 4, 0), (138, .getfield 119, 0), (141, .iload 5, 0), (143, .invokevirtual 131, 0), (146, .aload_n 3, 0), (147, .iload_n 2, 0), (148, .putfield 142, 0), (151, .aload 4, 0), (153, .iload_n 1, 0), (154, .putfield 145, 0), (157, .iload 5, 0), (159, .ireturn, 0)]
set_option maxRecDepth 100000 in
theorem k_G_join : gd_MK c_G_join R_G (gd_find ct_G_join) (gd_ff fl_G) (gd_lf lc_G) := gd_mk (by decide +kernel) fb_G lb_G
def ct_G_joinArrived : gd_K := [(0, .aload_n 0, 0), (1, .getfield 16, 0), (4, .getfield 54, 0), (7, .iconst 1, 0), (8, .isub, 0), (9, .istore_n 1, 0), (10, .iload_n 1, 0), (11, .ifCond .lt 63, 74), (14, .aload_n 0, 0), (15, .getfield 16, 0), (18, .getfield 216, 0), (21, .iload_n 1, 0), (22, .aaload, 0), (23, .astore_n 2, 0), (24, .aload_n 2, 0), (25, .getfield 142, 0), (28, .iconst (-1), 0), (29, .if_icmp .eq 39, 68), (32, .aload_n 2, 0), (33, .invokevirtual 187, 0), (36, .ifCond .ne 32, 68), (39, .aload_n 0, 0), (40, .getfield 16, 0), (43, .aload_n 2, 0), (44, .getfield 142, 0), (47, .invokevirtual 104, 0), (50, .astore_n 3, 0), (51, .aload_n 3, 0), (52, .ifnull 8, 60), (55, .aload_n 3, 0), (56, .aload_n 2, 0), (57, .invokevirtual 229, 0), (60, .aload_n 0, 0), (61, .getfield 16, 0), (64, .aload_n 2, 0), (65, .invokevirtual 171, 0), (68, .iinc 1 (-1), 0), (71, .goto (-61), 10), (74, .return_, 0)]
set_option maxRecDepth 100000 in
theorem k_G_joinArrived : gd_MK c_G_joinArrived R_G (gd_find ct_G_joinArrived) (gd_ff fl_G) (gd_lf lc_G) := gd_mk (by decide +kernel) fb_G lb_G
def ct_G_kind : gd_K := [(0, .iload_n 1, 0), (1, .iload_n 2, 0), (2, .invokestatic 48, 0), (5, .ifCond .eq 16, 21), (8, .aload_n 0, 0), (9, .getfield 9, 0), (12, .iload_n 1, 0), (13, .iload_n 2, 0), (14, .invokestatic 57, 0), (17, .iaload, 0), (18, .goto 4, 22), (21, .iconst (-1), 0), (22, .ireturn, 0)]
set_option maxRecDepth 100000 in
theorem k_G_kind : gd_MK c_G_kind R_G (gd_find ct_G_kind) (gd_ff fl_G) (gd_lf lc_G) := gd_mk (by decide +kernel) fb_G lb_G
def ct_G_look : gd_K := [(0, .aload_n 0, 0), (1, .getfield 16, 0), (4, .iload_n 1, 0), (5, .invokevirtual 104, 0), (8, .astore_n 3, 0), (9, .aload_n 3, 0), (10, .ifnonnull 13, 23), (13, .new 67, 0), (16, .dup, 0), (17, .ldc 148, 0), (19, .invokespecial 71, 0), (22, .athrow, 0), (23, .iload_n 2, 0), (60, .aload_n 3, 0), (61, .getfield 119, 0), (64, .ireturn, 0), (65, .aload_n 3, 0), (66, .getfield 137, 0), (69, .ireturn, 0), (70, .aload_n 3, 0), (71, .invokevirtual 187, 0), (74, .ireturn, 0), (75, .aload_n 3, 0), (76, .getfield 142, 0), (79, .ireturn, 0), (80, .aload_n 3, 0), (81, .getfield 145, 0), (84, .ireturn, 0), (85, .new 67, 0), (88, .dup, 0), (89, .ldc 190, 0), (91, .invokespecial 71, 0), (94, .athrow, 0)]
set_option maxRecDepth 100000 in
theorem k_G_look : gd_MK c_G_look R_G (gd_find ct_G_look) (gd_ff fl_G) (gd_lf lc_G) := gd_mk (by decide +kernel) fb_G lb_G
def ct_G_moveAll : gd_K := [(0, .iconst 0, 0), (1, .istore_n 1, 0), (2, .iload_n 1, 0), (3, .aload_n 0, 0), (4, .getfield 16, 0), (7, .getfield 54, 0), (10, .if_icmp .ge 21, 31), (13, .aload_n 0, 0), (14, .getfield 16, 0), (17, .getfield 216, 0), (20, .iload_n 1, 0), (21, .aaload, 0), (22, .invokevirtual 226, 0), (25, .iinc 1 1, 0), (28, .goto (-26), 2), (31, .return_, 0)]
set_option maxRecDepth 100000 in
theorem k_G_moveAll : gd_MK c_G_moveAll R_G (gd_find ct_G_moveAll) (gd_ff fl_G) (gd_lf lc_G) := gd_mk (by decide +kernel) fb_G lb_G
def ct_G_readMoved : gd_K := [(0, .iconst 0, 0), (1, .istore_n 1, 0), (2, .iconst 0, 0), (3, .istore_n 2, 0), (4, .iload_n 2, 0), (5, .aload_n 0, 0), (6, .getfield 16, 0), (9, .getfield 54, 0), (12, .if_icmp .ge 54, 66), (15, .aload_n 0, 0), (16, .getfield 16, 0), (19, .getfield 216, 0), (22, .iload_n 2, 0), (23, .aaload, 0), (24, .astore_n 3, 0), (25, .aload_n 3, 0), (26, .getfield 232, 0), (29, .ifCond .eq 31, 60), (32, .aload_n 0, 0), (33, .getfield 9, 0), (36, .aload_n 3, 0), (37, .getfield 119, 0), (40, .iaload, 0), (41, .iconst 3, 0), (42, .if_icmp .ne 18, 60), (45, .aload_n 0, 0), (46, .getfield 30, 0), (49, .aload_n 3, 0), (50, .aload_n 0, 0), (51, .getfield 38, 0), (54, .invokevirtual 236, 0), (57, .iinc 1 1, 0), (60, .iinc 2 1, 0), (63, .goto (-59), 4), (66, .iload_n 1, 0), (67, .ireturn, 0)]
set_option maxRecDepth 100000 in
theorem k_G_readMoved : gd_MK c_G_readMoved R_G (gd_find ct_G_readMoved) (gd_ff fl_G) (gd_lf lc_G) := gd_mk (by decide +kernel) fb_G lb_G
def ct_G_reading : gd_K := [(0, .aload_n 0, 0), (1, .getfield 30, 0), (4, .iload_n 1, 0), (5, .iload_n 2, 0), (6, .invokevirtual 204, 0), (9, .ifCond .ne 13, 22), (12, .new 205, 0), (15, .dup, 0), (16, .ldc 207, 0), (18, .invokespecial 209, 0), (21, .athrow, 0), (22, .aload_n 0, 0), (23, .getfield 30, 0), (26, .iload_n 1, 0), (27, .iload_n 2, 0), (28, .invokevirtual 210, 0), (31, .ireturn, 0)]
set_option maxRecDepth 100000 in
theorem k_G_reading : gd_MK c_G_reading R_G (gd_find ct_G_reading) (gd_ff fl_G) (gd_lf lc_G) := gd_mk (by decide +kernel) fb_G lb_G
def ct_G_run : gd_K := [(0, .iload_n 1, 0), (1, .ifCond .lt 9, 10), (4, .iload_n 1, 0), (5, .bipush 100, 0), (7, .if_icmp .le 13, 20), (10, .new 67, 0), (13, .dup, 0), (14, .ldc 175, 0), (16, .invokespecial 71, 0), (19, .athrow, 0), (20, .iconst 0, 0), (21, .istore_n 2, 0), (22, .iconst 0, 0), (23, .istore_n 3, 0), (24, .iload_n 3, 0), (25, .iload_n 1, 0), (26, .if_icmp .ge 34, 60), (29, .aload_n 0, 0), (30, .dup, 0), (31, .getfield 38, 0), (34, .iconst 1, 0), (35, .iadd, 0), (36, .putfield 38, 0), (39, .aload_n 0, 0), (40, .invokevirtual 177, 0), (43, .aload_n 0, 0), (44, .invokevirtual 180, 0), (47, .iload_n 2, 0), (48, .aload_n 0, 0), (49, .invokevirtual 183, 0), (52, .iadd, 0), (53, .istore_n 2, 0), (54, .iinc 3 1, 0), (57, .goto (-33), 24), (60, .iload_n 2, 0), (61, .ireturn, 0)]
set_option maxRecDepth 100000 in
theorem k_G_run : gd_MK c_G_run R_G (gd_find ct_G_run) (gd_ff fl_G) (gd_lf lc_G) := gd_mk (by decide +kernel) fb_G lb_G
def ct_G_send : gd_K := [(0, .aload_n 0, 0), (1, .getfield 16, 0), (4, .iload_n 1, 0), (5, .invokevirtual 104, 0), (8, .astore 4, 0), (10, .aload 4, 0), (12, .ifnull 11, 23), (15, .iload_n 2, 0), (16, .iload_n 3, 0), (17, .invokestatic 48, 0), (20, .ifCond .ne 13, 33), (23, .new 67, 0), (26, .dup, 0), (27, .ldc 107, 0), (29, .invokespecial 71, 0), (32, .athrow, 0), (33, .aload 4, 0), (35, .invokevirtual 109, 0), (38, .ifCond .ne 13, 51), (41, .new 86, 0), (44, .dup, 0), (45, .ldc 113, 0), (47, .invokespecial 90, 0), (50, .athrow, 0), (51, .iload_n 2, 0), (52, .iload_n 3, 0), (53, .invokestatic 57, 0), (56, .istore 5, 0), (58, .aload_n 0, 0), (59, .aload 4, 0), (61, .aconst_null, 0), (62, .invokevirtual 115, 0), (65, .aload_n 0, 0), (66, .getfield 23, 0), (69, .aload 4, 0), (71, .getfield 119, 0), (74, .iload 5, 0), (76, .aload_n 0, 0), (77, .getfield 34, 0), (80, .aload_n 0, 0), (81, .getfield 23, 0), (84, .iload 5, 0), (86, .invokevirtual 122, 0), (89, .invokevirtual 125, 0), (92, .istore 6, 0), (94, .iload 6, 0), (96, .iconst (-1), 0), (97, .if_icmp .ne 13, 110), (100, .new 78, 0), (103, .dup, 0), (104, .ldc 129, 0), (106, .invokespecial 82, 0), (109, .athrow, 0), (110, .aload_n 0, 0), (111, .getfield 23, 0), (114, .aload 4, 0), (116, .iload 5, 0), (118, .iload 6, 0), (120, .invokevirtual 131, 0), (123, .iload 6, 0), (125, .ireturn, 0)]
set_option maxRecDepth 100000 in
theorem k_G_send : gd_MK c_G_send R_G (gd_find ct_G_send) (gd_ff fl_G) (gd_lf lc_G) := gd_mk (by decide +kernel) fb_G lb_G
def ct_G_share : gd_K := [(0, .aload_n 0, 0), (1, .getfield 16, 0), (4, .iload_n 1, 0), (5, .invokevirtual 104, 0), (8, .astore_n 3, 0), (9, .aload_n 3, 0), (10, .ifnull 12, 22), (13, .iload_n 2, 0), (14, .ifCond .lt 8, 22), (17, .iload_n 2, 0), (18, .iconst 4, 0), (19, .if_icmp .le 13, 32), (22, .new 67, 0), (25, .dup, 0), (26, .ldc 195, 0), (28, .invokespecial 71, 0), (31, .athrow, 0), (32, .iload_n 2, 0), (33, .iconst 4, 0), (34, .if_icmp .ne 11, 45), (37, .aload_n 3, 0), (38, .getfield 197, 0), (41, .i2l, 0), (42, .goto 9, 51), (45, .aload_n 3, 0), (46, .getfield 200, 0), (49, .iload_n 2, 0), (50, .laload, 0), (51, .lreturn, 0)]
set_option maxRecDepth 100000 in
theorem k_G_share : gd_MK c_G_share R_G (gd_find ct_G_share) (gd_ff fl_G) (gd_lf lc_G) := gd_mk (by decide +kernel) fb_G lb_G
def ct_G_splitUp : gd_K := [(0, .aload_n 0, 0), (1, .getfield 16, 0), (4, .iload_n 2, 0), (5, .invokevirtual 91, 0), (8, .astore 4, 0), (10, .aload 4, 0), (12, .aload_n 1, 0), (13, .invokevirtual 223, 0), (16, .aload_n 0, 0), (17, .getfield 16, 0), (20, .aload_n 1, 0), (21, .invokevirtual 171, 0), (24, .aload_n 0, 0), (25, .getfield 16, 0), (28, .iload_n 3, 0), (29, .invokevirtual 91, 0), (32, .astore 5, 0), (34, .aload 5, 0), (36, .aload 4, 0), (38, .invokevirtual 223, 0), (41, .aload 4, 0), (43, .getfield 101, 0), (46, .ireturn, 0)]
set_option maxRecDepth 100000 in
theorem k_G_splitUp : gd_MK c_G_splitUp R_G (gd_find ct_G_splitUp) (gd_ff fl_G) (gd_lf lc_G) := gd_mk (by decide +kernel) fb_G lb_G
def ct_G_time : gd_K := [(0, .aload_n 0, 0), (1, .getfield 38, 0), (4, .ireturn, 0)]
set_option maxRecDepth 100000 in
theorem k_G_time : gd_MK c_G_time R_G (gd_find ct_G_time) (gd_ff fl_G) (gd_lf lc_G) := gd_mk (by decide +kernel) fb_G lb_G
def ct_G_units : gd_K := [(0, .iload_n 1, 0), (1, .ifCond .ne 8, 9), (4, .aload_n 0, 0), (5, .getfield 42, 0), (8, .ireturn, 0), (9, .iload_n 1, 0), (10, .iconst 1, 0), (11, .if_icmp .ne 10, 21), (14, .aload_n 0, 0), (15, .getfield 45, 0), (18, .goto 12, 30), (21, .aload_n 0, 0), (22, .getfield 42, 0), (25, .aload_n 0, 0), (26, .getfield 45, 0), (29, .isub, 0), (30, .ireturn, 0)]
set_option maxRecDepth 100000 in
theorem k_G_units : gd_MK c_G_units R_G (gd_find ct_G_units) (gd_ff fl_G) (gd_lf lc_G) := gd_mk (by decide +kernel) fb_G lb_G
end
section
def ct_M_add : gd_K := [(0, .aload_n 0, 0), (1, .getfield 13, 0), (4, .aload_n 0, 0), (5, .getfield 68, 0), (8, .iload_n 2, 0), (9, .iastore, 0), (10, .aload_n 0, 0), (11, .getfield 16, 0), (14, .aload_n 0, 0), (15, .getfield 68, 0), (18, .iload_n 1, 0), (19, .iastore, 0), (20, .aload_n 0, 0), (21, .getfield 29, 0), (24, .aload_n 0, 0), (25, .getfield 68, 0), (28, .iconst 0, 0), (29, .iastore, 0), (30, .aload_n 0, 0), (31, .getfield 32, 0), (34, .aload_n 0, 0), (35, .getfield 68, 0), (38, .iconst 0, 0), (39, .iastore, 0), (40, .aload_n 0, 0), (41, .getfield 35, 0), (44, .aload_n 0, 0), (45, .getfield 68, 0), (48, .iconst 0, 0), (49, .iastore, 0), (50, .aload_n 0, 0), (51, .aload_n 0, 0), (52, .getfield 68, 0), (55, .iconst 1, 0), (56, .iadd, 0), (57, .putfield 68, 0), (60, .aload_n 0, 0), (61, .getfield 68, 0), (64, .iconst 1, 0), (65, .isub, 0), (66, .ireturn, 0)]
set_option maxRecDepth 100000 in
theorem k_M_add : gd_MK c_M_add R_M (gd_find ct_M_add) (gd_ff fl_M) (gd_lf lc_M) := gd_mk (by decide +kernel) fb_M lb_M
def ct_M_ahead : gd_K := [(0, .aload_n 0, 0), (1, .iconst 0, 0), (2, .putfield 60, 0), (5, .aload_n 0, 0), (6, .iload_n 1, 0), (7, .invokevirtual 125, 0), (10, .ifCond .eq 16, 26), (13, .iload_n 2, 0), (14, .ifCond .lt 12, 26), (17, .aload_n 0, 0), (18, .iload_n 1, 0), (19, .iload_n 2, 0), (20, .invokevirtual 89, 0), (23, .goto 4, 27), (26, .iconst (-1), 0), (27, .ireturn, 0)]
set_option maxRecDepth 100000 in
theorem k_M_ahead : gd_MK c_M_ahead R_M (gd_find ct_M_ahead) (gd_ff fl_M) (gd_lf lc_M) := gd_mk (by decide +kernel) fb_M lb_M
def ct_M_areNear : gd_K := [(0, .iload_n 0, 0), (1, .bipush 8, 0), (3, .irem, 0), (4, .iload_n 1, 0), (5, .bipush 8, 0), (7, .irem, 0), (8, .isub, 0), (9, .istore_n 2, 0), (10, .iload_n 0, 0), (11, .bipush 8, 0), (13, .idiv, 0), (14, .iload_n 1, 0), (15, .bipush 8, 0), (17, .idiv, 0), (18, .isub, 0), (19, .istore_n 3, 0), (20, .iload_n 2, 0), (21, .iconst (-1), 0), (22, .if_icmp .lt 22, 44), (25, .iload_n 2, 0), (26, .iconst 1, 0), (27, .if_icmp .gt 17, 44), (30, .iload_n 3, 0), (31, .iconst (-1), 0), (32, .if_icmp .lt 12, 44), (35, .iload_n 3, 0), (36, .iconst 1, 0), (37, .if_icmp .gt 7, 44), (40, .iconst 1, 0), (41, .goto 4, 45), (44, .iconst 0, 0), (45, .ireturn, 0)]
set_option maxRecDepth 100000 in
theorem k_M_areNear : gd_MK c_M_areNear R_M (gd_find ct_M_areNear) (gd_ff fl_M) (gd_lf lc_M) := gd_mk (by decide +kernel) fb_M lb_M
def ct_M_canBe : gd_K := [(0, .aload_n 0, 0), (1, .getfield 7, 0), (4, .iload_n 1, 0), (5, .iaload, 0), (6, .iconst 1, 0), (7, .if_icmp .eq 38, 45), (10, .aload_n 0, 0), (11, .iload_n 1, 0), (12, .iload_n 2, 0), (13, .iconst 1, 0), (14, .isub, 0), (15, .invokevirtual 95, 0), (18, .ifCond .ne 27, 45), (21, .aload_n 0, 0), (22, .iload_n 1, 0), (23, .iload_n 2, 0), (24, .invokevirtual 95, 0), (27, .ifCond .ne 18, 45), (30, .aload_n 0, 0), (31, .iload_n 1, 0), (32, .iload_n 2, 0), (33, .iconst 1, 0), (34, .iadd, 0), (35, .invokevirtual 95, 0), (38, .ifCond .ne 7, 45), (41, .iconst 1, 0), (42, .goto 4, 46), (45, .iconst 0, 0), (46, .ireturn, 0)]
set_option maxRecDepth 100000 in
theorem k_M_canBe : gd_MK c_M_canBe R_M (gd_find ct_M_canBe) (gd_ff fl_M) (gd_lf lc_M) := gd_mk (by decide +kernel) fb_M lb_M
def ct_M_canEnd : gd_K := [(0, .aload_n 0, 0), (1, .getfield 7, 0), (4, .iload_n 1, 0), (5, .iaload, 0), (6, .iconst 1, 0), (7, .if_icmp .eq 43, 50), (10, .iload_n 3, 0), (11, .ifCond .eq 26, 37), (14, .aload_n 0, 0), (15, .iload_n 1, 0), (16, .iload_n 2, 0), (17, .iconst 1, 0), (18, .isub, 0), (19, .invokevirtual 95, 0), (22, .ifCond .ne 28, 50), (25, .aload_n 0, 0), (26, .iload_n 1, 0), (27, .iload_n 2, 0), (28, .invokevirtual 95, 0), (31, .ifCond .ne 19, 50), (34, .goto 12, 46), (37, .aload_n 0, 0), (38, .iload_n 1, 0), (39, .iload_n 2, 0), (40, .invokevirtual 98, 0), (43, .ifCond .eq 7, 50), (46, .iconst 1, 0), (47, .goto 4, 51), (50, .iconst 0, 0), (51, .ireturn, 0)]
set_option maxRecDepth 100000 in
theorem k_M_canEnd : gd_MK c_M_canEnd R_M (gd_find ct_M_canEnd) (gd_ff fl_M) (gd_lf lc_M) := gd_mk (by decide +kernel) fb_M lb_M
def ct_M_canRest : gd_K := [(0, .iconst 0, 0), (1, .istore_n 3, 0), (2, .iload_n 2, 0), (3, .iconst 1, 0), (4, .isub, 0), (5, .istore 4, 0), (7, .iload 4, 0), (9, .bipush 64, 0), (11, .if_icmp .ge 29, 40), (14, .iload_n 3, 0), (15, .ifCond .ne 13, 28), (18, .aload_n 0, 0), (19, .iload_n 1, 0), (20, .iload 4, 0), (22, .invokevirtual 95, 0), (25, .ifCond .eq 7, 32), (28, .iconst 1, 0), (29, .goto 4, 33), (32, .iconst 0, 0), (33, .istore_n 3, 0), (34, .iinc 4 1, 0), (37, .goto (-30), 7), (40, .iload_n 3, 0), (41, .ifCond .ne 7, 48), (44, .iconst 1, 0), (45, .goto 4, 49), (48, .iconst 0, 0), (49, .ireturn, 0)]
set_option maxRecDepth 100000 in
theorem k_M_canRest : gd_MK c_M_canRest R_M (gd_find ct_M_canRest) (gd_ff fl_M) (gd_lf lc_M) := gd_mk (by decide +kernel) fb_M lb_M
def ct_M_cell : gd_K := [(0, .aload_n 0, 0), (1, .iconst 0, 0), (2, .putfield 60, 0), (5, .iload_n 1, 0), (6, .iload_n 2, 0), (7, .invokestatic 64, 0), (10, .ifCond .eq 20, 30), (13, .iload_n 3, 0), (14, .ifCond .lt 16, 30), (17, .iload_n 3, 0), (18, .bipush 7, 0), (20, .if_icmp .gt 10, 30), (23, .aload_n 0, 0), (24, .invokevirtual 71, 0), (27, .ifCond .le 5, 32), (30, .iconst 0, 0), (31, .ireturn, 0), (32, .aload_n 0, 0), (33, .getfield 7, 0), (36, .bipush 8, 0), (38, .iload_n 2, 0), (39, .imul, 0), (40, .iload_n 1, 0), (41, .iadd, 0), (42, .iload_n 3, 0), (43, .iastore, 0), (44, .iconst 1, 0), (45, .ireturn, 0)]
set_option maxRecDepth 100000 in
theorem k_M_cell : gd_MK c_M_cell R_M (gd_find ct_M_cell) (gd_ff fl_M) (gd_lf lc_M) := gd_mk (by decide +kernel) fb_M lb_M
def ct_M_comer : gd_K := [(0, .iconst (-1), 0), (1, .istore_n 2, 0), (2, .iconst 0, 0), (3, .istore_n 3, 0), (4, .iload_n 3, 0), (5, .aload_n 0, 0), (6, .getfield 68, 0), (9, .if_icmp .ge 36, 45), (12, .aload_n 0, 0), (13, .getfield 13, 0), (16, .iload_n 3, 0), (17, .iaload, 0), (18, .ifCond .le 19, 37), (21, .aload_n 0, 0), (22, .getfield 35, 0), (25, .iload_n 3, 0), (26, .iaload, 0), (27, .iload_n 1, 0), (28, .iconst 1, 0), (29, .iadd, 0), (30, .if_icmp .ne 7, 37), (33, .iload_n 3, 0), (34, .goto 4, 38), (37, .iload_n 2, 0), (38, .istore_n 2, 0), (39, .iinc 3 1, 0), (42, .goto (-38), 4), (45, .iload_n 2, 0), (46, .ireturn, 0)]
set_option maxRecDepth 100000 in
theorem k_M_comer : gd_MK c_M_comer R_M (gd_find ct_M_comer) (gd_ff fl_M) (gd_lf lc_M) := gd_mk (by decide +kernel) fb_M lb_M
def ct_M_count : gd_K := [(0, .iconst 0, 0), (1, .istore_n 1, 0), (2, .iconst 0, 0), (3, .istore_n 2, 0), (4, .iload_n 2, 0), (5, .aload_n 0, 0), (6, .getfield 68, 0), (9, .if_icmp .ge 26, 35), (12, .aload_n 0, 0), (13, .getfield 13, 0), (16, .iload_n 2, 0), (17, .iaload, 0), (18, .ifCond .le 9, 27), (21, .iload_n 1, 0), (22, .iconst 1, 0), (23, .iadd, 0), (24, .goto 4, 28), (27, .iload_n 1, 0), (28, .istore_n 1, 0), (29, .iinc 2 1, 0), (32, .goto (-28), 4), (35, .iload_n 1, 0), (36, .ireturn, 0)]
set_option maxRecDepth 100000 in
theorem k_M_count : gd_MK c_M_count R_M (gd_find ct_M_count) (gd_ff fl_M) (gd_lf lc_M) := gd_mk (by decide +kernel) fb_M lb_M
def ct_M_discard : gd_K := [(0, .aload_n 0, 0), (1, .aload_n 0, 0), (2, .iload_n 1, 0), (3, .invokevirtual 125, 0), (6, .ifCond .ne 7, 13), (9, .iconst 1, 0), (10, .goto 31, 41), (13, .aload_n 0, 0), (14, .iload_n 1, 0), (15, .invokevirtual 129, 0), (18, .ifCond .eq 22, 40), (21, .aload_n 0, 0), (22, .getfield 7, 0), (25, .aload_n 0, 0), (26, .getfield 16, 0), (29, .iload_n 1, 0), (30, .iaload, 0), (31, .iaload, 0), (32, .iconst 2, 0), (33, .if_icmp .ne 7, 40), (36, .iconst 0, 0), (37, .goto 4, 41), (40, .iconst 2, 0), (41, .putfield 60, 0), (44, .aload_n 0, 0), (45, .getfield 60, 0), (48, .ifCond .le 5, 53), (51, .iconst 0, 0), (52, .ireturn, 0), (53, .aload_n 0, 0), (54, .getfield 13, 0), (57, .iload_n 1, 0), (58, .iaload, 0), (59, .istore_n 2, 0), (60, .aload_n 0, 0), (61, .aload_n 0, 0), (62, .getfield 135, 0), (65, .iload_n 2, 0), (66, .iadd, 0), (67, .putfield 135, 0), (70, .aload_n 0, 0), (71, .getfield 13, 0), (74, .iload_n 1, 0), (75, .iconst 0, 0), (76, .iastore, 0), (77, .iload_n 2, 0), (78, .ireturn, 0)]
set_option maxRecDepth 100000 in
theorem k_M_discard : gd_MK c_M_discard R_M (gd_find ct_M_discard) (gd_ff fl_M) (gd_lf lc_M) := gd_mk (by decide +kernel) fb_M lb_M
def ct_M_dispense : gd_K := [(0, .aload_n 0, 0), (1, .iload_n 1, 0), (2, .ifCond .lt 12, 14), (5, .iload_n 1, 0), (6, .iconst 4, 0), (7, .if_icmp .ge 7, 14), (10, .iconst 0, 0), (11, .goto 4, 15), (14, .iconst 1, 0), (15, .putfield 60, 0), (18, .aload_n 0, 0), (19, .getfield 60, 0), (22, .ifCond .le 5, 27), (25, .iconst 0, 0), (26, .ireturn, 0), (27, .aload_n 0, 0), (28, .iconst (-1), 0), (29, .iconst (-1), 0), (30, .invokevirtual 115, 0), (33, .iconst (-1), 0), (34, .istore_n 2, 0), (35, .bipush 63, 0), (37, .istore_n 3, 0), (38, .iload_n 3, 0), (39, .ifCond .lt 36, 75), (42, .aload_n 0, 0), (43, .getfield 7, 0), (46, .iload_n 3, 0), (47, .iaload, 0), (48, .iconst 4, 0), (49, .iload_n 1, 0), (50, .iadd, 0), (51, .if_icmp .ne 16, 67), (54, .aload_n 0, 0), (55, .iload_n 3, 0), (56, .iconst 0, 0), (57, .invokevirtual 98, 0), (60, .ifCond .eq 7, 67), (63, .iload_n 3, 0), (64, .goto 4, 68), (67, .iload_n 2, 0), (68, .istore_n 2, 0), (69, .iinc 3 (-1), 0), (72, .goto (-34), 38), (75, .aload_n 0, 0), (76, .iload_n 2, 0), (77, .ifCond .ge 7, 84), (80, .iconst 2, 0), (81, .goto 26, 107), (84, .aload_n 0, 0), (85, .invokevirtual 71, 0), (88, .bipush 6, 0), (90, .if_icmp .eq 12, 102), (93, .aload_n 0, 0), (94, .getfield 68, 0), (97, .bipush 60, 0), (99, .if_icmp .ne 7, 106), (102, .iconst 3, 0), (103, .goto 4, 107), (106, .iconst 0, 0), (107, .putfield 60, 0), (110, .aload_n 0, 0), (111, .getfield 60, 0), (114, .ifCond .le 5, 119), (117, .iconst 0, 0), (118, .ireturn, 0), (119, .aload_n 0, 0), (120, .iload_n 2, 0), (121, .iconst 1, 0), (122, .invokevirtual 119, 0), (125, .istore_n 3, 0), (126, .iconst 0, 0), (127, .istore 4, 0), (129, .iload 4, 0), (131, .iconst 4, 0), (132, .if_icmp .ge 31, 163), (135, .aload_n 0, 0), (136, .getfield 19, 0), (139, .iconst 4, 0), (140, .iload_n 3, 0), (141, .imul, 0), (142, .iload 4, 0), (144, .iadd, 0), (145, .iload 4, 0), (147, .iload_n 1, 0), (148, .if_icmp .ne 7, 155), (151, .lconst 1, 0), (152, .goto 4, 156), (155, .lconst 0, 0), (156, .lastore, 0), (157, .iinc 4 1, 0), (160, .goto (-31), 129), (163, .aload_n 0, 0), (164, .getfield 23, 0), (167, .iload_n 3, 0), (168, .iconst 0, 0), (169, .iastore, 0), (170, .aload_n 0, 0), (171, .aload_n 0, 0), (172, .getfield 122, 0), (175, .iconst 1, 0), (176, .iadd, 0), (177, .putfield 122, 0), (180, .iload_n 3, 0), (181, .ireturn, 0)]
set_option maxRecDepth 100000 in
theorem k_M_dispense : gd_MK c_M_dispense R_M (gd_find ct_M_dispense) (gd_ff fl_M) (gd_lf lc_M) := gd_mk (by decide +kernel) fb_M lb_M
def ct_M_droplets : gd_K := [(0, .aload_n 0, 0), (1, .iconst 0, 0), (2, .putfield 60, 0), (5, .aload_n 0, 0), (6, .invokevirtual 71, 0), (9, .ireturn, 0)]
set_option maxRecDepth 100000 in
theorem k_M_droplets : gd_MK c_M_droplets R_M (gd_find ct_M_droplets) (gd_ff fl_M) (gd_lf lc_M) := gd_mk (by decide +kernel) fb_M lb_M
def ct_M_foresee : gd_K := [(0, .aload_n 0, 0), (1, .iconst 0, 0), (2, .putfield 86, 0), (5, .iconst 0, 0), (6, .istore_n 3, 0), (7, .iload_n 3, 0), (8, .aload_n 0, 0), (9, .getfield 68, 0), (12, .if_icmp .ge 76, 88), (15, .aload_n 0, 0), (16, .getfield 13, 0), (19, .iload_n 3, 0), (20, .iaload, 0), (21, .ifCond .le 61, 82), (24, .iload_n 3, 0), (25, .iload_n 1, 0), (26, .if_icmp .eq 56, 82), (29, .iload_n 3, 0), (30, .iload_n 2, 0), (31, .if_icmp .eq 51, 82), (34, .iconst 0, 0), (35, .istore 4, 0), (37, .iload 4, 0), (39, .bipush 64, 0), (41, .if_icmp .ge 31, 72), (44, .aload_n 0, 0), (45, .getfield 50, 0), (48, .bipush 64, 0), (50, .aload_n 0, 0), (51, .getfield 86, 0), (54, .imul, 0), (55, .iload 4, 0), (57, .iadd, 0), (58, .aload_n 0, 0), (59, .iload_n 3, 0), (60, .iload 4, 0), (62, .invokevirtual 89, 0), (65, .iastore, 0), (66, .iinc 4 1, 0), (69, .goto (-32), 37), (72, .aload_n 0, 0), (73, .aload_n 0, 0), (74, .getfield 86, 0), (77, .iconst 1, 0), (78, .iadd, 0), (79, .putfield 86, 0), (82, .iinc 3 1, 0), (85, .goto (-78), 7), (88, .return_, 0)]
set_option maxRecDepth 100000 in
theorem k_M_foresee : gd_MK c_M_foresee R_M (gd_find ct_M_foresee) (gd_ff fl_M) (gd_lf lc_M) := gd_mk (by decide +kernel) fb_M lb_M
def ct_M_halve : gd_K := [(0, .aload_n 0, 0), (1, .aload_n 0, 0), (2, .iload_n 1, 0), (3, .invokevirtual 125, 0), (6, .ifCond .eq 7, 13), (9, .iconst 0, 0), (10, .goto 4, 14), (13, .iconst 1, 0), (14, .putfield 60, 0), (17, .aload_n 0, 0), (18, .getfield 60, 0), (21, .ifCond .le 5, 26), (24, .iconst 0, 0), (25, .ireturn, 0), (26, .aload_n 0, 0), (27, .getfield 16, 0), (30, .iload_n 1, 0), (31, .iaload, 0), (32, .iload_n 2, 0), (33, .ifCond .eq 7, 40), (36, .iconst 1, 0), (37, .goto 4, 41), (40, .iconst 4, 0), (41, .invokestatic 82, 0), (44, .istore_n 3, 0), (45, .aload_n 0, 0), (46, .getfield 16, 0), (49, .iload_n 1, 0), (50, .iaload, 0), (51, .iload_n 2, 0), (52, .ifCond .eq 7, 59), (55, .iconst 3, 0), (56, .goto 4, 60), (59, .iconst 2, 0), (60, .invokestatic 82, 0), (63, .istore 4, 0), (65, .aload_n 0, 0), (66, .iload_n 1, 0), (67, .iconst (-1), 0), (68, .invokevirtual 115, 0), (71, .iload_n 3, 0), (72, .ifCond .lt 12, 84), (75, .iload 4, 0), (77, .ifCond .lt 7, 84), (80, .iconst 1, 0), (81, .goto 4, 85), (84, .iconst 0, 0), (85, .istore 5, 0), (87, .iload 5, 0), (89, .ifCond .eq 47, 136), (92, .aload_n 0, 0), (93, .getfield 7, 0), (96, .iload_n 3, 0), (97, .iaload, 0), (98, .iconst 1, 0), (99, .if_icmp .eq 37, 136), (102, .aload_n 0, 0), (103, .getfield 7, 0), (106, .iload 4, 0), (108, .iaload, 0), (109, .iconst 1, 0), (110, .if_icmp .eq 26, 136), (113, .aload_n 0, 0), (114, .iload_n 3, 0), (115, .iconst 0, 0), (116, .invokevirtual 98, 0), (119, .ifCond .eq 17, 136), (122, .aload_n 0, 0), (123, .iload 4, 0), (125, .iconst 0, 0), (126, .invokevirtual 98, 0), (129, .ifCond .eq 7, 136), (132, .iconst 1, 0), (133, .goto 4, 137), (136, .iconst 0, 0), (137, .istore 6, 0), (139, .aload_n 0, 0), (140, .aload_n 0, 0), (141, .iload_n 1, 0), (142, .invokevirtual 129, 0), (145, .ifCond .eq 40, 185), (148, .aload_n 0, 0), (149, .getfield 13, 0), (152, .iload_n 1, 0), (153, .iaload, 0), (154, .iconst 2, 0), (155, .if_icmp .ne 30, 185), (158, .iload 6, 0), (160, .ifCond .eq 25, 185), (163, .aload_n 0, 0), (164, .invokevirtual 71, 0), (167, .bipush 6, 0), (169, .if_icmp .ge 16, 185), (172, .aload_n 0, 0), (173, .getfield 68, 0), (176, .bipush 59, 0), (178, .if_icmp .ge 7, 185), (181, .iconst 0, 0), (182, .goto 4, 186), (185, .iconst 2, 0), (186, .putfield 60, 0), (189, .aload_n 0, 0), (190, .getfield 60, 0), (193, .ifCond .le 5, 198), (196, .iconst 0, 0), (197, .ireturn, 0), (198, .aload_n 0, 0), (199, .getfield 13, 0), (202, .iload_n 1, 0), (203, .iconst 0, 0), (204, .iastore, 0), (205, .aload_n 0, 0), (206, .iload_n 3, 0), (207, .iconst 1, 0), (208, .invokevirtual 119, 0), (211, .istore 7, 0), (213, .aload_n 0, 0), (214, .iload 4, 0), (216, .iconst 1, 0), (217, .invokevirtual 119, 0), (220, .pop, 0), (221, .iconst 0, 0), (222, .istore 8, 0), (224, .iload 8, 0), (226, .bipush 8, 0), (228, .if_icmp .ge 34, 262), (231, .aload_n 0, 0), (232, .getfield 19, 0), (235, .iconst 4, 0), (236, .iload 7, 0), (238, .imul, 0), (239, .iload 8, 0), (241, .iadd, 0), (242, .aload_n 0, 0), (243, .getfield 19, 0), (246, .iconst 4, 0), (247, .iload_n 1, 0), (248, .imul, 0), (249, .iload 8, 0), (251, .iconst 4, 0), (252, .irem, 0), (253, .iadd, 0), (254, .laload, 0), (255, .lastore, 0), (256, .iinc 8 1, 0), (259, .goto (-35), 224), (262, .aload_n 0, 0), (263, .getfield 23, 0), (266, .iload 7, 0), (268, .aload_n 0, 0), (269, .getfield 23, 0), (272, .iload_n 1, 0), (273, .iaload, 0), (274, .iastore, 0), (275, .aload_n 0, 0), (276, .getfield 23, 0), (279, .iload 7, 0), (281, .iconst 1, 0), (282, .iadd, 0), (283, .aload_n 0, 0), (284, .getfield 23, 0), (287, .iload_n 1, 0), (288, .iaload, 0), (289, .iastore, 0), (290, .iload 7, 0), (292, .ireturn, 0)]
set_option maxRecDepth 100000 in
theorem k_M_halve : gd_MK c_M_halve R_M (gd_find ct_M_halve) (gd_ff fl_M) (gd_lf lc_M) := gd_mk (by decide +kernel) fb_M lb_M
def ct_M_init : gd_K := [(0, .aload_n 0, 0), (1, .invokespecial 1, 0), (4, .aload_n 0, 0), (5, .bipush 64, 0), (7, .newarray .int, 0), (9, .putfield 7, 0), (12, .aload_n 0, 0), (13, .bipush 60, 0), (15, .newarray .int, 0), (17, .putfield 13, 0), (20, .aload_n 0, 0), (21, .bipush 60, 0), (23, .newarray .int, 0), (25, .putfield 16, 0), (28, .aload_n 0, 0), (29, .sipush 240, 0), (32, .newarray .long, 0), (34, .putfield 19, 0), (37, .aload_n 0, 0), (38, .bipush 60, 0), (40, .newarray .int, 0), (42, .putfield 23, 0), (45, .aload_n 0, 0), (46, .sipush 3600, 0), (49, .newarray .int, 0), (51, .putfield 26, 0), (54, .aload_n 0, 0), (55, .bipush 60, 0), (57, .newarray .int, 0), (59, .putfield 29, 0), (62, .aload_n 0, 0), (63, .bipush 60, 0), (65, .newarray .int, 0), (67, .putfield 32, 0), (70, .aload_n 0, 0), (71, .bipush 60, 0), (73, .newarray .int, 0), (75, .putfield 35, 0), (78, .aload_n 0, 0), (79, .bipush 50, 0), (81, .newarray .int, 0), (83, .putfield 38, 0), (86, .aload_n 0, 0), (87, .bipush 50, 0), (89, .newarray .int, 0), (91, .putfield 41, 0), (94, .aload_n 0, 0), (95, .bipush 50, 0), (97, .newarray .int, 0), (99, .putfield 44, 0), (102, .aload_n 0, 0), (103, .bipush 50, 0), (105, .newarray .int, 0), (107, .putfield 47, 0), (110, .aload_n 0, 0), (111, .sipush 384, 0), (114, .newarray .int, 0), (116, .putfield 50, 0), (119, .aload_n 0, 0), (120, .sipush 3904, 0), (123, .newarray .boolean, 0), (125, .putfield 53, 0), (128, .aload_n 0, 0), (129, .sipush 3904, 0), (132, .newarray .boolean, 0), (134, .putfield 57, 0), (137, .return_, 0)]
set_option maxRecDepth 100000 in
theorem k_M_init : gd_MK c_M_init R_M (gd_find ct_M_init) (gd_ff fl_M) (gd_lf lc_M) := gd_mk (by decide +kernel) fb_M lb_M
def ct_M_isCell : gd_K := [(0, .iload_n 0, 0), (1, .ifCond .lt 23, 24), (4, .iload_n 0, 0), (5, .bipush 8, 0), (7, .if_icmp .ge 17, 24), (10, .iload_n 1, 0), (11, .ifCond .lt 13, 24), (14, .iload_n 1, 0), (15, .bipush 8, 0), (17, .if_icmp .ge 7, 24), (20, .iconst 1, 0), (21, .goto 4, 25), (24, .iconst 0, 0), (25, .ireturn, 0)]
set_option maxRecDepth 100000 in
theorem k_M_isCell : gd_MK c_M_isCell R_M (gd_find ct_M_isCell) (gd_ff fl_M) (gd_lf lc_M) := gd_mk (by decide +kernel) fb_M lb_M
def ct_M_isDrop : gd_K := [(0, .iload_n 1, 0), (1, .ifCond .lt 24, 25), (4, .iload_n 1, 0), (5, .aload_n 0, 0), (6, .getfield 68, 0), (9, .if_icmp .ge 16, 25), (12, .aload_n 0, 0), (13, .getfield 13, 0), (16, .iload_n 1, 0), (17, .iaload, 0), (18, .ifCond .le 7, 25), (21, .iconst 1, 0), (22, .goto 4, 26), (25, .iconst 0, 0), (26, .ireturn, 0)]
set_option maxRecDepth 100000 in
theorem k_M_isDrop : gd_MK c_M_isDrop R_M (gd_find ct_M_isDrop) (gd_ff fl_M) (gd_lf lc_M) := gd_mk (by decide +kernel) fb_M lb_M
def ct_M_isFree : gd_K := [(0, .aload_n 0, 0), (1, .iload_n 1, 0), (2, .invokevirtual 75, 0), (5, .ifCond .ne 15, 20), (8, .aload_n 0, 0), (9, .iload_n 1, 0), (10, .invokevirtual 79, 0), (13, .ifCond .ge 7, 20), (16, .iconst 1, 0), (17, .goto 4, 21), (20, .iconst 0, 0), (21, .ireturn, 0)]
set_option maxRecDepth 100000 in
theorem k_M_isFree : gd_MK c_M_isFree R_M (gd_find ct_M_isFree) (gd_ff fl_M) (gd_lf lc_M) := gd_mk (by decide +kernel) fb_M lb_M
def ct_M_isMet : gd_K := [(0, .iconst 0, 0), (1, .istore_n 3, 0), (2, .iconst 0, 0), (3, .istore 4, 0), (5, .iload 4, 0), (7, .aload_n 0, 0), (8, .getfield 86, 0), (11, .if_icmp .ge 51, 62), (14, .iload_n 2, 0), (15, .ifCond .lt 47, 62), (18, .aload_n 0, 0), (19, .getfield 50, 0), (22, .bipush 64, 0), (24, .iload 4, 0), (26, .imul, 0), (27, .iload_n 2, 0), (28, .iadd, 0), (29, .iaload, 0), (30, .istore 5, 0), (32, .iload_n 3, 0), (33, .ifCond .ne 17, 50), (36, .iload 5, 0), (38, .ifCond .lt 16, 54), (41, .iload_n 1, 0), (42, .iload 5, 0), (44, .invokestatic 92, 0), (47, .ifCond .eq 7, 54), (50, .iconst 1, 0), (51, .goto 4, 55), (54, .iconst 0, 0), (55, .istore_n 3, 0), (56, .iinc 4 1, 0), (59, .goto (-54), 5), (62, .iload_n 3, 0), (63, .ireturn, 0)]
set_option maxRecDepth 100000 in
theorem k_M_isMet : gd_MK c_M_isMet R_M (gd_find ct_M_isMet) (gd_ff fl_M) (gd_lf lc_M) := gd_mk (by decide +kernel) fb_M lb_M
def ct_M_isNext : gd_K := [(0, .iconst 0, 0), (1, .istore_n 3, 0), (2, .iconst 0, 0), (3, .istore 4, 0), (5, .iload 4, 0), (7, .iconst 5, 0), (8, .if_icmp .ge 49, 57), (11, .iload_n 1, 0), (12, .iload 4, 0), (14, .invokestatic 82, 0), (17, .istore 5, 0), (19, .iload_n 3, 0), (20, .ifCond .ne 25, 45), (23, .iload 5, 0), (25, .ifCond .lt 24, 49), (28, .aload_n 0, 0), (29, .getfield 53, 0), (32, .bipush 64, 0), (34, .iload_n 2, 0), (35, .iconst 1, 0), (36, .isub, 0), (37, .imul, 0), (38, .iload 5, 0), (40, .iadd, 0), (41, .baload, 0), (42, .ifCond .eq 7, 49), (45, .iconst 1, 0), (46, .goto 4, 50), (49, .iconst 0, 0), (50, .istore_n 3, 0), (51, .iinc 4 1, 0), (54, .goto (-49), 5), (57, .iload_n 3, 0), (58, .ireturn, 0)]
set_option maxRecDepth 100000 in
theorem k_M_isNext : gd_MK c_M_isNext R_M (gd_find ct_M_isNext) (gd_ff fl_M) (gd_lf lc_M) := gd_mk (by decide +kernel) fb_M lb_M
def ct_M_join : gd_K := [(0, .aload_n 0, 0), (1, .aload_n 0, 0), (2, .iload_n 1, 0), (3, .invokevirtual 125, 0), (6, .ifCond .eq 16, 22), (9, .aload_n 0, 0), (10, .iload_n 2, 0), (11, .invokevirtual 125, 0), (14, .ifCond .eq 8, 22), (17, .iload_n 1, 0), (18, .iload_n 2, 0), (19, .if_icmp .ne 7, 26), (22, .iconst 1, 0), (23, .goto 44, 67), (26, .aload_n 0, 0), (27, .iload_n 1, 0), (28, .invokevirtual 129, 0), (31, .ifCond .eq 31, 62), (34, .aload_n 0, 0), (35, .iload_n 2, 0), (36, .invokevirtual 129, 0), (39, .ifCond .eq 23, 62), (42, .aload_n 0, 0), (43, .getfield 13, 0), (46, .iload_n 1, 0), (47, .iaload, 0), (48, .iconst 1, 0), (49, .if_icmp .ne 13, 62), (52, .aload_n 0, 0), (53, .getfield 13, 0), (56, .iload_n 2, 0), (57, .iaload, 0), (58, .iconst 1, 0), (59, .if_icmp .eq 7, 66), (62, .iconst 2, 0), (63, .goto 4, 67), (66, .iconst 0, 0), (67, .putfield 60, 0), (70, .aload_n 0, 0), (71, .getfield 60, 0), (74, .ifCond .le 5, 79), (77, .iconst 0, 0), (78, .ireturn, 0), (79, .aload_n 0, 0), (80, .iload_n 1, 0), (81, .iload_n 2, 0), (82, .invokevirtual 115, 0), (85, .aload_n 0, 0), (86, .iload_n 1, 0), (87, .aload_n 0, 0), (88, .getfield 16, 0), (91, .iload_n 2, 0), (92, .iaload, 0), (93, .iconst 1, 0), (94, .invokevirtual 132, 0), (97, .istore_n 3, 0), (98, .iload_n 3, 0), (99, .ifCond .ge 10, 109), (102, .aload_n 0, 0), (103, .iconst 3, 0), (104, .putfield 60, 0), (107, .iconst 0, 0), (108, .ireturn, 0), (109, .aload_n 0, 0), (110, .getfield 35, 0), (113, .iload_n 1, 0), (114, .iload_n 2, 0), (115, .iconst 1, 0), (116, .iadd, 0), (117, .iastore, 0), (118, .iload_n 3, 0), (119, .ireturn, 0)]
set_option maxRecDepth 100000 in
theorem k_M_join : gd_MK c_M_join R_M (gd_find ct_M_join) (gd_ff fl_M) (gd_lf lc_M) := gd_mk (by decide +kernel) fb_M lb_M
def ct_M_kind : gd_K := [(0, .aload_n 0, 0), (1, .iconst 0, 0), (2, .putfield 60, 0), (5, .iload_n 1, 0), (6, .iload_n 2, 0), (7, .invokestatic 64, 0), (10, .ifCond .eq 17, 27), (13, .aload_n 0, 0), (14, .getfield 7, 0), (17, .bipush 8, 0), (19, .iload_n 2, 0), (20, .imul, 0), (21, .iload_n 1, 0), (22, .iadd, 0), (23, .iaload, 0), (24, .goto 4, 28), (27, .iconst (-1), 0), (28, .ireturn, 0)]
set_option maxRecDepth 100000 in
theorem k_M_kind : gd_MK c_M_kind R_M (gd_find ct_M_kind) (gd_ff fl_M) (gd_lf lc_M) := gd_mk (by decide +kernel) fb_M lb_M
def ct_M_lay : gd_K := [(0, .aload_n 0, 0), (1, .aload_n 0, 0), (2, .getfield 16, 0), (5, .iload_n 1, 0), (6, .iaload, 0), (7, .iload_n 2, 0), (8, .iload_n 3, 0), (9, .invokevirtual 111, 0), (12, .istore 4, 0), (14, .iload 4, 0), (16, .ifCond .ge 5, 21), (19, .iconst (-1), 0), (20, .ireturn, 0), (21, .iconst 0, 0), (22, .istore 5, 0), (24, .iload 5, 0), (26, .bipush 64, 0), (28, .if_icmp .ge 33, 61), (31, .aload_n 0, 0), (32, .getfield 57, 0), (35, .bipush 64, 0), (37, .iload 4, 0), (39, .imul, 0), (40, .iload 5, 0), (42, .iadd, 0), (43, .iload 5, 0), (45, .iload_n 2, 0), (46, .if_icmp .ne 7, 53), (49, .iconst 1, 0), (50, .goto 4, 54), (53, .iconst 0, 0), (54, .bastore, 0), (55, .iinc 5 1, 0), (58, .goto (-34), 24), (61, .iload 4, 0), (63, .iconst 1, 0), (64, .isub, 0), (65, .istore 5, 0), (67, .iload 5, 0), (69, .ifCond .lt 126, 195), (72, .iconst 0, 0), (73, .istore 6, 0), (75, .iload 6, 0), (77, .bipush 64, 0), (79, .if_icmp .ge 110, 189), (82, .iconst 0, 0), (83, .istore 7, 0), (85, .iconst 0, 0), (86, .istore 8, 0), (88, .iload 8, 0), (90, .iconst 5, 0), (91, .if_icmp .ge 53, 144), (94, .iload 6, 0), (96, .iload 8, 0), (98, .invokestatic 82, 0), (101, .istore 9, 0), (103, .iload 7, 0), (105, .ifCond .ne 26, 131), (108, .iload 9, 0), (110, .ifCond .lt 25, 135), (113, .aload_n 0, 0), (114, .getfield 57, 0), (117, .bipush 64, 0), (119, .iload 5, 0), (121, .iconst 1, 0), (122, .iadd, 0), (123, .imul, 0), (124, .iload 9, 0), (126, .iadd, 0), (127, .baload, 0), (128, .ifCond .eq 7, 135), (131, .iconst 1, 0), (132, .goto 4, 136), (135, .iconst 0, 0), (136, .istore 7, 0), (138, .iinc 8 1, 0), (141, .goto (-53), 88), (144, .aload_n 0, 0), (145, .getfield 57, 0), (148, .bipush 64, 0), (150, .iload 5, 0), (152, .imul, 0), (153, .iload 6, 0), (155, .iadd, 0), (156, .iload 7, 0), (158, .ifCond .eq 23, 181), (161, .aload_n 0, 0), (162, .getfield 53, 0), (165, .bipush 64, 0), (167, .iload 5, 0), (169, .imul, 0), (170, .iload 6, 0), (172, .iadd, 0), (173, .baload, 0), (174, .ifCond .eq 7, 181), (177, .iconst 1, 0), (178, .goto 4, 182), (181, .iconst 0, 0), (182, .bastore, 0), (183, .iinc 6 1, 0), (186, .goto (-111), 75), (189, .iinc 5 (-1), 0), (192, .goto (-125), 67), (195, .aload_n 0, 0), (196, .getfield 16, 0), (199, .iload_n 1, 0), (200, .iaload, 0), (201, .istore 5, 0), (203, .iconst 0, 0), (204, .istore 6, 0), (206, .iload 6, 0), (208, .iload 4, 0), (210, .if_icmp .ge 77, 287), (213, .iconst 0, 0), (214, .istore 7, 0), (216, .iload 5, 0), (218, .iload 7, 0), (220, .invokestatic 82, 0), (223, .ifCond .lt 26, 249), (226, .aload_n 0, 0), (227, .getfield 57, 0), (230, .bipush 64, 0), (232, .iload 6, 0), (234, .iconst 1, 0), (235, .iadd, 0), (236, .imul, 0), (237, .iload 5, 0), (239, .iload 7, 0), (241, .invokestatic 82, 0), (244, .iadd, 0), (245, .baload, 0), (246, .ifCond .ne 12, 258), (249, .iload 7, 0), (251, .iconst 1, 0), (252, .iadd, 0), (253, .istore 7, 0), (255, .goto (-39), 216), (258, .aload_n 0, 0), (259, .getfield 26, 0), (262, .bipush 60, 0), (264, .iload_n 1, 0), (265, .imul, 0), (266, .iload 6, 0), (268, .iadd, 0), (269, .iload 7, 0), (271, .iastore, 0), (272, .iload 5, 0), (274, .iload 7, 0), (276, .invokestatic 82, 0), (279, .istore 5, 0), (281, .iinc 6 1, 0), (284, .goto (-78), 206), (287, .aload_n 0, 0), (288, .getfield 29, 0), (291, .iload_n 1, 0), (292, .iload 4, 0), (294, .iastore, 0), (295, .aload_n 0, 0), (296, .getfield 32, 0), (299, .iload_n 1, 0), (300, .iconst 0, 0), (301, .iastore, 0), (302, .iload 4, 0), (304, .ireturn, 0)]
set_option maxRecDepth 100000 in
theorem k_M_lay : gd_MK c_M_lay R_M (gd_find ct_M_lay) (gd_ff fl_M) (gd_lf lc_M) := gd_mk (by decide +kernel) fb_M lb_M
def ct_M_left : gd_K := [(0, .aload_n 0, 0), (1, .getfield 29, 0), (4, .iload_n 1, 0), (5, .iaload, 0), (6, .aload_n 0, 0), (7, .getfield 32, 0), (10, .iload_n 1, 0), (11, .iaload, 0), (12, .isub, 0), (13, .ireturn, 0)]
set_option maxRecDepth 100000 in
theorem k_M_left : gd_MK c_M_left R_M (gd_find ct_M_left) (gd_ff fl_M) (gd_lf lc_M) := gd_mk (by decide +kernel) fb_M lb_M
def ct_M_look : gd_K := [(0, .aload_n 0, 0), (1, .aload_n 0, 0), (2, .iload_n 1, 0), (3, .invokevirtual 125, 0), (6, .ifCond .eq 16, 22), (9, .iload_n 2, 0), (10, .ifCond .lt 12, 22), (13, .iload_n 2, 0), (14, .iconst 4, 0), (15, .if_icmp .gt 7, 22), (18, .iconst 0, 0), (19, .goto 4, 23), (22, .iconst 1, 0), (23, .putfield 60, 0), (26, .aload_n 0, 0), (27, .getfield 60, 0), (30, .ifCond .le 5, 35), (33, .iconst 0, 0), (34, .ireturn, 0), (35, .iload_n 2, 0), (36, .ifCond .ne 12, 48), (39, .aload_n 0, 0), (40, .getfield 16, 0), (43, .iload_n 1, 0), (44, .iaload, 0), (45, .goto 51, 96), (48, .iload_n 2, 0), (49, .iconst 1, 0), (50, .if_icmp .ne 12, 62), (53, .aload_n 0, 0), (54, .getfield 13, 0), (57, .iload_n 1, 0), (58, .iaload, 0), (59, .goto 37, 96), (62, .iload_n 2, 0), (63, .iconst 2, 0), (64, .if_icmp .ne 11, 75), (67, .aload_n 0, 0), (68, .iload_n 1, 0), (69, .invokevirtual 75, 0), (72, .goto 24, 96), (75, .iload_n 2, 0), (76, .iconst 3, 0), (77, .if_icmp .ne 14, 91), (80, .aload_n 0, 0), (81, .getfield 35, 0), (84, .iload_n 1, 0), (85, .iaload, 0), (86, .iconst 1, 0), (87, .isub, 0), (88, .goto 8, 96), (91, .aload_n 0, 0), (92, .iload_n 1, 0), (93, .invokevirtual 79, 0), (96, .ireturn, 0)]
set_option maxRecDepth 100000 in
theorem k_M_look : gd_MK c_M_look R_M (gd_find ct_M_look) (gd_ff fl_M) (gd_lf lc_M) := gd_mk (by decide +kernel) fb_M lb_M
def ct_M_moved : gd_K := [(0, .iload_n 0, 0), (1, .bipush 8, 0), (3, .irem, 0), (4, .iload_n 1, 0), (5, .iconst 2, 0), (6, .if_icmp .ne 7, 13), (9, .iconst 1, 0), (10, .goto 13, 23), (13, .iload_n 1, 0), (14, .iconst 4, 0), (15, .if_icmp .ne 7, 22), (18, .iconst (-1), 0), (19, .goto 4, 23), (22, .iconst 0, 0), (23, .iadd, 0), (24, .istore_n 2, 0), (25, .iload_n 0, 0), (26, .bipush 8, 0), (28, .idiv, 0), (29, .iload_n 1, 0), (30, .iconst 3, 0), (31, .if_icmp .ne 7, 38), (34, .iconst 1, 0), (35, .goto 13, 48), (38, .iload_n 1, 0), (39, .iconst 1, 0), (40, .if_icmp .ne 7, 47), (43, .iconst (-1), 0), (44, .goto 4, 48), (47, .iconst 0, 0), (48, .iadd, 0), (49, .istore_n 3, 0), (50, .iload_n 2, 0), (51, .iload_n 3, 0), (52, .invokestatic 64, 0), (55, .ifCond .eq 12, 67), (58, .bipush 8, 0), (60, .iload_n 3, 0), (61, .imul, 0), (62, .iload_n 2, 0), (63, .iadd, 0), (64, .goto 4, 68), (67, .iconst (-1), 0), (68, .ireturn, 0)]
set_option maxRecDepth 100000 in
theorem k_M_moved : gd_MK c_M_moved R_M (gd_find ct_M_moved) (gd_ff fl_M) (gd_lf lc_M) := gd_mk (by decide +kernel) fb_M lb_M
def ct_M_placeAfter : gd_K := [(0, .aload_n 0, 0), (1, .getfield 35, 0), (4, .iload_n 1, 0), (5, .iaload, 0), (6, .ifCond .le 14, 20), (9, .iload_n 2, 0), (10, .aload_n 0, 0), (11, .iload_n 1, 0), (12, .invokevirtual 75, 0), (15, .if_icmp .lt 5, 20), (18, .iconst (-1), 0), (19, .ireturn, 0), (20, .aload_n 0, 0), (21, .getfield 16, 0), (24, .iload_n 1, 0), (25, .iaload, 0), (26, .istore_n 3, 0), (27, .iconst 0, 0), (28, .istore 4, 0), (30, .iload 4, 0), (32, .iload_n 2, 0), (33, .if_icmp .ge 43, 76), (36, .iload 4, 0), (38, .aload_n 0, 0), (39, .iload_n 1, 0), (40, .invokevirtual 75, 0), (43, .if_icmp .ge 33, 76), (46, .iload_n 3, 0), (47, .aload_n 0, 0), (48, .getfield 26, 0), (51, .bipush 60, 0), (53, .iload_n 1, 0), (54, .imul, 0), (55, .aload_n 0, 0), (56, .getfield 32, 0), (59, .iload_n 1, 0), (60, .iaload, 0), (61, .iadd, 0), (62, .iload 4, 0), (64, .iadd, 0), (65, .iaload, 0), (66, .invokestatic 82, 0), (69, .istore_n 3, 0), (70, .iinc 4 1, 0), (73, .goto (-43), 30), (76, .iload_n 3, 0), (77, .ireturn, 0)]
set_option maxRecDepth 100000 in
theorem k_M_placeAfter : gd_MK c_M_placeAfter R_M (gd_find ct_M_placeAfter) (gd_ff fl_M) (gd_lf lc_M) := gd_mk (by decide +kernel) fb_M lb_M
def ct_M_read : gd_K := [(0, .aload_n 0, 0), (1, .getfield 140, 0), (4, .bipush 50, 0), (6, .if_icmp .ne 79, 85), (9, .iconst 0, 0), (10, .istore_n 2, 0), (11, .iload_n 2, 0), (12, .bipush 49, 0), (14, .if_icmp .ge 65, 79), (17, .aload_n 0, 0), (18, .getfield 38, 0), (21, .iload_n 2, 0), (22, .aload_n 0, 0), (23, .getfield 38, 0), (26, .iload_n 2, 0), (27, .iconst 1, 0), (28, .iadd, 0), (29, .iaload, 0), (30, .iastore, 0), (31, .aload_n 0, 0), (32, .getfield 41, 0), (35, .iload_n 2, 0), (36, .aload_n 0, 0), (37, .getfield 41, 0), (40, .iload_n 2, 0), (41, .iconst 1, 0), (42, .iadd, 0), (43, .iaload, 0), (44, .iastore, 0), (45, .aload_n 0, 0), (46, .getfield 44, 0), (49, .iload_n 2, 0), (50, .aload_n 0, 0), (51, .getfield 44, 0), (54, .iload_n 2, 0), (55, .iconst 1, 0), (56, .iadd, 0), (57, .iaload, 0), (58, .iastore, 0), (59, .aload_n 0, 0), (60, .getfield 47, 0), (63, .iload_n 2, 0), (64, .aload_n 0, 0), (65, .getfield 47, 0), (68, .iload_n 2, 0), (69, .iconst 1, 0), (70, .iadd, 0), (71, .iaload, 0), (72, .iastore, 0), (73, .iinc 2 1, 0), (76, .goto (-65), 11), (79, .aload_n 0, 0), (80, .bipush 49, 0), (82, .putfield 140, 0), (85, .aload_n 0, 0), (86, .getfield 38, 0), (89, .aload_n 0, 0), (90, .getfield 140, 0), (93, .iload_n 1, 0), (94, .iastore, 0), (95, .aload_n 0, 0), (96, .getfield 41, 0), (99, .aload_n 0, 0), (100, .getfield 140, 0), (103, .aload_n 0, 0), (104, .getfield 143, 0), (107, .iastore, 0), (108, .aload_n 0, 0), (109, .getfield 44, 0), (112, .aload_n 0, 0), (113, .getfield 140, 0), (116, .aload_n 0, 0), (117, .getfield 16, 0), (120, .iload_n 1, 0), (121, .iaload, 0), (122, .iastore, 0), (123, .aload_n 0, 0), (124, .getfield 47, 0), (127, .aload_n 0, 0), (128, .getfield 140, 0), (131, .aload_n 0, 0), (132, .getfield 13, 0), (135, .iload_n 1, 0), (136, .iaload, 0), (137, .iastore, 0), (138, .aload_n 0, 0), (139, .aload_n 0, 0), (140, .getfield 140, 0), (143, .iconst 1, 0), (144, .iadd, 0), (145, .putfield 140, 0), (148, .return_, 0)]
set_option maxRecDepth 100000 in
theorem k_M_read : gd_MK c_M_read R_M (gd_find ct_M_read) (gd_ff fl_M) (gd_lf lc_M) := gd_mk (by decide +kernel) fb_M lb_M
def ct_M_reading : gd_K := [(0, .aload_n 0, 0), (1, .iload_n 1, 0), (2, .ifCond .lt 24, 26), (5, .iload_n 1, 0), (6, .aload_n 0, 0), (7, .getfield 140, 0), (10, .if_icmp .ge 16, 26), (13, .iload_n 2, 0), (14, .ifCond .lt 12, 26), (17, .iload_n 2, 0), (18, .iconst 3, 0), (19, .if_icmp .gt 7, 26), (22, .iconst 0, 0), (23, .goto 4, 27), (26, .iconst 1, 0), (27, .putfield 60, 0), (30, .aload_n 0, 0), (31, .getfield 60, 0), (34, .ifCond .le 5, 39), (37, .iconst 0, 0), (38, .ireturn, 0), (39, .iload_n 2, 0), (40, .ifCond .ne 12, 52), (43, .aload_n 0, 0), (44, .getfield 38, 0), (47, .iload_n 1, 0), (48, .iaload, 0), (49, .goto 37, 86), (52, .iload_n 2, 0), (53, .iconst 1, 0), (54, .if_icmp .ne 12, 66), (57, .aload_n 0, 0), (58, .getfield 41, 0), (61, .iload_n 1, 0), (62, .iaload, 0), (63, .goto 23, 86), (66, .iload_n 2, 0), (67, .iconst 2, 0), (68, .if_icmp .ne 12, 80), (71, .aload_n 0, 0), (72, .getfield 44, 0), (75, .iload_n 1, 0), (76, .iaload, 0), (77, .goto 9, 86), (80, .aload_n 0, 0), (81, .getfield 47, 0), (84, .iload_n 1, 0), (85, .iaload, 0), (86, .ireturn, 0)]
set_option maxRecDepth 100000 in
theorem k_M_reading : gd_MK c_M_reading R_M (gd_find ct_M_reading) (gd_ff fl_M) (gd_lf lc_M) := gd_mk (by decide +kernel) fb_M lb_M
def ct_M_run : gd_K := [(0, .aload_n 0, 0), (1, .iload_n 1, 0), (2, .ifCond .lt 13, 15), (5, .iload_n 1, 0), (6, .bipush 100, 0), (8, .if_icmp .gt 7, 15), (11, .iconst 0, 0), (12, .goto 4, 16), (15, .iconst 1, 0), (16, .putfield 60, 0), (19, .aload_n 0, 0), (20, .getfield 60, 0), (23, .ifCond .le 5, 28), (26, .iconst 0, 0), (27, .ireturn, 0), (28, .iconst 0, 0), (29, .istore_n 2, 0), (30, .iconst 0, 0), (31, .istore_n 3, 0), (32, .iload_n 3, 0), (33, .iload_n 1, 0), (34, .if_icmp .ge 16, 50), (37, .iload_n 2, 0), (38, .aload_n 0, 0), (39, .invokevirtual 153, 0), (42, .iadd, 0), (43, .istore_n 2, 0), (44, .iinc 3 1, 0), (47, .goto (-15), 32), (50, .iload_n 2, 0), (51, .ireturn, 0)]
set_option maxRecDepth 100000 in
theorem k_M_run : gd_MK c_M_run R_M (gd_find ct_M_run) (gd_ff fl_M) (gd_lf lc_M) := gd_mk (by decide +kernel) fb_M lb_M
def ct_M_send : gd_K := [(0, .aload_n 0, 0), (1, .aload_n 0, 0), (2, .iload_n 1, 0), (3, .invokevirtual 125, 0), (6, .ifCond .eq 11, 17), (9, .iload_n 2, 0), (10, .iload_n 3, 0), (11, .invokestatic 64, 0), (14, .ifCond .ne 7, 21), (17, .iconst 1, 0), (18, .goto 16, 34), (21, .aload_n 0, 0), (22, .iload_n 1, 0), (23, .invokevirtual 129, 0), (26, .ifCond .ne 7, 33), (29, .iconst 2, 0), (30, .goto 4, 34), (33, .iconst 0, 0), (34, .putfield 60, 0), (37, .aload_n 0, 0), (38, .getfield 60, 0), (41, .ifCond .le 5, 46), (44, .iconst 0, 0), (45, .ireturn, 0), (46, .aload_n 0, 0), (47, .iload_n 1, 0), (48, .iconst (-1), 0), (49, .invokevirtual 115, 0), (52, .aload_n 0, 0), (53, .iload_n 1, 0), (54, .bipush 8, 0), (56, .iload_n 3, 0), (57, .imul, 0), (58, .iload_n 2, 0), (59, .iadd, 0), (60, .iconst 0, 0), (61, .invokevirtual 132, 0), (64, .istore 4, 0), (66, .aload_n 0, 0), (67, .iload 4, 0), (69, .ifCond .ge 7, 76), (72, .iconst 3, 0), (73, .goto 4, 77), (76, .iconst 0, 0), (77, .putfield 60, 0), (80, .aload_n 0, 0), (81, .getfield 60, 0), (84, .ifCond .le 7, 91), (87, .iconst 0, 0), (88, .goto 5, 93), (91, .iload 4, 0), (93, .ireturn, 0)]
set_option maxRecDepth 100000 in
theorem k_M_send : gd_MK c_M_send R_M (gd_find ct_M_send) (gd_ff fl_M) (gd_lf lc_M) := gd_mk (by decide +kernel) fb_M lb_M
def ct_M_share : gd_K := [(0, .aload_n 0, 0), (1, .aload_n 0, 0), (2, .iload_n 1, 0), (3, .invokevirtual 125, 0), (6, .ifCond .eq 16, 22), (9, .iload_n 2, 0), (10, .ifCond .lt 12, 22), (13, .iload_n 2, 0), (14, .iconst 4, 0), (15, .if_icmp .gt 7, 22), (18, .iconst 0, 0), (19, .goto 4, 23), (22, .iconst 1, 0), (23, .putfield 60, 0), (26, .aload_n 0, 0), (27, .getfield 60, 0), (30, .ifCond .le 7, 37), (33, .lconst 0, 0), (34, .goto 28, 62), (37, .iload_n 2, 0), (38, .iconst 4, 0), (39, .if_icmp .ne 13, 52), (42, .aload_n 0, 0), (43, .getfield 23, 0), (46, .iload_n 1, 0), (47, .iaload, 0), (48, .i2l, 0), (49, .goto 13, 62), (52, .aload_n 0, 0), (53, .getfield 19, 0), (56, .iconst 4, 0), (57, .iload_n 1, 0), (58, .imul, 0), (59, .iload_n 2, 0), (60, .iadd, 0), (61, .laload, 0), (62, .lreturn, 0)]
set_option maxRecDepth 100000 in
theorem k_M_share : gd_MK c_M_share R_M (gd_find ct_M_share) (gd_ff fl_M) (gd_lf lc_M) := gd_mk (by decide +kernel) fb_M lb_M
def ct_M_spread : gd_K := [(0, .iconst 0, 0), (1, .istore 4, 0), (3, .iload 4, 0), (5, .bipush 64, 0), (7, .if_icmp .ge 27, 34), (10, .aload_n 0, 0), (11, .getfield 53, 0), (14, .iload 4, 0), (16, .iload 4, 0), (18, .iload_n 1, 0), (19, .if_icmp .ne 7, 26), (22, .iconst 1, 0), (23, .goto 4, 27), (26, .iconst 0, 0), (27, .bastore, 0), (28, .iinc 4 1, 0), (31, .goto (-28), 3), (34, .iload_n 3, 0), (35, .ifCond .ne 20, 55), (38, .iload_n 1, 0), (39, .iload_n 2, 0), (40, .if_icmp .ne 15, 55), (43, .aload_n 0, 0), (44, .iload_n 2, 0), (45, .iconst 0, 0), (46, .iconst 0, 0), (47, .invokevirtual 101, 0), (50, .ifCond .eq 5, 55), (53, .iconst 0, 0), (54, .ireturn, 0), (55, .iconst 1, 0), (56, .istore 4, 0), (58, .iload 4, 0), (60, .bipush 60, 0), (62, .if_icmp .gt 89, 151), (65, .aload_n 0, 0), (66, .iload_n 2, 0), (67, .iload 4, 0), (69, .invokevirtual 105, 0), (72, .ifCond .eq 17, 89), (75, .aload_n 0, 0), (76, .iload_n 2, 0), (77, .iload 4, 0), (79, .iload_n 3, 0), (80, .invokevirtual 101, 0), (83, .ifCond .eq 6, 89), (86, .iload 4, 0), (88, .ireturn, 0), (89, .iconst 0, 0), (90, .istore 5, 0), (92, .iload 5, 0), (94, .bipush 64, 0), (96, .if_icmp .ge 49, 145), (99, .aload_n 0, 0), (100, .getfield 53, 0), (103, .bipush 64, 0), (105, .iload 4, 0), (107, .imul, 0), (108, .iload 5, 0), (110, .iadd, 0), (111, .aload_n 0, 0), (112, .iload 5, 0), (114, .iload 4, 0), (116, .invokevirtual 105, 0), (119, .ifCond .eq 18, 137), (122, .aload_n 0, 0), (123, .iload 5, 0), (125, .iload 4, 0), (127, .invokevirtual 108, 0), (130, .ifCond .eq 7, 137), (133, .iconst 1, 0), (134, .goto 4, 138), (137, .iconst 0, 0), (138, .bastore, 0), (139, .iinc 5 1, 0), (142, .goto (-50), 92), (145, .iinc 4 1, 0), (148, .goto (-90), 58), (151, .iconst (-1), 0), (152, .ireturn, 0)]
set_option maxRecDepth 100000 in
theorem k_M_spread : gd_MK c_M_spread R_M (gd_find ct_M_spread) (gd_ff fl_M) (gd_lf lc_M) := gd_mk (by decide +kernel) fb_M lb_M
def ct_M_step : gd_K := [(0, .aload_n 0, 0), (1, .aload_n 0, 0), (2, .getfield 143, 0), (5, .iconst 1, 0), (6, .iadd, 0), (7, .putfield 143, 0), (10, .iconst 0, 0), (11, .istore_n 1, 0), (12, .iconst 0, 0), (13, .istore_n 2, 0), (14, .iload_n 2, 0), (15, .aload_n 0, 0), (16, .getfield 68, 0), (19, .if_icmp .ge 90, 109), (22, .aload_n 0, 0), (23, .getfield 13, 0), (26, .iload_n 2, 0), (27, .iaload, 0), (28, .ifCond .le 75, 103), (31, .aload_n 0, 0), (32, .iload_n 2, 0), (33, .invokevirtual 75, 0), (36, .ifCond .le 67, 103), (39, .aload_n 0, 0), (40, .getfield 16, 0), (43, .iload_n 2, 0), (44, .iaload, 0), (45, .aload_n 0, 0), (46, .getfield 26, 0), (49, .bipush 60, 0), (51, .iload_n 2, 0), (52, .imul, 0), (53, .aload_n 0, 0), (54, .getfield 32, 0), (57, .iload_n 2, 0), (58, .iaload, 0), (59, .iadd, 0), (60, .iaload, 0), (61, .invokestatic 82, 0), (64, .istore_n 3, 0), (65, .aload_n 0, 0), (66, .getfield 16, 0), (69, .iload_n 2, 0), (70, .iload_n 3, 0), (71, .aload_n 0, 0), (72, .getfield 16, 0), (75, .iload_n 2, 0), (76, .iaload, 0), (77, .if_icmp .ne 7, 84), (80, .iload_n 3, 0), (81, .goto 7, 88), (84, .iload_n 3, 0), (85, .bipush 64, 0), (87, .iadd, 0), (88, .iastore, 0), (89, .aload_n 0, 0), (90, .getfield 32, 0), (93, .iload_n 2, 0), (94, .aload_n 0, 0), (95, .getfield 32, 0), (98, .iload_n 2, 0), (99, .iaload, 0), (100, .iconst 1, 0), (101, .iadd, 0), (102, .iastore, 0), (103, .iinc 2 1, 0), (106, .goto (-92), 14), (109, .iconst 0, 0), (110, .istore_n 2, 0), (111, .iload_n 2, 0), (112, .aload_n 0, 0), (113, .getfield 68, 0), (116, .if_icmp .ge 48, 164), (119, .aload_n 0, 0), (120, .getfield 13, 0), (123, .iload_n 2, 0), (124, .iaload, 0), (125, .ifCond .le 33, 158), (128, .aload_n 0, 0), (129, .getfield 35, 0), (132, .iload_n 2, 0), (133, .iaload, 0), (134, .ifCond .le 24, 158), (137, .aload_n 0, 0), (138, .iload_n 2, 0), (139, .invokevirtual 75, 0), (142, .ifCond .ne 16, 158), (145, .aload_n 0, 0), (146, .iload_n 2, 0), (147, .aload_n 0, 0), (148, .getfield 35, 0), (151, .iload_n 2, 0), (152, .iaload, 0), (153, .iconst 1, 0), (154, .isub, 0), (155, .invokevirtual 146, 0), (158, .iinc 2 1, 0), (161, .goto (-50), 111), (164, .iconst 0, 0), (165, .istore_n 2, 0), (166, .iload_n 2, 0), (167, .aload_n 0, 0), (168, .getfield 68, 0), (171, .if_icmp .ge 78, 249), (174, .aload_n 0, 0), (175, .getfield 16, 0), (178, .iload_n 2, 0), (179, .iaload, 0), (180, .bipush 63, 0), (182, .if_icmp .le 7, 189), (185, .iconst 1, 0), (186, .goto 4, 190), (189, .iconst 0, 0), (190, .istore_n 3, 0), (191, .aload_n 0, 0), (192, .getfield 16, 0), (195, .iload_n 2, 0), (196, .aload_n 0, 0), (197, .getfield 16, 0), (200, .iload_n 2, 0), (201, .iaload, 0), (202, .bipush 64, 0), (204, .irem, 0), (205, .iastore, 0), (206, .aload_n 0, 0), (207, .getfield 13, 0), (210, .iload_n 2, 0), (211, .iaload, 0), (212, .ifCond .le 31, 243), (215, .iload_n 3, 0), (216, .ifCond .eq 27, 243), (219, .aload_n 0, 0), (220, .getfield 7, 0), (223, .aload_n 0, 0), (224, .getfield 16, 0), (227, .iload_n 2, 0), (228, .iaload, 0), (229, .iaload, 0), (230, .iconst 3, 0), (231, .if_icmp .ne 12, 243), (234, .aload_n 0, 0), (235, .iload_n 2, 0), (236, .invokevirtual 149, 0), (239, .iload_n 1, 0), (240, .iconst 1, 0), (241, .iadd, 0), (242, .istore_n 1, 0), (243, .iinc 2 1, 0), (246, .goto (-80), 166), (249, .iload_n 1, 0), (250, .ireturn, 0)]
set_option maxRecDepth 100000 in
theorem k_M_step : gd_MK c_M_step R_M (gd_find ct_M_step) (gd_ff fl_M) (gd_lf lc_M) := gd_mk (by decide +kernel) fb_M lb_M
def ct_M_thrown : gd_K := [(0, .aload_n 0, 0), (1, .getfield 60, 0), (4, .ireturn, 0)]
set_option maxRecDepth 100000 in
theorem k_M_thrown : gd_MK c_M_thrown R_M (gd_find ct_M_thrown) (gd_ff fl_M) (gd_lf lc_M) := gd_mk (by decide +kernel) fb_M lb_M
def ct_M_time : gd_K := [(0, .aload_n 0, 0), (1, .iconst 0, 0), (2, .putfield 60, 0), (5, .aload_n 0, 0), (6, .getfield 143, 0), (9, .ireturn, 0)]
set_option maxRecDepth 100000 in
theorem k_M_time : gd_MK c_M_time R_M (gd_find ct_M_time) (gd_ff fl_M) (gd_lf lc_M) := gd_mk (by decide +kernel) fb_M lb_M
def ct_M_unite : gd_K := [(0, .lconst 1, 0), (1, .lstore_n 3, 0), (2, .lconst 1, 0), (3, .lstore 5, 0), (5, .aload_n 0, 0), (6, .getfield 23, 0), (9, .iload_n 1, 0), (10, .iaload, 0), (11, .istore 7, 0), (13, .iload 7, 0), (15, .aload_n 0, 0), (16, .getfield 23, 0), (19, .iload_n 2, 0), (20, .iaload, 0), (21, .if_icmp .ge 15, 36), (24, .lload_n 3, 0), (25, .ldc2_w 138, 0), (28, .lmul, 0), (29, .lstore_n 3, 0), (30, .iinc 7 1, 0), (33, .goto (-20), 13), (36, .aload_n 0, 0), (37, .getfield 23, 0), (40, .iload_n 2, 0), (41, .iaload, 0), (42, .istore 7, 0), (44, .iload 7, 0), (46, .aload_n 0, 0), (47, .getfield 23, 0), (50, .iload_n 1, 0), (51, .iaload, 0), (52, .if_icmp .ge 17, 69), (55, .lload 5, 0), (57, .ldc2_w 138, 0), (60, .lmul, 0), (61, .lstore 5, 0), (63, .iinc 7 1, 0), (66, .goto (-22), 44), (69, .aload_n 0, 0), (70, .getfield 23, 0), (73, .iload_n 2, 0), (74, .aload_n 0, 0), (75, .getfield 23, 0), (78, .iload_n 1, 0), (79, .iaload, 0), (80, .aload_n 0, 0), (81, .getfield 23, 0), (84, .iload_n 2, 0), (85, .iaload, 0), (86, .if_icmp .le 12, 98), (89, .aload_n 0, 0), (90, .getfield 23, 0), (93, .iload_n 1, 0), (94, .iaload, 0), (95, .goto 9, 104), (98, .aload_n 0, 0), (99, .getfield 23, 0), (102, .iload_n 2, 0), (103, .iaload, 0), (104, .iconst 1, 0), (105, .iadd, 0), (106, .iastore, 0), (107, .iconst 1, 0), (108, .istore 7, 0), (110, .iconst 0, 0), (111, .istore 8, 0), (113, .iload 8, 0), (115, .iconst 4, 0), (116, .if_icmp .ge 80, 196), (119, .aload_n 0, 0), (120, .getfield 19, 0), (123, .iconst 4, 0), (124, .iload_n 2, 0), (125, .imul, 0), (126, .iload 8, 0), (128, .iadd, 0), (129, .aload_n 0, 0), (130, .getfield 19, 0), (133, .iconst 4, 0), (134, .iload_n 1, 0), (135, .imul, 0), (136, .iload 8, 0), (138, .iadd, 0), (139, .laload, 0), (140, .lload_n 3, 0), (141, .lmul, 0), (142, .aload_n 0, 0), (143, .getfield 19, 0), (146, .iconst 4, 0), (147, .iload_n 2, 0), (148, .imul, 0), (149, .iload 8, 0), (151, .iadd, 0), (152, .laload, 0), (153, .lload 5, 0), (155, .lmul, 0), (156, .ladd, 0), (157, .lastore, 0), (158, .iload 7, 0), (160, .ifCond .eq 27, 187), (163, .aload_n 0, 0), (164, .getfield 19, 0), (167, .iconst 4, 0), (168, .iload_n 2, 0), (169, .imul, 0), (170, .iload 8, 0), (172, .iadd, 0), (173, .laload, 0), (174, .ldc2_w 138, 0), (177, .lrem, 0), (178, .lconst 0, 0), (179, .lcmp, 0), (180, .ifCond .ne 7, 187), (183, .iconst 1, 0), (184, .goto 4, 188), (187, .iconst 0, 0), (188, .istore 7, 0), (190, .iinc 8 1, 0), (193, .goto (-80), 113), (196, .iload 7, 0), (198, .ifCond .eq 117, 315), (201, .aload_n 0, 0), (202, .getfield 23, 0), (205, .iload_n 2, 0), (206, .iaload, 0), (207, .ifCond .le 108, 315), (210, .aload_n 0, 0), (211, .getfield 23, 0), (214, .iload_n 2, 0), (215, .aload_n 0, 0), (216, .getfield 23, 0), (219, .iload_n 2, 0), (220, .iaload, 0), (221, .iconst 1, 0), (222, .isub, 0), (223, .iastore, 0), (224, .iconst 0, 0), (225, .istore 8, 0), (227, .iload 8, 0), (229, .iconst 4, 0), (230, .if_icmp .ge 35, 265), (233, .aload_n 0, 0), (234, .getfield 19, 0), (237, .iconst 4, 0), (238, .iload_n 2, 0), (239, .imul, 0), (240, .iload 8, 0), (242, .iadd, 0), (243, .aload_n 0, 0), (244, .getfield 19, 0), (247, .iconst 4, 0), (248, .iload_n 2, 0), (249, .imul, 0), (250, .iload 8, 0), (252, .iadd, 0), (253, .laload, 0), (254, .ldc2_w 138, 0), (257, .ldiv, 0), (258, .lastore, 0), (259, .iinc 8 1, 0), (262, .goto (-35), 227), (265, .iconst 0, 0), (266, .istore 8, 0), (268, .iload 8, 0), (270, .iconst 4, 0), (271, .if_icmp .ge 41, 312), (274, .iload 7, 0), (276, .ifCond .eq 27, 303), (279, .aload_n 0, 0), (280, .getfield 19, 0), (283, .iconst 4, 0), (284, .iload_n 2, 0), (285, .imul, 0), (286, .iload 8, 0), (288, .iadd, 0), (289, .laload, 0), (290, .ldc2_w 138, 0), (293, .lrem, 0), (294, .lconst 0, 0), (295, .lcmp, 0), (296, .ifCond .ne 7, 303), (299, .iconst 1, 0), (300, .goto 4, 304), (303, .iconst 0, 0), (304, .istore 7, 0), (306, .iinc 8 1, 0), (309, .goto (-41), 268), (312, .goto (-116), 196), (315, .aload_n 0, 0), (316, .getfield 13, 0), (319, .iload_n 2, 0), (320, .iconst 2, 0), (321, .iastore, 0), (322, .aload_n 0, 0), (323, .getfield 13, 0), (326, .iload_n 1, 0), (327, .iconst 0, 0), (328, .iastore, 0), (329, .aload_n 0, 0), (330, .getfield 35, 0), (333, .iload_n 1, 0), (334, .iconst 0, 0), (335, .iastore, 0), (336, .return_, 0)]
set_option maxRecDepth 100000 in
theorem k_M_unite : gd_MK c_M_unite R_M (gd_find ct_M_unite) (gd_ff fl_M) (gd_lf lc_M) := gd_mk (by decide +kernel) fb_M lb_M
def ct_M_units : gd_K := [(0, .aload_n 0, 0), (1, .iconst 0, 0), (2, .putfield 60, 0), (5, .iconst 0, 0), (6, .istore_n 2, 0), (7, .iconst 0, 0), (8, .istore_n 3, 0), (9, .iload_n 3, 0), (10, .aload_n 0, 0), (11, .getfield 68, 0), (14, .if_icmp .ge 18, 32), (17, .iload_n 2, 0), (18, .aload_n 0, 0), (19, .getfield 13, 0), (22, .iload_n 3, 0), (23, .iaload, 0), (24, .iadd, 0), (25, .istore_n 2, 0), (26, .iinc 3 1, 0), (29, .goto (-20), 9), (32, .iload_n 1, 0), (33, .ifCond .ne 10, 43), (36, .aload_n 0, 0), (37, .getfield 122, 0), (40, .goto 16, 56), (43, .iload_n 1, 0), (44, .iconst 1, 0), (45, .if_icmp .ne 10, 55), (48, .aload_n 0, 0), (49, .getfield 135, 0), (52, .goto 4, 56), (55, .iload_n 2, 0), (56, .ireturn, 0)]
set_option maxRecDepth 100000 in
theorem k_M_units : gd_MK c_M_units R_M (gd_find ct_M_units) (gd_ff fl_M) (gd_lf lc_M) := gd_mk (by decide +kernel) fb_M lb_M
end
section
def ct_A_discard : gd_K := [(0, .aload_n 2, 0), (1, .iconst 0, 0), (2, .aload_n 0, 0), (3, .iload_n 1, 0), (4, .invokevirtual 31, 0), (7, .i2l, 0), (8, .lastore, 0), (9, .goto 9, 18), (12, .astore_n 3, 0), (13, .iconst 1, 0), (14, .ireturn, 0), (15, .astore_n 3, 0), (16, .iconst 2, 0), (17, .ireturn, 0), (18, .iconst 0, 0), (19, .ireturn, 0)]
set_option maxRecDepth 100000 in
theorem k_A_discard : gd_MK c_A_discard R_A (gd_find ct_A_discard) (gd_ff fl_A) (gd_lf lc_A) := gd_mk (by decide +kernel) fb_A lb_A
def ct_A_dispense : gd_K := [(0, .aload_n 2, 0), (1, .iconst 0, 0), (2, .aload_n 0, 0), (3, .iload_n 1, 0), (4, .invokevirtual 7, 0), (7, .i2l, 0), (8, .lastore, 0), (9, .goto 12, 21), (12, .astore_n 3, 0), (13, .iconst 1, 0), (14, .ireturn, 0), (15, .astore_n 3, 0), (16, .iconst 2, 0), (17, .ireturn, 0), (18, .astore_n 3, 0), (19, .iconst 3, 0), (20, .ireturn, 0), (21, .iconst 0, 0), (22, .ireturn, 0)]
set_option maxRecDepth 100000 in
theorem k_A_dispense : gd_MK c_A_dispense R_A (gd_find ct_A_dispense) (gd_ff fl_A) (gd_lf lc_A) := gd_mk (by decide +kernel) fb_A lb_A
def ct_A_halve : gd_K := [(0, .aload_n 3, 0), (1, .iconst 0, 0), (2, .aload_n 0, 0), (3, .iload_n 1, 0), (4, .iload_n 2, 0), (5, .invokevirtual 27, 0), (8, .i2l, 0), (9, .lastore, 0), (10, .goto 11, 21), (13, .astore 4, 0), (15, .iconst 1, 0), (16, .ireturn, 0), (17, .astore 4, 0), (19, .iconst 2, 0), (20, .ireturn, 0), (21, .iconst 0, 0), (22, .ireturn, 0)]
set_option maxRecDepth 100000 in
theorem k_A_halve : gd_MK c_A_halve R_A (gd_find ct_A_halve) (gd_ff fl_A) (gd_lf lc_A) := gd_mk (by decide +kernel) fb_A lb_A
def ct_A_join : gd_K := [(0, .aload_n 3, 0), (1, .iconst 0, 0), (2, .aload_n 0, 0), (3, .iload_n 1, 0), (4, .iload_n 2, 0), (5, .invokevirtual 23, 0), (8, .i2l, 0), (9, .lastore, 0), (10, .goto 15, 25), (13, .astore 4, 0), (15, .iconst 1, 0), (16, .ireturn, 0), (17, .astore 4, 0), (19, .iconst 2, 0), (20, .ireturn, 0), (21, .astore 4, 0), (23, .iconst 3, 0), (24, .ireturn, 0), (25, .iconst 0, 0), (26, .ireturn, 0)]
set_option maxRecDepth 100000 in
theorem k_A_join : gd_MK c_A_join R_A (gd_find ct_A_join) (gd_ff fl_A) (gd_lf lc_A) := gd_mk (by decide +kernel) fb_A lb_A
def ct_A_look : gd_K := [(0, .aload_n 3, 0), (1, .iconst 0, 0), (2, .aload_n 0, 0), (3, .iload_n 1, 0), (4, .iload_n 2, 0), (5, .invokevirtual 37, 0), (8, .i2l, 0), (9, .lastore, 0), (10, .goto 7, 17), (13, .astore 4, 0), (15, .iconst 1, 0), (16, .ireturn, 0), (17, .iconst 0, 0), (18, .ireturn, 0)]
set_option maxRecDepth 100000 in
theorem k_A_look : gd_MK c_A_look R_A (gd_find ct_A_look) (gd_ff fl_A) (gd_lf lc_A) := gd_mk (by decide +kernel) fb_A lb_A
def ct_A_reading : gd_K := [(0, .aload_n 3, 0), (1, .iconst 0, 0), (2, .aload_n 0, 0), (3, .iload_n 1, 0), (4, .iload_n 2, 0), (5, .invokevirtual 44, 0), (8, .i2l, 0), (9, .lastore, 0), (10, .goto 7, 17), (13, .astore 4, 0), (15, .iconst 1, 0), (16, .ireturn, 0), (17, .iconst 0, 0), (18, .ireturn, 0)]
set_option maxRecDepth 100000 in
theorem k_A_reading : gd_MK c_A_reading R_A (gd_find ct_A_reading) (gd_ff fl_A) (gd_lf lc_A) := gd_mk (by decide +kernel) fb_A lb_A
def ct_A_run : gd_K := [(0, .aload_n 2, 0), (1, .iconst 0, 0), (2, .aload_n 0, 0), (3, .iload_n 1, 0), (4, .invokevirtual 34, 0), (7, .i2l, 0), (8, .lastore, 0), (9, .goto 6, 15), (12, .astore_n 3, 0), (13, .iconst 1, 0), (14, .ireturn, 0), (15, .iconst 0, 0), (16, .ireturn, 0)]
set_option maxRecDepth 100000 in
theorem k_A_run : gd_MK c_A_run R_A (gd_find ct_A_run) (gd_ff fl_A) (gd_lf lc_A) := gd_mk (by decide +kernel) fb_A lb_A
def ct_A_send : gd_K := [(0, .aload 4, 0), (2, .iconst 0, 0), (3, .aload_n 0, 0), (4, .iload_n 1, 0), (5, .iload_n 2, 0), (6, .iload_n 3, 0), (7, .invokevirtual 19, 0), (10, .i2l, 0), (11, .lastore, 0), (12, .goto 15, 27), (15, .astore 5, 0), (17, .iconst 1, 0), (18, .ireturn, 0), (19, .astore 5, 0), (21, .iconst 2, 0), (22, .ireturn, 0), (23, .astore 5, 0), (25, .iconst 3, 0), (26, .ireturn, 0), (27, .iconst 0, 0), (28, .ireturn, 0)]
set_option maxRecDepth 100000 in
theorem k_A_send : gd_MK c_A_send R_A (gd_find ct_A_send) (gd_ff fl_A) (gd_lf lc_A) := gd_mk (by decide +kernel) fb_A lb_A
def ct_A_share : gd_K := [(0, .aload_n 3, 0), (1, .iconst 0, 0), (2, .aload_n 0, 0), (3, .iload_n 1, 0), (4, .iload_n 2, 0), (5, .invokevirtual 40, 0), (8, .lastore, 0), (9, .goto 7, 16), (12, .astore 4, 0), (14, .iconst 1, 0), (15, .ireturn, 0), (16, .iconst 0, 0), (17, .ireturn, 0)]
set_option maxRecDepth 100000 in
theorem k_A_share : gd_MK c_A_share R_A (gd_find ct_A_share) (gd_ff fl_A) (gd_lf lc_A) := gd_mk (by decide +kernel) fb_A lb_A
end
section
/-! Cells, moves, sets of cells as longs. -/
def gm_mv (c m : Nat) : Option Nat :=
  if m = 1 then (if 8 ≤ c then some (c - 8) else none)
  else if m = 2 then (if c % 8 < 7 then some (c + 1) else none)
  else if m = 3 then (if c < 56 then some (c + 8) else none)
  else if m = 4 then (if 0 < c % 8 then some (c - 1) else none)
  else some c
def gm_nO (x : Option Nat) : Int32 := match x with
  | none => -1
  | some a => nI a
def gm_near (a b : Nat) : Bool := decide (a % 8 ≤ b % 8 + 1 ∧ b % 8 ≤ a % 8 + 1 ∧ a / 8 ≤ b / 8 + 1 ∧ b / 8 ≤ a / 8 + 1)
theorem gm_near_comm (a b : Nat) : gm_near a b = gm_near b a := by
  simp only [gm_near]
  congr 1
  exact propext ⟨fun h => ⟨h.2.1, h.1, h.2.2.2, h.2.2.1⟩, fun h => ⟨h.2.1, h.1, h.2.2.2, h.2.2.1⟩⟩
theorem gm_mv_lt {c m b : Nat} (hc : c < 64) (h : gm_mv c m = some b) : b < 64 := by
  unfold gm_mv at h
  repeat' split at h
  all_goals first | (cases h; omega) | cases h
theorem gm_mv_0 (c : Nat) : gm_mv c 0 = some c := rfl
theorem gm_mv_1 (c : Nat) : gm_mv c 1 = if 8 ≤ c then some (c - 8) else none := rfl
theorem gm_mv_2 (c : Nat) : gm_mv c 2 = if c % 8 < 7 then some (c + 1) else none := rfl
theorem gm_mv_3 (c : Nat) : gm_mv c 3 = if c < 56 then some (c + 8) else none := rfl
theorem gm_mv_4 (c : Nat) : gm_mv c 4 = if 0 < c % 8 then some (c - 1) else none := rfl
def gm_bit (x : Int64) (c : Nat) : Bool := x.toBitVec.getLsbD c
def gm_shl (x : Int64) (y : Int32) : Int64 := x <<< (y.toInt64 &&& 63)
def gm_ushr (x : Int64) (y : Int32) : Int64 := (x.toUInt64 >>> (y.toInt64.toUInt64 &&& Int64.toUInt64 63)).toInt64
def gm_ud (x : Int64) : Int64 := x ||| gm_shl x 8 ||| gm_ushr x 8
def gm_sw (x : Int64) : Int64 := x ||| gm_shl (x &&& 0x7F7F7F7F7F7F7F7F) 1 ||| gm_ushr (x &&& (-72340172838076674)) 1
theorem gm_bit_hi (x : Int64) {c : Nat} (h : 64 ≤ c) : gm_bit x c = false := BitVec.getLsbD_of_ge _ _ h
theorem gm_bit_or (x y : Int64) (c : Nat) : gm_bit (x ||| y) c = (gm_bit x c || gm_bit y c) := by
  simp [gm_bit, Int64.toBitVec_or]
theorem gm_bit_and (x y : Int64) (c : Nat) : gm_bit (x &&& y) c = (gm_bit x c && gm_bit y c) := by
  simp [gm_bit, Int64.toBitVec_and]
theorem gm_bit_shl (x : Int64) (y : Int32) (k : Nat) (hk : ((y.toInt64 &&& 63).toBitVec.smod 64).toNat = k) (c : Nat) : gm_bit (gm_shl x y) c = (decide (c < 64) && !decide (c < k) && gm_bit x (c - k)) := by
  simp only [gm_bit, gm_shl, Int64.toBitVec_shiftLeft, BitVec.shiftLeft_eq', hk, BitVec.getLsbD_shiftLeft]
theorem gm_bit_ushr (x : Int64) (y : Int32) (k : Nat) (hk : ((y.toInt64.toUInt64 &&& Int64.toUInt64 63).toBitVec % 64).toNat = k) (c : Nat) : gm_bit (gm_ushr x y) c = gm_bit x (k + c) := by
  simp only [gm_bit, gm_ushr, UInt64.toBitVec_toInt64, UInt64.toBitVec_shiftRight, BitVec.ushiftRight_eq', hk, BitVec.getLsbD_ushiftRight, Int64.toBitVec_toUInt64]
theorem gm_bit_ud (x : Int64) {c : Nat} (hc : c < 64) : gm_bit (gm_ud x) c = (gm_bit x c || (!decide (c < 8) && gm_bit x (c - 8)) || gm_bit x (c + 8)) := by
  rw [gm_ud, gm_bit_or, gm_bit_or, gm_bit_shl x 8 8 (by decide), gm_bit_ushr x 8 8 (by decide), Nat.add_comm 8 c]
  simp [hc]
theorem gm_mask7 : ∀ c, c < 64 → gm_bit 0x7F7F7F7F7F7F7F7F c = !decide (c % 8 = 7) := by decide
theorem gm_maskF : ∀ c, c < 64 → gm_bit (-72340172838076674) c = !decide (c % 8 = 0) := by decide
theorem gm_bit_sw (x : Int64) {c : Nat} (hc : c < 64) : gm_bit (gm_sw x) c = (gm_bit x c || (!decide (c % 8 = 0) && gm_bit x (c - 1)) || (!decide (c % 8 = 7) && gm_bit x (c + 1))) := by
  rw [gm_sw, gm_bit_or, gm_bit_or, gm_bit_shl _ 1 1 (by decide), gm_bit_ushr _ 1 1 (by decide), Nat.add_comm 1 c, gm_bit_and, gm_bit_and]
  by_cases h0 : c = 0
  · subst h0
    rw [gm_maskF 1 (by omega)]
    simp
  · rw [gm_mask7 (c - 1) (by omega)]
    have e1 : (c - 1) % 8 = 7 ↔ c % 8 = 0 := by omega
    have e2 : ¬ c < 1 := by omega
    by_cases h1 : c = 63
    · subst h1
      rw [gm_bit_hi x (c := 63 + 1) (by omega)]
      simp
    · rw [gm_maskF (c + 1) (by omega)]
      have e3 : (c + 1) % 8 = 0 ↔ c % 8 = 7 := by omega
      simp only [e1, e2, e3, hc, decide_true, decide_false, Bool.not_false, Bool.true_and]
      cases gm_bit x (c - 1) <;> cases gm_bit x (c + 1) <;> simp
/-- near a set -/
theorem gm_bit_near (x : Int64) {c : Nat} (hc : c < 64) : gm_bit (gm_ud (gm_sw x)) c = true ↔ ∃ b, b < 64 ∧ gm_bit x b = true ∧ gm_near c b = true := by
  rw [gm_bit_ud _ hc, gm_bit_sw _ hc]
  constructor
  · intro h
    simp only [Bool.or_eq_true, Bool.and_eq_true, Bool.not_eq_true', decide_eq_false_iff_not] at h
    have key : ∀ d, d < 64 → gm_bit (gm_sw x) d = true → (c = d ∨ c + 8 = d ∨ c = d + 8) → ∃ b, b < 64 ∧ gm_bit x b = true ∧ gm_near c b = true := by
      intro d hd h hcd
      rw [gm_bit_sw _ hd] at h
      simp only [Bool.or_eq_true, Bool.and_eq_true, Bool.not_eq_true', decide_eq_false_iff_not] at h
      rcases h with (h | ⟨h1, h⟩) | ⟨h1, h⟩
      · exact ⟨d, hd, h, by simp only [gm_near, decide_eq_true_eq]; omega⟩
      · exact ⟨d - 1, by omega, h, by simp only [gm_near, decide_eq_true_eq]; omega⟩
      · by_cases hd1 : d = 63
        · subst hd1; rw [gm_bit_hi x (c := 63 + 1) (by omega)] at h; cases h
        · exact ⟨d + 1, by omega, h, by simp only [gm_near, decide_eq_true_eq]; omega⟩
    rcases h with (h | h) | h
    · exact key c hc (by rw [gm_bit_sw _ hc]; simp only [Bool.or_eq_true, Bool.and_eq_true, Bool.not_eq_true', decide_eq_false_iff_not]; exact h) (Or.inl rfl)
    · exact key (c - 8) (by omega) h.2 (by omega)
    · by_cases h8 : c + 8 < 64
      · exact key (c + 8) h8 h (by omega)
      · rw [gm_bit_hi _ (by omega)] at h; cases h
  · rintro ⟨b, hb, h, hn⟩
    simp only [gm_near, decide_eq_true_eq] at hn
    have key : ∀ d, d < 64 → d / 8 = b / 8 → d % 8 = c % 8 → gm_bit (gm_sw x) d = true := by
      intro d hd h1 h2
      rw [gm_bit_sw _ hd]
      simp only [Bool.or_eq_true, Bool.and_eq_true, Bool.not_eq_true', decide_eq_false_iff_not]
      rcases (by omega : b = d ∨ (b = d - 1 ∧ d % 8 ≠ 0) ∨ (b = d + 1 ∧ d % 8 ≠ 7)) with e | ⟨e, e2⟩ | ⟨e, e2⟩
      · exact Or.inl (Or.inl (e ▸ h))
      · exact Or.inl (Or.inr ⟨e2, e ▸ h⟩)
      · exact Or.inr ⟨e2, e ▸ h⟩
    simp only [Bool.or_eq_true, Bool.and_eq_true, Bool.not_eq_true', decide_eq_false_iff_not]
    rcases (by omega : c / 8 = b / 8 ∨ c / 8 = b / 8 + 1 ∨ c / 8 + 1 = b / 8) with e | e | e
    · have := key c hc e rfl
      rw [gm_bit_sw _ hc] at this
      simp only [Bool.or_eq_true, Bool.and_eq_true, Bool.not_eq_true', decide_eq_false_iff_not] at this
      exact Or.inl (Or.inl this)
    · exact Or.inl (Or.inr ⟨by omega, key (c - 8) (by omega) (by omega) (by omega)⟩)
    · exact Or.inr (key (c + 8) (by omega) (by omega) (by omega))
/-- one move from a set -/
theorem gm_bit_move (x : Int64) {c : Nat} (hc : c < 64) : gm_bit (gm_ud x ||| gm_sw x) c = true ↔ ∃ m b, m < 5 ∧ gm_mv c m = some b ∧ gm_bit x b = true := by
  rw [gm_bit_or, gm_bit_ud _ hc, gm_bit_sw _ hc]
  simp only [Bool.or_eq_true, Bool.and_eq_true, Bool.not_eq_true', decide_eq_false_iff_not]
  constructor
  · rintro (((h | ⟨h1, h⟩) | h) | ((h | ⟨h1, h⟩) | ⟨h1, h⟩))
    · exact ⟨0, c, by omega, rfl, h⟩
    · exact ⟨1, c - 8, by omega, by rw [gm_mv_1, if_pos (by omega)], h⟩
    · by_cases h8 : c + 8 < 64
      · exact ⟨3, c + 8, by omega, by rw [gm_mv_3, if_pos (by omega)], h⟩
      · rw [gm_bit_hi _ (by omega)] at h; cases h
    · exact ⟨0, c, by omega, rfl, h⟩
    · exact ⟨4, c - 1, by omega, by rw [gm_mv_4, if_pos (by omega)], h⟩
    · exact ⟨2, c + 1, by omega, by rw [gm_mv_2, if_pos (by omega)], h⟩
  · rintro ⟨m, b, hm, hmv, h⟩
    unfold gm_mv at hmv
    split at hmv
    · split at hmv
      · cases hmv; exact Or.inl (Or.inl (Or.inr ⟨by omega, h⟩))
      · cases hmv
    · split at hmv
      · split at hmv
        · cases hmv; exact Or.inr (Or.inr ⟨by omega, h⟩)
        · cases hmv
      · split at hmv
        · split at hmv
          · cases hmv; exact Or.inl (Or.inr h)
          · cases hmv
        · split at hmv
          · split at hmv
            · cases hmv; exact Or.inr (Or.inl (Or.inr ⟨by omega, h⟩))
            · cases hmv
          · cases hmv; exact Or.inl (Or.inl (Or.inl h))
def gm_one (c : Nat) : Int64 := gm_shl 1 (nI c)
theorem gm_bit_1 (c : Nat) : gm_bit 1 c = decide (c = 0) := by
  cases c with
  | zero => decide
  | succ c =>
    simp only [gm_bit]
    have : (1 : Int64).toBitVec = 1#64 := rfl
    rw [this]
    simp [BitVec.getLsbD_one]
theorem gm_one_k : ∀ k, k < 64 → (((nI k).toInt64 &&& 63).toBitVec.smod 64).toNat = k := by decide
theorem gm_bit_one {k c : Nat} (hk : k < 64) (hc : c < 64) : gm_bit (gm_one k) c = decide (c = k) := by
  rw [gm_one, gm_bit_shl 1 (nI k) k (gm_one_k k hk), gm_bit_1]
  by_cases h : c = k
  · subst h; simp [hc]
  · by_cases h2 : c < k
    · simp [h, h2]
    · have : ¬ c - k = 0 := by omega
      simp [h, this]
theorem gm_bit_0 (c : Nat) : gm_bit 0 c = false := by
  simp only [gm_bit]
  have : (0 : Int64).toBitVec = 0#64 := rfl
  rw [this]
  simp
theorem gm_ext {x y : Int64} (h : ∀ c, c < 64 → gm_bit x c = gm_bit y c) : x = y := by
  apply Int64.toBitVec_inj.mp
  apply BitVec.eq_of_getLsbD_eq
  intro i hi
  exact h i hi
theorem gm_bit_not (x : Int64) {c : Nat} (hc : c < 64) : gm_bit (x ^^^ (-1)) c = !gm_bit x c := by
  simp only [gm_bit, Int64.toBitVec_xor, BitVec.getLsbD_xor]
  have : (-1 : Int64).toBitVec = BitVec.allOnes 64 := by decide
  rw [this, BitVec.getLsbD_allOnes]
  simp [hc]
theorem gm_and_one {x : Int64} {k : Nat} (hk : k < 64) : x &&& gm_one k = 0 ↔ gm_bit x k = false := by
  constructor
  · intro h
    have h1 : gm_bit (x &&& gm_one k) k = gm_bit 0 k := by rw [h]
    rw [gm_bit_and, gm_bit_one hk hk, gm_bit_0] at h1
    simpa using h1
  · intro h
    refine gm_ext fun c hc => ?_
    rw [gm_bit_and, gm_bit_one hk hc, gm_bit_0]
    by_cases e : c = k
    · subst e; simp [h]
    · simp [e]
end
section
section GY
variable {p : Program} {l : Launch} {e : Env} {R : Room} {s : State} {m : MethodId} {args : Array Value} {below : List Frame} {meth : Method} {c : Code} {D : va_G} {tC : FieldType → ClassId} {ad : Nat → Nat} {A : Nat → Prop} {n nL cells slots : Nat} {Q : State → Prop} {pc : Nat} {lv : List (Nat × Value)} {st : List Value} {w : gd_W} {cc : ByteArray} {own : String}
-- arrays, with what they hold
theorem gd_ialdv (E : gd_E p s m args c cc nL own D tC ad A n) {k j len : Nat} {i v : Int32} (hd : decode cc pc = .ok (.iaload, 1)) (hk : k < n) (hs : gd_sh k = .inr (.int, len)) (hi : i = nI j) (hj : j < len) (hlen : len < 2 ^ 31) (hv : w.1 k j = v)
    (kk : gd_G p l e R s m args below meth c D tC ad A n nL cells slots Q (pc + 1) lv (.int v :: st) w) : gd_G p l e R s m args below meth c D tC ad A n nL cells slots Q pc lv (.int i :: .ref k :: st) w :=
  gd_iald E hd hk hs hi hj hlen (by rw [hv]; exact kk)
theorem gd_zaldv (E : gd_E p s m args c cc nL own D tC ad A n) {k j len : Nat} {i v : Int32} (hd : decode cc pc = .ok (.baload, 1)) (hk : k < n) (hs : gd_sh k = .inr (.boolean, len)) (hi : i = nI j) (hj : j < len) (hlen : len < 2 ^ 31) (hv : w.1 k j = v)
    (kk : gd_G p l e R s m args below meth c D tC ad A n nL cells slots Q (pc + 1) lv (.int v :: st) w) : gd_G p l e R s m args below meth c D tC ad A n nL cells slots Q pc lv (.int i :: .ref k :: st) w :=
  gd_zald E hd hk hs hi hj hlen (by rw [hv]; exact kk)
theorem gd_laldv (E : gd_E p s m args c cc nL own D tC ad A n) {k j len : Nat} {i : Int32} {v : Int64} (hd : decode cc pc = .ok (.laload, 1)) (hk : k < n) (hs : gd_sh k = .inr (.long, len)) (hi : i = nI j) (hj : j < len) (hlen : len < 2 ^ 31) (hv : w.2.1 k j = v)
    (kk : gd_G p l e R s m args below meth c D tC ad A n nL cells slots Q (pc + 1) lv (.long v :: st) w) : gd_G p l e R s m args below meth c D tC ad A n nL cells slots Q pc lv (.int i :: .ref k :: st) w :=
  gd_lald E hd hk hs hi hj hlen (by rw [hv]; exact kk)
-- a field of a droplet, whichever it is
theorem gd_getd (E : gd_E p s m args c cc nL own D tC ad A n) {x j k : Nat} {fl : gd_F} {f : Nat → Option (Instr × Nat)} {lc : gd_L} (K : gd_MK cc own f (gd_ff fl) (gd_lf lc)) (hd : decode cc pc = .ok (.getfield x, 3)) {b : Bool} (hf : gd_ff fl x = some (0, j, b)) (hk : k < n) (hs : gd_sh k = .inl 0) {ty : FieldType} (ht : (gd_ft 0)[j]? = some ty) {v : Value} (hv : gd_av w k j ty = v)
    (kk : gd_G p l e R s m args below meth c D tC ad A n nL cells slots Q (pc + 3) lv (v :: st) w) : gd_G p l e R s m args below meth c D tC ad A n nL cells slots Q pc lv (.ref k :: st) w := by
  obtain ⟨C, T, N, g1, g2, g3, -⟩ := K.2.1 _ _ hf
  exact gd_getf E hd g1 g2 g3 hk hs ht (by rw [hv]; exact kk)
theorem gd_putd (E : gd_E p s m args c cc nL own D tC ad A n) {x j k : Nat} {fl : gd_F} {f : Nat → Option (Instr × Nat)} {lc : gd_L} (K : gd_MK cc own f (gd_ff fl) (gd_lf lc)) (hd : decode cc pc = .ok (.putfield x, 3)) (hf : gd_ff fl x = some (0, j, true)) (hk : k < n) (hs : gd_sh k = .inl 0) (ht : (gd_ft 0)[j]? = some .int) {v : Int32}
    (kk : gd_G p l e R s m args below meth c D tC ad A n nL cells slots Q (pc + 3) lv st (gd_rI w k (upd (w.1 k) j v))) : gd_G p l e R s m args below meth c D tC ad A n nL cells slots Q pc lv (.int v :: .ref k :: st) w := by
  obtain ⟨C, T, N, g1, g2, g3, g4⟩ := K.2.1 _ _ hf
  exact gd_puti E hd g1 g2 g3 (g4 rfl) hk hs ht kk
theorem gd_putdz (E : gd_E p s m args c cc nL own D tC ad A n) {x j k : Nat} {fl : gd_F} {f : Nat → Option (Instr × Nat)} {lc : gd_L} (K : gd_MK cc own f (gd_ff fl) (gd_lf lc)) (hd : decode cc pc = .ok (.putfield x, 3)) (hf : gd_ff fl x = some (0, j, true)) (hk : k < n) (hs : gd_sh k = .inl 0) (ht : (gd_ft 0)[j]? = some .boolean) {v : Int32} (hv : v = 0 ∨ v = 1)
    (kk : gd_G p l e R s m args below meth c D tC ad A n nL cells slots Q (pc + 3) lv st (gd_rI w k (upd (w.1 k) j v))) : gd_G p l e R s m args below meth c D tC ad A n nL cells slots Q pc lv (.int v :: .ref k :: st) w := by
  obtain ⟨C, T, N, g1, g2, g3, g4⟩ := K.2.1 _ _ hf
  exact gd_putz E hd g1 g2 g3 (g4 rfl) hk hs ht hv kk
end GY
-- worlds: what is read behind a write
theorem gd_rI_s (w : gd_W) (k : Nat) (f : Nat → Int32) : (gd_rI w k f).1 k = f := by simp [gd_rI]
theorem gd_rI_n {w : gd_W} {k a : Nat} {f : Nat → Int32} (h : a ≠ k) : (gd_rI w k f).1 a = w.1 a := by simp [gd_rI, h]
theorem gd_rI_L (w : gd_W) (k : Nat) (f : Nat → Int32) : (gd_rI w k f).2.1 = w.2.1 := rfl
theorem gd_rI_R (w : gd_W) (k : Nat) (f : Nat → Int32) : (gd_rI w k f).2.2 = w.2.2 := rfl
theorem gd_rL_s (w : gd_W) (k : Nat) (f : Nat → Int64) : (gd_rL w k f).2.1 k = f := by simp [gd_rL]
theorem gd_rL_n {w : gd_W} {k a : Nat} {f : Nat → Int64} (h : a ≠ k) : (gd_rL w k f).2.1 a = w.2.1 a := by simp [gd_rL, h]
theorem gd_rL_I (w : gd_W) (k : Nat) (f : Nat → Int64) : (gd_rL w k f).1 = w.1 := rfl
theorem gd_rL_R (w : gd_W) (k : Nat) (f : Nat → Int64) : (gd_rL w k f).2.2 = w.2.2 := rfl
theorem gd_rR_s (w : gd_W) (k : Nat) (f : Nat → Option Nat) : (gd_rR w k f).2.2 k = f := by simp [gd_rR]
theorem gd_rR_n {w : gd_W} {k a : Nat} {f : Nat → Option Nat} (h : a ≠ k) : (gd_rR w k f).2.2 a = w.2.2 a := by simp [gd_rR, h]
theorem gd_rR_I (w : gd_W) (k : Nat) (f : Nat → Option Nat) : (gd_rR w k f).1 = w.1 := rfl
theorem gd_rR_L (w : gd_W) (k : Nat) (f : Nat → Option Nat) : (gd_rR w k f).2.1 = w.2.1 := rfl
theorem gd_u_s (f : Nat → Int32) (k : Nat) (x : Int32) : upd f k x k = x := by simp [upd]
theorem gd_u_n {f : Nat → Int32} {k j : Nat} {x : Int32} (h : j ≠ k) : upd f k x j = f j := by simp [upd, h]
theorem gd_ul_s (f : Nat → Int64) (k : Nat) (x : Int64) : vp_updL f k x k = x := by simp [vp_updL]
theorem gd_ul_n {f : Nat → Int64} {k j : Nat} {x : Int64} (h : j ≠ k) : vp_updL f k x j = f j := by simp [vp_updL, h]
theorem gd_lvp {p : Program} {l : Launch} {e : Env} {R : Room} {s : State} {m : MethodId} {args : Array Value} {below : List Frame} {meth : Method} {c : Code} {D : va_G} {tC : FieldType → ClassId} {ad : Nat → Nat} {A : Nat → Prop} {n nL cells slots : Nat} {Q : State → Prop} {pc : Nat} {lv lv' : List (Nat × Value)} {st : List Value} {w : gd_W} (is : List Nat) (h : lv_pick lv is = lv')
    (k : gd_G p l e R s m args below meth c D tC ad A n nL cells slots Q pc lv' st w) : gd_G p l e R s m args below meth c D tC ad A n nL cells slots Q pc lv st w := by
  refine gd_lv (fun q hq => ?_) k
  rw [← h] at hq
  obtain ⟨i, -, hi⟩ := List.mem_filterMap.mp hq
  exact List.mem_of_getElem? hi
end
section
/-! The state that both sides stand for, and what the document's words say of it. -/
-- kinds; of each droplet: 0 units, 1 cell, 2 power, 3 moves left, 4 into (number + 1, or 0), 5 + k: its k-th move to come; shares; scalars (0 made, 1 let out, 2 thrown away); time; readings
abbrev gs_T : Type := (Nat → Nat) × (Nat → Nat → Nat) × (Nat → Nat → Int64) × (Nat → Nat) × Int32 × List (Nat × Int32 × Nat × Nat)
abbrev gs_k (s : gs_T) (c : Nat) : Nat := s.1 c
abbrev gs_u (s : gs_T) (d : Nat) : Nat := s.2.1 0 d
abbrev gs_c (s : gs_T) (d : Nat) : Nat := s.2.1 1 d
abbrev gs_p (s : gs_T) (d : Nat) : Nat := s.2.1 2 d
abbrev gs_l (s : gs_T) (d : Nat) : Nat := s.2.1 3 d
abbrev gs_i (s : gs_T) (d : Nat) : Nat := s.2.1 4 d
abbrev gs_m (s : gs_T) (d k : Nat) : Nat := s.2.1 (5 + k) d
abbrev gs_sh (s : gs_T) (d k : Nat) : Int64 := s.2.2.1 d k
abbrev gs_made (s : gs_T) : Nat := s.2.2.2.1 0
abbrev gs_out (s : gs_T) : Nat := s.2.2.2.1 1
abbrev gs_thr (s : gs_T) : Nat := s.2.2.2.1 2
abbrev gs_time (s : gs_T) : Int32 := s.2.2.2.2.1
abbrev gs_rd (s : gs_T) : List (Nat × Int32 × Nat × Nat) := s.2.2.2.2.2
/-- n moves from a cell -/
def gs_wk (c : Nat) (ms : Nat → Nat) : Nat → Option Nat
  | 0 => some c
  | n + 1 => match gs_wk c ms n with
    | some x => gm_mv x (ms n)
    | none => none
/-- where a droplet is after n steps; none once it has gone into another -/
def gs_pos (s : gs_T) (d n : Nat) : Option Nat := if 0 < gs_i s d ∧ gs_l s d ≤ n then none else gs_wk (gs_c s d) (gs_m s d) (min n (gs_l s d))
def gs_alive (s : gs_T) (d : Nat) : Prop := d < gs_made s ∧ 0 < gs_u s d
def gs_nearO (c : Nat) (x : Option Nat) : Bool := match x with
  | some b => gm_near c b
  | none => false
/-- some droplet but d and e (numbers + 1; 0: none) is near the cell after n steps -/
def gs_met (s : gs_T) (d e c n : Nat) : Prop := ∃ k, gs_alive s k ∧ k + 1 ≠ d ∧ k + 1 ≠ e ∧ gs_nearO c (gs_pos s k n) = true
end
section
/-! Contracts with a predicate on the answer and on the world behind it. -/
def gd_Qp (D : va_G) (tC : FieldType → ClassId) (ad : Nat → Nat) (n sz : Nat) (post : Option Value → gd_W → Prop) : Array Value → State → Outcome → State → Prop := fun _ st oc t => ∃ (r : Option Value) (w' : gd_W), oc = .returned (r.map (gd_tr ad)) ∧ post r w' ∧ va_P D gd_cl (gd_wl tC ad n w') t.heap ∧ va_F (gd_A ad n sz) st t
def gd_Cp (l : Launch) (D : va_G) (tC : FieldType → ClassId) (ad : Nat → Nat) (n fr lo : Nat) (y : MethodName) (cc : ByteArray) (nL : Nat) (ret : Option FieldType) (av : List Value) (w : gd_W) (post : Option Value → gd_W → Prop) : Prop :=
  ∀ sz, Met l y (.code y cc nL ret :: gd_all) (gd_rm fr lo) (va_Pc (av.map (gd_tr ad)) (gd_Pre D tC ad n sz w)) (gd_Qp D tC ad n sz post) 0 0 (gd_A ad n sz)
theorem gd_Cp_of {l : Launch} {D : va_G} {tC : FieldType → ClassId} {ad : Nat → Nat} {n fr lo : Nat} {y : MethodName} {cc : ByteArray} {nL : Nat} {ret : Option FieldType} {av : List Value} {w : gd_W} {post : Option Value → gd_W → Prop} (hy : plainName y.cls = true) (hinj : ∀ i j, ad i = ad j → i = j) (hn : (lg_sl av).length ≤ nL)
    (body : ∀ (p : Program) (e : Env) (s : State) (m : MethodId) (args : Array Value) (below : List Frame) (meth : Method) (c : Code), gd_E p s m args c cc nL y.cls D tC ad (gd_A ad n s.heap.size) n → meth.sig.returnType = ret → meth.locks = false →
      gd_G p l e (gd_rm fr lo) s m args below meth c D tC ad (gd_A ad n s.heap.size) n nL 0 0 (MQ below (gd_Qp D tC ad n s.heap.size post) args s 0 0 (gd_A ad n s.heap.size)) 0 (lv_args 0 av) [] w) : gd_Cp l D tC ad n fr lo y cc nL ret av w post := by
  intro sz
  refine Met.ofW (cc := cc) (maxL := nL) (ret := ret) hy rfl ?_
  intro p e s m args below meth c s₁ B hml hv
  obtain ⟨rfl, hsz, hP, hK, hN⟩ := hv
  have hts := atoms_spec (ws := .code y cc nL ret :: gd_all) B.pre
  subst hsz
  have E : gd_E p s m (av.map (gd_tr ad)).toArray c cc nL y.cls D tC ad (gd_A ad n s.heap.size) n := ⟨⟨B.exec, B.bytes, hml, findClass_of_methodNamed B.named, fun w hw => hts w (List.mem_cons_of_mem _ hw)⟩, hK, fun w => gd_DD hinj (fun k hk => Or.inl ⟨k, hk, rfl⟩) w, hinj, hN⟩
  have hl := lv_entry (av.map (gd_tr ad)) (n := nL) (by rw [gd_sl_len]; exact hn)
  rw [lg_entry_eq]
  rw [gd_largs] at hl
  exact body p e s m _ below meth c E B.returns B.notSynchronized s.heap [] _ hP va_S.rf hl
section GP
variable {p : Program} {l : Launch} {e : Env} {R : Room} {s : State} {m : MethodId} {args : Array Value} {below : List Frame} {meth : Method} {c : Code} {D : va_G} {tC : FieldType → ClassId} {ad : Nat → Nat} {A : Nat → Prop} {n nL cells slots : Nat} {Q : State → Prop} {pc : Nat} {lv : List (Nat × Value)} {st : List Value} {w : gd_W} {cc : ByteArray} {own : String} {post : Option Value → gd_W → Prop}
theorem gd_iretp (E : gd_E p s m args c cc nL own D tC ad (gd_A ad n s.heap.size) n) (hr : meth.sig.returnType = some .int) (hlk : meth.locks = false) (hd : decode cc pc = .ok (.ireturn, 1)) {v : Int32} (hp : post (some (.int v)) w) : gd_G p l e R s m args below meth c D tC ad (gd_A ad n s.heap.size) n nL cells slots (MQ below (gd_Qp D tC ad n s.heap.size post) args s cells slots (gd_A ad n s.heap.size)) pc lv [.int v] w :=
  fun H locs ls hP hS hl => W.iret E.1.1 E.1.2.1 hr (fun t ht _ => ⟨some (.int v), w, rfl, hp, by rw [ht]; exact hP, hS.F ht⟩) hS.2.2 hd hlk
theorem gd_zretp (E : gd_E p s m args c cc nL own D tC ad (gd_A ad n s.heap.size) n) (hr : meth.sig.returnType = some .boolean) (hlk : meth.locks = false) (hd : decode cc pc = .ok (.ireturn, 1)) {v : Int32} (hv : v = 0 ∨ v = 1) (hp : post (some (.int v)) w) : gd_G p l e R s m args below meth c D tC ad (gd_A ad n s.heap.size) n nL cells slots (MQ below (gd_Qp D tC ad n s.heap.size post) args s cells slots (gd_A ad n s.heap.size)) pc lv [.int v] w :=
  fun H locs ls hP hS hl => W.zret E.1.1 E.1.2.1 hr (by rcases hv with rfl | rfl <;> rfl) (fun t ht _ => ⟨some (.int v), w, rfl, hp, by rw [ht]; exact hP, hS.F ht⟩) hS.2.2 hd hlk
theorem gd_lretp (E : gd_E p s m args c cc nL own D tC ad (gd_A ad n s.heap.size) n) (hr : meth.sig.returnType = some .long) (hlk : meth.locks = false) (hd : decode cc pc = .ok (.lreturn, 1)) {v : Int64} (hp : post (some (.long v)) w) : gd_G p l e R s m args below meth c D tC ad (gd_A ad n s.heap.size) n nL cells slots (MQ below (gd_Qp D tC ad n s.heap.size post) args s cells slots (gd_A ad n s.heap.size)) pc lv [.long v] w :=
  fun H locs ls hP hS hl => W.lret E.1.1 E.1.2.1 hr (fun t ht _ => ⟨some (.long v), w, rfl, hp, by rw [ht]; exact hP, hS.F ht⟩) hS.2.2 hd hlk
theorem gd_vretp (E : gd_E p s m args c cc nL own D tC ad (gd_A ad n s.heap.size) n) (hr : meth.sig.returnType = none) (hlk : meth.locks = false) (hd : decode cc pc = .ok (.return_, 1)) (hp : post none w) : gd_G p l e R s m args below meth c D tC ad (gd_A ad n s.heap.size) n nL cells slots (MQ below (gd_Qp D tC ad n s.heap.size post) args s cells slots (gd_A ad n s.heap.size)) pc lv [] w :=
  fun H locs ls hP hS hl => W.vret E.1.1 E.1.2.1 hr (fun t ht _ => ⟨none, w, rfl, hp, by rw [ht]; exact hP, hS.F ht⟩) hS.2.2 hd hlk
theorem gd_aretp (E : gd_E p s m args c cc nL own D tC ad (gd_A ad n s.heap.size) n) {C : String} (hr : meth.sig.returnType = some (.object C)) (hlk : meth.locks = false) (hd : decode cc pc = .ok (.areturn, 1)) {v : Value} (hv : v = .null ∨ ∃ a, v = .ref a) (hp : post (some v) w) : gd_G p l e R s m args below meth c D tC ad (gd_A ad n s.heap.size) n nL cells slots (MQ below (gd_Qp D tC ad n s.heap.size post) args s cells slots (gd_A ad n s.heap.size)) pc lv [v] w :=
  fun H locs ls hP hS hl => W.aret E.1.1 E.1.2.1 hr (Or.inl ⟨C, rfl⟩) (by rcases hv with rfl | ⟨a, rfl⟩; exact Or.inl rfl; exact Or.inr ⟨_, rfl⟩) (fun t ht _ => ⟨some v, w, rfl, hp, by rw [ht]; exact hP, hS.F ht⟩) hS.2.2 hd hlk
theorem gd_backp {sz : Nat} {a : Array Value} {H : Heap} {locs : List Loc} {ls : Array Slot} {st0 rest : List Value} (hr : va_Run p l e R s m args below meth c H locs cells slots 0 0 (F0 m pc ls st0) (rest.map (gd_tr ad)) (gd_Qp D tC ad n sz post a) (gd_A ad n sz)) (hsz : H.size = sz) (hA : ∀ q, gd_A ad n sz q → A q) (hS : va_S A s.heap H locs) (hl : lv_has ls nL (gd_lt ad lv))
    (kk : ∀ (r : Option Value) (w' : gd_W), post r w' → gd_G p l e R s m args below meth c D tC ad A n nL cells slots Q (pc + 3) lv (r.toList ++ rest) w') : W p l e R s m args below meth c H locs cells slots Q (F0 m pc ls st0) := by
  intro T hT X
  obtain ⟨v, st₀, t, T', L, h0, X', hL, e1, e2, ⟨r, w', hv, hp, hP, hz, hk⟩, st⟩ := hr T hT X
  have hv : v = r.map (gd_tr ad) := Outcome.returned.inj hv
  subst hv
  rw [h0] at hz hk
  have hS1 : va_S A s.heap T'.heap (locs ++ L) := ⟨Nat.le_trans hS.1 (by rw [e1]; exact hz), fun q h1 h2 => by rw [e1, hk q (Nat.lt_of_lt_of_le h1 hS.1) (fun z => h2 (hA q z))]; exact hS.2.1 q h1 h2, fun q hq => by
    rcases List.mem_append.mp hq with h | h
    · exact hS.2.2 q h
    · exact hA _ (hL q h)⟩
  obtain ⟨t2, a1, b1⟩ := kk r w' hp T'.heap (locs ++ L) ls (by rw [e1]; exact hP) hS1 hl T' rfl X'
  refine ⟨t2, st t2 ?_, b1⟩
  have e3 : (r.toList ++ rest).map (gd_tr ad) = (r.map (gd_tr ad)).toList ++ rest.map (gd_tr ad) := by cases r <;> simp
  rw [e3] at a1
  exact a1
set_option maxHeartbeats 1000000 in
theorem gd_cVp (E : gd_E p s m args c cc nL own D tC ad A n) (hA : ∀ q, gd_A ad n s.heap.size q → A q) {y : MethodName} {bytes : ByteArray} {maxL fr lo k idx ci : Nat} {ret : Option FieldType} {av rest : List Value} (hc : gd_Cp l D tC ad n fr lo y bytes maxL ret (.ref k :: av) w post) (hd : decode cc pc = .ok (.invokevirtual idx, 3)) (hl : gd_ml own idx y)
    (hcv : gd_CV y bytes maxL ret ci av.length) (hk : k < n) (hs : gd_sh k = .inl ci) (hR : fr + 1 ≤ R.frames ∧ 8 + (maxL + 11) + lo ≤ R.locals) (hcs : cells ≤ R.cells ∧ slots ≤ R.slots) (hst : st = av.reverse ++ .ref k :: rest) (hsum : (rest.map fun v => v.category).sum ≤ 8)
    (kk : ∀ (r : Option Value) (w' : gd_W), post r w' → gd_G p l e R s m args below meth c D tC ad A n nL cells slots Q (pc + 3) lv (r.toList ++ rest) w') : gd_G p l e R s m args below meth c D tC ad A n nL cells slots Q pc lv st w := by
  intro H locs ls hP hS hv
  have hst' : st.map (gd_tr ad) = (av.map (gd_tr ad)).reverse ++ .ref (ad k) :: rest.map (gd_tr ad) := by rw [hst]; simp [gd_tr]
  have he : (gd_wl tC ad n w)[k]? = some (ad k, .inr (ci, gd_fs ad w k (gd_ft ci))) := by rw [gd_wl_at hk, hs]; rfl
  have hts := E.1.2.2.2.2
  obtain ⟨⟨h1, h2, h3, h4⟩, ⟨T, N, hcl⟩, hy⟩ := hcv
  have hp : PreV s H y.cls (ad k) (va_Pc ((Value.ref k :: av).map (gd_tr ad)) (gd_Pre D tC ad n H.size w)) (av.map (gd_tr ad)) := ⟨gd_blind gd_nwk, va_recv E.2.1 hP hcl he, gd_pre E gd_nwk hP (av := .ref k :: av)⟩
  have hg := gd_gin gd_good h4
  rcases hl with h0 | ⟨host, h0⟩
  · have cw : CallW R s args own y.cls idx y bytes maxL ret (.code y bytes maxL ret :: gd_all) (gd_rm fr lo) 0 0 av.length := ⟨callB_of av.length hts hg rfl rfl rfl (hts _ h3) (hts _ h0) hy hR, hts _ h1, hts _ h2⟩
    rw [hst']
    exact gd_backp (va_runV E.1 (hc H.size) cw hp rfl (by simp) hv.1 rfl (lv_room (gd_sum hsum)) hd hcs) rfl (gd_AA hA hS.1) hS hv kk
  · have cw : va_CN R s args own idx y host bytes maxL ret (.code y bytes maxL ret :: gd_all) (gd_rm fr lo) 0 0 av.length ∧ (Cond.instanceMethod y).before args s = true ∧ (Cond.selects y.cls y y).before args s = true := ⟨va_cnB av.length hts hg rfl rfl rfl (E.2.2.2.2 _ h0) (hts _ h3) hy hR, hts _ h1, hts _ h2⟩
    rw [hst']
    exact gd_backp (va_runVN E.1 (hc H.size) cw hp rfl (by simp) hv.1 rfl (lv_room (gd_sum hsum)) hd hcs) rfl (gd_AA hA hS.1) hS hv kk
set_option maxHeartbeats 1000000 in
theorem gd_cSp (E : gd_E p s m args c cc nL own D tC ad A n) (hA : ∀ q, gd_A ad n s.heap.size q → A q) {y : MethodName} {bytes : ByteArray} {maxL fr lo idx : Nat} {ret : Option FieldType} {av rest : List Value} (hc : gd_Cp l D tC ad n fr lo y bytes maxL ret av w post) (hd : decode cc pc = .ok (.invokestatic idx, 3)) (hl : gd_ml own idx y)
    (hcv : gd_CS y bytes maxL ret av.length) (hR : fr + 1 ≤ R.frames ∧ 8 + (maxL + 11) + lo ≤ R.locals) (hcs : cells ≤ R.cells ∧ slots ≤ R.slots) (hst : st = av.reverse ++ rest) (hsum : (rest.map fun v => v.category).sum ≤ 8)
    (kk : ∀ (r : Option Value) (w' : gd_W), post r w' → gd_G p l e R s m args below meth c D tC ad A n nL cells slots Q (pc + 3) lv (r.toList ++ rest) w') : gd_G p l e R s m args below meth c D tC ad A n nL cells slots Q pc lv st w := by
  intro H locs ls hP hS hv
  have hst' : st.map (gd_tr ad) = (av.map (gd_tr ad)).reverse ++ rest.map (gd_tr ad) := by rw [hst]; simp
  have hts := E.1.2.2.2.2
  obtain ⟨⟨h1, h3, h4⟩, hy⟩ := hcv
  have hp : PreS s H (va_Pc (av.map (gd_tr ad)) (gd_Pre D tC ad n H.size w)) (av.map (gd_tr ad)) := ⟨gd_blind gd_nwk, gd_pre E gd_nwk hP (av := av)⟩
  have hg := gd_gin gd_good h4
  rcases hl with h0 | ⟨host, h0⟩
  · have cw : CallB R s args own idx y bytes maxL ret (.code y bytes maxL ret :: gd_all) (gd_rm fr lo) 0 0 av.length ∧ (Cond.static y).before args s = true := ⟨callB_of av.length hts hg rfl rfl rfl (hts _ h3) (hts _ h0) hy hR, hts _ h1⟩
    rw [hst']
    exact gd_backp (va_runS E.1 (hc H.size) cw hp rfl (by simp) hv.1 rfl (lv_room (gd_sum hsum)) hd hcs) rfl (gd_AA hA hS.1) hS hv kk
  · have cw : va_CN R s args own idx y host bytes maxL ret (.code y bytes maxL ret :: gd_all) (gd_rm fr lo) 0 0 av.length ∧ (Cond.static y).before args s = true ∧ True := ⟨va_cnB av.length hts hg rfl rfl rfl (E.2.2.2.2 _ h0) (hts _ h3) hy hR, hts _ h1, trivial⟩
    rw [hst']
    exact gd_backp (va_runSN E.1 (hc H.size) cw hp rfl (by simp) hv.1 rfl (lv_room (gd_sum hsum)) hd hcs) rfl (gd_AA hA hS.1) hS hv kk
end GP
/-- a contract's answer and world by a predicate -/
theorem gd_Ct_p {l : Launch} {D : va_G} {tC : FieldType → ClassId} {ad : Nat → Nat} {n fr lo : Nat} {y : MethodName} {cc : ByteArray} {nL : Nat} {ret : Option FieldType} {av : List Value} {w w' : gd_W} {r : Option Value} {post : Option Value → gd_W → Prop} (h : gd_Ct l D tC ad n fr lo y cc nL ret av w r w') (hp : post r w') : gd_Cp l D tC ad n fr lo y cc nL ret av w post := by
  intro sz p e ha hc hk s m args below hf happ hpre hK
  obtain ⟨t, o, h1, h2, h3, ⟨⟨q1, q2, q3⟩, h5⟩⟩ := h sz p e ha hc hk s m args below hf happ hpre hK
  exact ⟨t, o, h1, h2, h3, ⟨r, w', q1, hp, q2, q3⟩, h5⟩
end
section
def gm_has (x y : Int32) : Int32 := if x < 0 then 0 else if 8 ≤ x then 0 else if y < 0 then 0 else if 8 ≤ y then 0 else 1
def gm_near4 (x y : Int32) : Int32 := if x < -1 then 0 else if 1 < x then 0 else if y < -1 then 0 else if 1 < y then 0 else 1
theorem gm_has_01 (x y : Int32) : gm_has x y = 0 ∨ gm_has x y = 1 := by
  unfold gm_has
  repeat' split
  all_goals first | exact Or.inl rfl | exact Or.inr rfl
set_option maxRecDepth 100000 in
theorem c2_has {l : Launch} {D : va_G} {tC : FieldType → ClassId} {ad : Nat → Nat} (hinj : ∀ i j, ad i = ad j → i = j) (x y : Int32) (w : gd_W) : gd_Ct l D tC ad 45 0 0 y_S_has c_S_has 2 (some .boolean) [.int x, .int y] w (some (.int (gm_has x y))) w := by
  refine gd_Ct_of rfl hinj (Nat.le_of_ble_eq_true rfl) ?_
  intro p e s m args below meth c E hr hlk
  have K := k_S_has
  have hA : ∀ q, gd_A ad 45 s.heap.size q → gd_A ad 45 s.heap.size q := fun _ h => h
  refine gd_r E K 1 (pc' := 1) (lv' := [(0, .int x), (1, .int y)]) (st' := [.int x]) (w' := w) rfl ?_
  refine gd_r E K 1 (pc' := if x < 0 then 24 else 4) (lv' := [(0, .int x), (1, .int y)]) (st' := []) (w' := w) rfl ?_
  refine gd_ite (fun h1 => ?_) (fun h1 => ?_)
  · refine gd_r E K 1 (pc' := 25) (lv' := [(0, .int x), (1, .int y)]) (st' := [.int 0]) (w' := w) rfl ?_
    exact gd_zretq E hr hlk (K.1 25 (.ireturn, 0) rfl).1 (by decide) (by simp [gm_has, h1]) (rfl)
  · refine gd_r E K 2 (pc' := 7) (lv' := [(0, .int x), (1, .int y)]) (st' := [.int 8, .int x]) (w' := w) rfl ?_
    refine gd_r E K 1 (pc' := if 8 ≤ x then 24 else 10) (lv' := [(0, .int x), (1, .int y)]) (st' := []) (w' := w) rfl ?_
    refine gd_ite (fun h2 => ?_) (fun h2 => ?_)
    · refine gd_r E K 1 (pc' := 25) (lv' := [(0, .int x), (1, .int y)]) (st' := [.int 0]) (w' := w) rfl ?_
      exact gd_zretq E hr hlk (K.1 25 (.ireturn, 0) rfl).1 (by decide) (by simp [gm_has, h1, h2]) (rfl)
    · refine gd_r E K 1 (pc' := 11) (lv' := [(0, .int x), (1, .int y)]) (st' := [.int y]) (w' := w) rfl ?_
      refine gd_r E K 1 (pc' := if y < 0 then 24 else 14) (lv' := [(0, .int x), (1, .int y)]) (st' := []) (w' := w) rfl ?_
      refine gd_ite (fun h3 => ?_) (fun h3 => ?_)
      · refine gd_r E K 1 (pc' := 25) (lv' := [(0, .int x), (1, .int y)]) (st' := [.int 0]) (w' := w) rfl ?_
        exact gd_zretq E hr hlk (K.1 25 (.ireturn, 0) rfl).1 (by decide) (by simp [gm_has, h1, h2, h3]) (rfl)
      · refine gd_r E K 2 (pc' := 17) (lv' := [(0, .int x), (1, .int y)]) (st' := [.int 8, .int y]) (w' := w) rfl ?_
        refine gd_r E K 1 (pc' := if 8 ≤ y then 24 else 20) (lv' := [(0, .int x), (1, .int y)]) (st' := []) (w' := w) rfl ?_
        refine gd_ite (fun h4 => ?_) (fun h4 => ?_)
        · refine gd_r E K 1 (pc' := 25) (lv' := [(0, .int x), (1, .int y)]) (st' := [.int 0]) (w' := w) rfl ?_
          exact gd_zretq E hr hlk (K.1 25 (.ireturn, 0) rfl).1 (by decide) (by simp [gm_has, h1, h2, h3, h4]) (rfl)
        · refine gd_r E K 2 (pc' := 25) (lv' := [(0, .int x), (1, .int y)]) (st' := [.int 1]) (w' := w) rfl ?_
          exact gd_zretq E hr hlk (K.1 25 (.ireturn, 0) rfl).1 (by decide) (by simp [gm_has, h1, h2, h3, h4]) (rfl)
set_option maxRecDepth 100000 in
theorem c2_isCell {l : Launch} {D : va_G} {tC : FieldType → ClassId} {ad : Nat → Nat} (hinj : ∀ i j, ad i = ad j → i = j) (x y : Int32) (w : gd_W) : gd_Ct l D tC ad 45 0 0 y_M_isCell c_M_isCell 2 (some .boolean) [.int x, .int y] w (some (.int (gm_has x y))) w := by
  refine gd_Ct_of rfl hinj (Nat.le_of_ble_eq_true rfl) ?_
  intro p e s m args below meth c E hr hlk
  have K := k_M_isCell
  have hA : ∀ q, gd_A ad 45 s.heap.size q → gd_A ad 45 s.heap.size q := fun _ h => h
  refine gd_r E K 1 (pc' := 1) (lv' := [(0, .int x), (1, .int y)]) (st' := [.int x]) (w' := w) rfl ?_
  refine gd_r E K 1 (pc' := if x < 0 then 24 else 4) (lv' := [(0, .int x), (1, .int y)]) (st' := []) (w' := w) rfl ?_
  refine gd_ite (fun h1 => ?_) (fun h1 => ?_)
  · refine gd_r E K 1 (pc' := 25) (lv' := [(0, .int x), (1, .int y)]) (st' := [.int 0]) (w' := w) rfl ?_
    exact gd_zretq E hr hlk (K.1 25 (.ireturn, 0) rfl).1 (by decide) (by simp [gm_has, h1]) (rfl)
  · refine gd_r E K 2 (pc' := 7) (lv' := [(0, .int x), (1, .int y)]) (st' := [.int 8, .int x]) (w' := w) rfl ?_
    refine gd_r E K 1 (pc' := if 8 ≤ x then 24 else 10) (lv' := [(0, .int x), (1, .int y)]) (st' := []) (w' := w) rfl ?_
    refine gd_ite (fun h2 => ?_) (fun h2 => ?_)
    · refine gd_r E K 1 (pc' := 25) (lv' := [(0, .int x), (1, .int y)]) (st' := [.int 0]) (w' := w) rfl ?_
      exact gd_zretq E hr hlk (K.1 25 (.ireturn, 0) rfl).1 (by decide) (by simp [gm_has, h1, h2]) (rfl)
    · refine gd_r E K 1 (pc' := 11) (lv' := [(0, .int x), (1, .int y)]) (st' := [.int y]) (w' := w) rfl ?_
      refine gd_r E K 1 (pc' := if y < 0 then 24 else 14) (lv' := [(0, .int x), (1, .int y)]) (st' := []) (w' := w) rfl ?_
      refine gd_ite (fun h3 => ?_) (fun h3 => ?_)
      · refine gd_r E K 1 (pc' := 25) (lv' := [(0, .int x), (1, .int y)]) (st' := [.int 0]) (w' := w) rfl ?_
        exact gd_zretq E hr hlk (K.1 25 (.ireturn, 0) rfl).1 (by decide) (by simp [gm_has, h1, h2, h3]) (rfl)
      · refine gd_r E K 2 (pc' := 17) (lv' := [(0, .int x), (1, .int y)]) (st' := [.int 8, .int y]) (w' := w) rfl ?_
        refine gd_r E K 1 (pc' := if 8 ≤ y then 24 else 20) (lv' := [(0, .int x), (1, .int y)]) (st' := []) (w' := w) rfl ?_
        refine gd_ite (fun h4 => ?_) (fun h4 => ?_)
        · refine gd_r E K 1 (pc' := 25) (lv' := [(0, .int x), (1, .int y)]) (st' := [.int 0]) (w' := w) rfl ?_
          exact gd_zretq E hr hlk (K.1 25 (.ireturn, 0) rfl).1 (by decide) (by simp [gm_has, h1, h2, h3, h4]) (rfl)
        · refine gd_r E K 2 (pc' := 25) (lv' := [(0, .int x), (1, .int y)]) (st' := [.int 1]) (w' := w) rfl ?_
          exact gd_zretq E hr hlk (K.1 25 (.ireturn, 0) rfl).1 (by decide) (by simp [gm_has, h1, h2, h3, h4]) (rfl)
set_option maxRecDepth 100000 in
theorem c2_at {l : Launch} {D : va_G} {tC : FieldType → ClassId} {ad : Nat → Nat} (hinj : ∀ i j, ad i = ad j → i = j) (x y : Int32) (w : gd_W) : gd_Ct l D tC ad 45 0 0 y_S_at c_S_at 2 (some .int) [.int x, .int y] w (some (.int (8 * y + x))) w := by
  refine gd_Ct_of rfl hinj (Nat.le_of_ble_eq_true rfl) ?_
  intro p e s m args below meth c E hr hlk
  have K := k_S_at
  have hA : ∀ q, gd_A ad 45 s.heap.size q → gd_A ad 45 s.heap.size q := fun _ h => h
  refine gd_r E K 5 (pc' := 6) (lv' := [(0, .int x), (1, .int y)]) (st' := [.int ((8 * y) + x)]) (w' := w) rfl ?_
  exact gd_iretq E hr hlk (K.1 6 (.ireturn, 0) rfl).1 (rfl) (rfl)
set_option maxRecDepth 100000 in
theorem c2_only {l : Launch} {D : va_G} {tC : FieldType → ClassId} {ad : Nat → Nat} (hinj : ∀ i j, ad i = ad j → i = j) (x : Int32) (w : gd_W) : gd_Ct l D tC ad 45 0 0 y_S_only c_S_only 1 (some .long) [.int x] w (some (.long (gm_shl 1 x))) w := by
  refine gd_Ct_of rfl hinj (Nat.le_of_ble_eq_true rfl) ?_
  intro p e s m args below meth c E hr hlk
  have K := k_S_only
  have hA : ∀ q, gd_A ad 45 s.heap.size q → gd_A ad 45 s.heap.size q := fun _ h => h
  refine gd_r E K 3 (pc' := 3) (lv' := [(0, .int x)]) (st' := [.long (gm_shl 1 x)]) (w' := w) rfl ?_
  exact gd_lretq E hr hlk (K.1 3 (.lreturn, 0) rfl).1 (rfl) (rfl)
set_option maxRecDepth 100000 in
theorem c2_ud {l : Launch} {D : va_G} {tC : FieldType → ClassId} {ad : Nat → Nat} (hinj : ∀ i j, ad i = ad j → i = j) (x : Int64) (w : gd_W) : gd_Ct l D tC ad 45 0 0 y_S_upAndDown c_S_upAndDown 2 (some .long) [.long x] w (some (.long (gm_ud x))) w := by
  refine gd_Ct_of rfl hinj (Nat.le_of_ble_eq_true rfl) ?_
  intro p e s m args below meth c E hr hlk
  have K := k_S_upAndDown
  have hA : ∀ q, gd_A ad 45 s.heap.size q → gd_A ad 45 s.heap.size q := fun _ h => h
  refine gd_r E K 9 (pc' := 11) (lv' := [(0, .long x)]) (st' := [.long ((x ||| (gm_shl x 8)) ||| (gm_ushr x 8))]) (w' := w) rfl ?_
  exact gd_lretq E hr hlk (K.1 11 (.lreturn, 0) rfl).1 (rfl) (rfl)
set_option maxRecDepth 100000 in
theorem c2_sw {l : Launch} {D : va_G} {tC : FieldType → ClassId} {ad : Nat → Nat} (hinj : ∀ i j, ad i = ad j → i = j) (x : Int64) (w : gd_W) : gd_Ct l D tC ad 45 0 0 y_S_sideways c_S_sideways 2 (some .long) [.long x] w (some (.long (gm_sw x))) w := by
  refine gd_Ct_of rfl hinj (Nat.le_of_ble_eq_true rfl) ?_
  intro p e s m args below meth c E hr hlk
  have K := k_S_sideways
  have hA : ∀ q, gd_A ad 45 s.heap.size q → gd_A ad 45 s.heap.size q := fun _ h => h
  refine gd_r E K 13 (pc' := 17) (lv' := [(0, .long x)]) (st' := [.long ((x ||| (gm_shl (x &&& 9187201950435737471) 1)) ||| (gm_ushr (x &&& (-72340172838076674)) 1))]) (w' := w) rfl ?_
  exact gd_lretq E hr hlk (K.1 17 (.lreturn, 0) rfl).1 (rfl) (rfl)
set_option maxRecDepth 100000 in
theorem c2_near {l : Launch} {D : va_G} {tC : FieldType → ClassId} {ad : Nat → Nat} (hinj : ∀ i j, ad i = ad j → i = j) (x : Int64) (w : gd_W) : gd_Ct l D tC ad 45 1 21 y_S_near c_S_near 2 (some .long) [.long x] w (some (.long (gm_ud (gm_sw x)))) w := by
  refine gd_Ct_of rfl hinj (Nat.le_of_ble_eq_true rfl) ?_
  intro p e s m args below meth c E hr hlk
  have K := k_S_near
  have hA : ∀ q, gd_A ad 45 s.heap.size q → gd_A ad 45 s.heap.size q := fun _ h => h
  refine gd_r E K 1 (pc' := 1) (lv' := [(0, .long x)]) (st' := [.long x]) (w' := w) rfl ?_
  refine gd_cS E hA (av := [.long x]) (rest := []) (c2_sw hinj x w) (K.1 1 (.invokestatic 23, 0) rfl).1 ml_S_23 cv_S_sideways ⟨Nat.le_of_ble_eq_true rfl, Nat.le_of_ble_eq_true rfl⟩ ⟨Nat.zero_le _, Nat.zero_le _⟩ rfl (Nat.le_of_ble_eq_true rfl) ?_
  refine gd_cS E hA (av := [.long (gm_sw x)]) (rest := []) (c2_ud hinj (gm_sw x) w) (K.1 4 (.invokestatic 19, 0) rfl).1 ml_S_19 cv_S_upAndDown ⟨Nat.le_of_ble_eq_true rfl, Nat.le_of_ble_eq_true rfl⟩ ⟨Nat.zero_le _, Nat.zero_le _⟩ rfl (Nat.le_of_ble_eq_true rfl) ?_
  exact gd_lretq E hr hlk (K.1 7 (.lreturn, 0) rfl).1 (rfl) (rfl)
set_option maxRecDepth 100000 in
theorem c2_move {l : Launch} {D : va_G} {tC : FieldType → ClassId} {ad : Nat → Nat} (hinj : ∀ i j, ad i = ad j → i = j) (x : Int64) (w : gd_W) : gd_Ct l D tC ad 45 1 21 y_S_oneMoveFrom c_S_oneMoveFrom 2 (some .long) [.long x] w (some (.long (gm_ud x ||| gm_sw x))) w := by
  refine gd_Ct_of rfl hinj (Nat.le_of_ble_eq_true rfl) ?_
  intro p e s m args below meth c E hr hlk
  have K := k_S_oneMoveFrom
  have hA : ∀ q, gd_A ad 45 s.heap.size q → gd_A ad 45 s.heap.size q := fun _ h => h
  refine gd_r E K 1 (pc' := 1) (lv' := [(0, .long x)]) (st' := [.long x]) (w' := w) rfl ?_
  refine gd_cS E hA (av := [.long x]) (rest := []) (c2_ud hinj x w) (K.1 1 (.invokestatic 19, 0) rfl).1 ml_S_19 cv_S_upAndDown ⟨Nat.le_of_ble_eq_true rfl, Nat.le_of_ble_eq_true rfl⟩ ⟨Nat.zero_le _, Nat.zero_le _⟩ rfl (Nat.le_of_ble_eq_true rfl) ?_
  refine gd_r E K 1 (pc' := 5) (lv' := [(0, .long x)]) (st' := [.long x, .long (gm_ud x)]) (w' := w) rfl ?_
  refine gd_cS E hA (av := [.long x]) (rest := [.long (gm_ud x)]) (c2_sw hinj x w) (K.1 5 (.invokestatic 23, 0) rfl).1 ml_S_23 cv_S_sideways ⟨Nat.le_of_ble_eq_true rfl, Nat.le_of_ble_eq_true rfl⟩ ⟨Nat.zero_le _, Nat.zero_le _⟩ rfl (Nat.le_of_ble_eq_true rfl) ?_
  refine gd_r E K 1 (pc' := 9) (lv' := [(0, .long x)]) (st' := [.long ((gm_ud x) ||| (gm_sw x))]) (w' := w) rfl ?_
  exact gd_lretq E hr hlk (K.1 9 (.lreturn, 0) rfl).1 (rfl) (rfl)
set_option maxRecDepth 100000 in
theorem gm_near4_eq : ∀ a, a < 64 → ∀ b, b < 64 → (if gm_near a b = true then 1 else 0) = gm_near4 (nI a - nI a / 8 * 8 - (nI b - nI b / 8 * 8)) (nI a / 8 - nI b / 8) := by decide +kernel
set_option maxRecDepth 100000 in
theorem c2_areNear {l : Launch} {D : va_G} {tC : FieldType → ClassId} {ad : Nat → Nat} (hinj : ∀ i j, ad i = ad j → i = j) (a b : Nat) (ha : a < 64) (hb : b < 64) (w : gd_W) : gd_Ct l D tC ad 45 0 0 y_M_areNear c_M_areNear 4 (some .boolean) [.int (nI a), .int (nI b)] w (some (.int (if gm_near a b then 1 else 0))) w := by
  refine gd_Ct_of rfl hinj (Nat.le_of_ble_eq_true rfl) ?_
  intro p e s m args below meth c E hr hlk
  have K := k_M_areNear
  have hA : ∀ q, gd_A ad 45 s.heap.size q → gd_A ad 45 s.heap.size q := fun _ h => h
  rw [gm_near4_eq a ha b hb]
  refine gd_r E K 18 (pc' := 22) (lv' := [(0, .int (nI a)), (1, .int (nI b)), (2, .int (((nI a) - (nI a) / 8 * 8) - ((nI b) - (nI b) / 8 * 8))), (3, .int (((nI a) / 8) - ((nI b) / 8)))]) (st' := [.int (-1), .int (((nI a) - (nI a) / 8 * 8) - ((nI b) - (nI b) / 8 * 8))]) (w' := w) rfl ?_
  refine gd_r E K 1 (pc' := if (((nI a) - (nI a) / 8 * 8) - ((nI b) - (nI b) / 8 * 8)) < (-1) then 44 else 25) (lv' := [(0, .int (nI a)), (1, .int (nI b)), (2, .int (((nI a) - (nI a) / 8 * 8) - ((nI b) - (nI b) / 8 * 8))), (3, .int (((nI a) / 8) - ((nI b) / 8)))]) (st' := []) (w' := w) rfl ?_
  refine gd_ite (fun h1 => ?_) (fun h1 => ?_)
  · refine gd_r E K 1 (pc' := 45) (lv' := [(0, .int (nI a)), (1, .int (nI b)), (2, .int (((nI a) - (nI a) / 8 * 8) - ((nI b) - (nI b) / 8 * 8))), (3, .int (((nI a) / 8) - ((nI b) / 8)))]) (st' := [.int 0]) (w' := w) rfl ?_
    exact gd_zretq E hr hlk (K.1 45 (.ireturn, 0) rfl).1 (by decide) (by simp [gm_near4, h1]) (rfl)
  · refine gd_r E K 2 (pc' := 27) (lv' := [(0, .int (nI a)), (1, .int (nI b)), (2, .int (((nI a) - (nI a) / 8 * 8) - ((nI b) - (nI b) / 8 * 8))), (3, .int (((nI a) / 8) - ((nI b) / 8)))]) (st' := [.int 1, .int (((nI a) - (nI a) / 8 * 8) - ((nI b) - (nI b) / 8 * 8))]) (w' := w) rfl ?_
    refine gd_r E K 1 (pc' := if 1 < (((nI a) - (nI a) / 8 * 8) - ((nI b) - (nI b) / 8 * 8)) then 44 else 30) (lv' := [(0, .int (nI a)), (1, .int (nI b)), (2, .int (((nI a) - (nI a) / 8 * 8) - ((nI b) - (nI b) / 8 * 8))), (3, .int (((nI a) / 8) - ((nI b) / 8)))]) (st' := []) (w' := w) rfl ?_
    refine gd_ite (fun h2 => ?_) (fun h2 => ?_)
    · refine gd_r E K 1 (pc' := 45) (lv' := [(0, .int (nI a)), (1, .int (nI b)), (2, .int (((nI a) - (nI a) / 8 * 8) - ((nI b) - (nI b) / 8 * 8))), (3, .int (((nI a) / 8) - ((nI b) / 8)))]) (st' := [.int 0]) (w' := w) rfl ?_
      exact gd_zretq E hr hlk (K.1 45 (.ireturn, 0) rfl).1 (by decide) (by simp [gm_near4, h1, h2]) (rfl)
    · refine gd_r E K 2 (pc' := 32) (lv' := [(0, .int (nI a)), (1, .int (nI b)), (2, .int (((nI a) - (nI a) / 8 * 8) - ((nI b) - (nI b) / 8 * 8))), (3, .int (((nI a) / 8) - ((nI b) / 8)))]) (st' := [.int (-1), .int (((nI a) / 8) - ((nI b) / 8))]) (w' := w) rfl ?_
      refine gd_r E K 1 (pc' := if (((nI a) / 8) - ((nI b) / 8)) < (-1) then 44 else 35) (lv' := [(0, .int (nI a)), (1, .int (nI b)), (2, .int (((nI a) - (nI a) / 8 * 8) - ((nI b) - (nI b) / 8 * 8))), (3, .int (((nI a) / 8) - ((nI b) / 8)))]) (st' := []) (w' := w) rfl ?_
      refine gd_ite (fun h3 => ?_) (fun h3 => ?_)
      · refine gd_r E K 1 (pc' := 45) (lv' := [(0, .int (nI a)), (1, .int (nI b)), (2, .int (((nI a) - (nI a) / 8 * 8) - ((nI b) - (nI b) / 8 * 8))), (3, .int (((nI a) / 8) - ((nI b) / 8)))]) (st' := [.int 0]) (w' := w) rfl ?_
        exact gd_zretq E hr hlk (K.1 45 (.ireturn, 0) rfl).1 (by decide) (by simp [gm_near4, h1, h2, h3]) (rfl)
      · refine gd_r E K 2 (pc' := 37) (lv' := [(0, .int (nI a)), (1, .int (nI b)), (2, .int (((nI a) - (nI a) / 8 * 8) - ((nI b) - (nI b) / 8 * 8))), (3, .int (((nI a) / 8) - ((nI b) / 8)))]) (st' := [.int 1, .int (((nI a) / 8) - ((nI b) / 8))]) (w' := w) rfl ?_
        refine gd_r E K 1 (pc' := if 1 < (((nI a) / 8) - ((nI b) / 8)) then 44 else 40) (lv' := [(0, .int (nI a)), (1, .int (nI b)), (2, .int (((nI a) - (nI a) / 8 * 8) - ((nI b) - (nI b) / 8 * 8))), (3, .int (((nI a) / 8) - ((nI b) / 8)))]) (st' := []) (w' := w) rfl ?_
        refine gd_ite (fun h4 => ?_) (fun h4 => ?_)
        · refine gd_r E K 1 (pc' := 45) (lv' := [(0, .int (nI a)), (1, .int (nI b)), (2, .int (((nI a) - (nI a) / 8 * 8) - ((nI b) - (nI b) / 8 * 8))), (3, .int (((nI a) / 8) - ((nI b) / 8)))]) (st' := [.int 0]) (w' := w) rfl ?_
          exact gd_zretq E hr hlk (K.1 45 (.ireturn, 0) rfl).1 (by decide) (by simp [gm_near4, h1, h2, h3, h4]) (rfl)
        · refine gd_r E K 2 (pc' := 45) (lv' := [(0, .int (nI a)), (1, .int (nI b)), (2, .int (((nI a) - (nI a) / 8 * 8) - ((nI b) - (nI b) / 8 * 8))), (3, .int (((nI a) / 8) - ((nI b) / 8)))]) (st' := [.int 1]) (w' := w) rfl ?_
          exact gd_zretq E hr hlk (K.1 45 (.ireturn, 0) rfl).1 (by decide) (by simp [gm_near4, h1, h2, h3, h4]) (rfl)
theorem dsw_S_after : decode c_S_after 11 = .ok (.tableswitch 53 1 4 #[29, 35, 41, 47], 29) := by decide +kernel
theorem c2_after_0 : ∀ c0, c0 < 64 → gm_nO (gm_mv c0 0) = if gm_has ((nI c0) - (nI c0) / 8 * 8) ((nI c0) / 8) = 0 then -1 else 8 * ((nI c0) / 8) + ((nI c0) - (nI c0) / 8 * 8) := by decide +kernel
theorem c2_after_1 : ∀ c0, c0 < 64 → gm_nO (gm_mv c0 1) = if gm_has ((nI c0) - (nI c0) / 8 * 8) (((nI c0) / 8) + (-1)) = 0 then -1 else 8 * (((nI c0) / 8) + (-1)) + ((nI c0) - (nI c0) / 8 * 8) := by decide +kernel
theorem c2_after_2 : ∀ c0, c0 < 64 → gm_nO (gm_mv c0 2) = if gm_has (((nI c0) - (nI c0) / 8 * 8) + 1) ((nI c0) / 8) = 0 then -1 else 8 * ((nI c0) / 8) + (((nI c0) - (nI c0) / 8 * 8) + 1) := by decide +kernel
theorem c2_after_3 : ∀ c0, c0 < 64 → gm_nO (gm_mv c0 3) = if gm_has ((nI c0) - (nI c0) / 8 * 8) (((nI c0) / 8) + 1) = 0 then -1 else 8 * (((nI c0) / 8) + 1) + ((nI c0) - (nI c0) / 8 * 8) := by decide +kernel
theorem c2_after_4 : ∀ c0, c0 < 64 → gm_nO (gm_mv c0 4) = if gm_has (((nI c0) - (nI c0) / 8 * 8) + (-1)) ((nI c0) / 8) = 0 then -1 else 8 * ((nI c0) / 8) + (((nI c0) - (nI c0) / 8 * 8) + (-1)) := by decide +kernel
set_option maxRecDepth 100000 in
theorem c2_after {l : Launch} {D : va_G} {tC : FieldType → ClassId} {ad : Nat → Nat} (hinj : ∀ i j, ad i = ad j → i = j) (c0 k : Nat) (hc : c0 < 64) (hk : k < 5) (w : gd_W) : gd_Ct l D tC ad 45 1 21 y_S_after c_S_after 4 (some .int) [.int (nI c0), .int (nI k)] w (some (.int (gm_nO (gm_mv c0 k)))) w := by
  refine gd_Ct_of rfl hinj (Nat.le_of_ble_eq_true rfl) ?_
  intro p e s m args below meth c E hr hlk
  have K := k_S_after
  have hA : ∀ q, gd_A ad 45 s.heap.size q → gd_A ad 45 s.heap.size q := fun _ h => h
  rcases (by omega : k = 0 ∨ k = 1 ∨ k = 2 ∨ k = 3 ∨ k = 4) with rfl | rfl | rfl | rfl | rfl
  · refine gd_r E K 9 (pc' := 11) (lv' := [(0, .int (nI c0)), (1, .int (nI 0)), (2, .int ((nI c0) - (nI c0) / 8 * 8)), (3, .int ((nI c0) / 8))]) (st' := [.int (nI 0)]) (w' := w) rfl ?_
    refine gd_tabOut E dsw_S_after (tgt := 64) (by decide) (by decide) ?_
    refine gd_r E K 2 (pc' := 66) (lv' := [(0, .int (nI c0)), (1, .int (nI 0)), (2, .int ((nI c0) - (nI c0) / 8 * 8)), (3, .int ((nI c0) / 8))]) (st' := [.int ((nI c0) / 8), .int ((nI c0) - (nI c0) / 8 * 8)]) (w' := w) rfl ?_
    refine gd_cS E hA (av := [.int ((nI c0) - (nI c0) / 8 * 8), .int ((nI c0) / 8)]) (rest := []) (c2_has hinj ((nI c0) - (nI c0) / 8 * 8) ((nI c0) / 8) w) (K.1 66 (.invokestatic 9, 0) rfl).1 ml_S_9 cv_S_has ⟨Nat.le_of_ble_eq_true rfl, Nat.le_of_ble_eq_true rfl⟩ ⟨Nat.zero_le _, Nat.zero_le _⟩ rfl (Nat.le_of_ble_eq_true rfl) ?_
    generalize hg1 : gm_has ((nI c0) - (nI c0) / 8 * 8) ((nI c0) / 8) = g1
    refine gd_r E K 1 (pc' := if g1 = 0 then 80 else 72) (lv' := [(0, .int (nI c0)), (1, .int (nI 0)), (2, .int ((nI c0) - (nI c0) / 8 * 8)), (3, .int ((nI c0) / 8))]) (st' := []) (w' := w) rfl ?_
    refine gd_ite (fun h1 => ?_) (fun h1 => ?_)
    · refine gd_r E K 1 (pc' := 81) (lv' := [(0, .int (nI c0)), (1, .int (nI 0)), (2, .int ((nI c0) - (nI c0) / 8 * 8)), (3, .int ((nI c0) / 8))]) (st' := [.int (-1)]) (w' := w) rfl ?_
      exact gd_iretq E hr hlk (K.1 81 (.ireturn, 0) rfl).1 (by rw [c2_after_0 c0 hc, hg1, if_pos h1]) (rfl)
    · refine gd_r E K 2 (pc' := 74) (lv' := [(0, .int (nI c0)), (1, .int (nI 0)), (2, .int ((nI c0) - (nI c0) / 8 * 8)), (3, .int ((nI c0) / 8))]) (st' := [.int ((nI c0) / 8), .int ((nI c0) - (nI c0) / 8 * 8)]) (w' := w) rfl ?_
      refine gd_cS E hA (av := [.int ((nI c0) - (nI c0) / 8 * 8), .int ((nI c0) / 8)]) (rest := []) (c2_at hinj ((nI c0) - (nI c0) / 8 * 8) ((nI c0) / 8) w) (K.1 74 (.invokestatic 15, 0) rfl).1 ml_S_15 cv_S_at ⟨Nat.le_of_ble_eq_true rfl, Nat.le_of_ble_eq_true rfl⟩ ⟨Nat.zero_le _, Nat.zero_le _⟩ rfl (Nat.le_of_ble_eq_true rfl) ?_
      refine gd_r E K 1 (pc' := 81) (lv' := [(0, .int (nI c0)), (1, .int (nI 0)), (2, .int ((nI c0) - (nI c0) / 8 * 8)), (3, .int ((nI c0) / 8))]) (st' := [.int (8 * ((nI c0) / 8) + ((nI c0) - (nI c0) / 8 * 8))]) (w' := w) rfl ?_
      exact gd_iretq E hr hlk (K.1 81 (.ireturn, 0) rfl).1 (by rw [c2_after_0 c0 hc, hg1, if_neg h1]) (rfl)
  · refine gd_r E K 9 (pc' := 11) (lv' := [(0, .int (nI c0)), (1, .int (nI 1)), (2, .int ((nI c0) - (nI c0) / 8 * 8)), (3, .int ((nI c0) / 8))]) (st' := [.int (nI 1)]) (w' := w) rfl ?_
    refine gd_tabIn E dsw_S_after (off := 29) (tgt := 40) (by decide) (by decide) (by decide) (by decide) ?_
    refine gd_r E K 4 (pc' := 66) (lv' := [(0, .int (nI c0)), (1, .int (nI 1)), (2, .int ((nI c0) - (nI c0) / 8 * 8)), (3, .int (((nI c0) / 8) + (-1)))]) (st' := [.int (((nI c0) / 8) + (-1)), .int ((nI c0) - (nI c0) / 8 * 8)]) (w' := w) rfl ?_
    refine gd_cS E hA (av := [.int ((nI c0) - (nI c0) / 8 * 8), .int (((nI c0) / 8) + (-1))]) (rest := []) (c2_has hinj ((nI c0) - (nI c0) / 8 * 8) (((nI c0) / 8) + (-1)) w) (K.1 66 (.invokestatic 9, 0) rfl).1 ml_S_9 cv_S_has ⟨Nat.le_of_ble_eq_true rfl, Nat.le_of_ble_eq_true rfl⟩ ⟨Nat.zero_le _, Nat.zero_le _⟩ rfl (Nat.le_of_ble_eq_true rfl) ?_
    generalize hg1 : gm_has ((nI c0) - (nI c0) / 8 * 8) (((nI c0) / 8) + (-1)) = g1
    refine gd_r E K 1 (pc' := if g1 = 0 then 80 else 72) (lv' := [(0, .int (nI c0)), (1, .int (nI 1)), (2, .int ((nI c0) - (nI c0) / 8 * 8)), (3, .int (((nI c0) / 8) + (-1)))]) (st' := []) (w' := w) rfl ?_
    refine gd_ite (fun h1 => ?_) (fun h1 => ?_)
    · refine gd_r E K 1 (pc' := 81) (lv' := [(0, .int (nI c0)), (1, .int (nI 1)), (2, .int ((nI c0) - (nI c0) / 8 * 8)), (3, .int (((nI c0) / 8) + (-1)))]) (st' := [.int (-1)]) (w' := w) rfl ?_
      exact gd_iretq E hr hlk (K.1 81 (.ireturn, 0) rfl).1 (by rw [c2_after_1 c0 hc, hg1, if_pos h1]) (rfl)
    · refine gd_r E K 2 (pc' := 74) (lv' := [(0, .int (nI c0)), (1, .int (nI 1)), (2, .int ((nI c0) - (nI c0) / 8 * 8)), (3, .int (((nI c0) / 8) + (-1)))]) (st' := [.int (((nI c0) / 8) + (-1)), .int ((nI c0) - (nI c0) / 8 * 8)]) (w' := w) rfl ?_
      refine gd_cS E hA (av := [.int ((nI c0) - (nI c0) / 8 * 8), .int (((nI c0) / 8) + (-1))]) (rest := []) (c2_at hinj ((nI c0) - (nI c0) / 8 * 8) (((nI c0) / 8) + (-1)) w) (K.1 74 (.invokestatic 15, 0) rfl).1 ml_S_15 cv_S_at ⟨Nat.le_of_ble_eq_true rfl, Nat.le_of_ble_eq_true rfl⟩ ⟨Nat.zero_le _, Nat.zero_le _⟩ rfl (Nat.le_of_ble_eq_true rfl) ?_
      refine gd_r E K 1 (pc' := 81) (lv' := [(0, .int (nI c0)), (1, .int (nI 1)), (2, .int ((nI c0) - (nI c0) / 8 * 8)), (3, .int (((nI c0) / 8) + (-1)))]) (st' := [.int (8 * (((nI c0) / 8) + (-1)) + ((nI c0) - (nI c0) / 8 * 8))]) (w' := w) rfl ?_
      exact gd_iretq E hr hlk (K.1 81 (.ireturn, 0) rfl).1 (by rw [c2_after_1 c0 hc, hg1, if_neg h1]) (rfl)
  · refine gd_r E K 9 (pc' := 11) (lv' := [(0, .int (nI c0)), (1, .int (nI 2)), (2, .int ((nI c0) - (nI c0) / 8 * 8)), (3, .int ((nI c0) / 8))]) (st' := [.int (nI 2)]) (w' := w) rfl ?_
    refine gd_tabIn E dsw_S_after (off := 35) (tgt := 46) (by decide) (by decide) (by decide) (by decide) ?_
    refine gd_r E K 4 (pc' := 66) (lv' := [(0, .int (nI c0)), (1, .int (nI 2)), (2, .int (((nI c0) - (nI c0) / 8 * 8) + 1)), (3, .int ((nI c0) / 8))]) (st' := [.int ((nI c0) / 8), .int (((nI c0) - (nI c0) / 8 * 8) + 1)]) (w' := w) rfl ?_
    refine gd_cS E hA (av := [.int (((nI c0) - (nI c0) / 8 * 8) + 1), .int ((nI c0) / 8)]) (rest := []) (c2_has hinj (((nI c0) - (nI c0) / 8 * 8) + 1) ((nI c0) / 8) w) (K.1 66 (.invokestatic 9, 0) rfl).1 ml_S_9 cv_S_has ⟨Nat.le_of_ble_eq_true rfl, Nat.le_of_ble_eq_true rfl⟩ ⟨Nat.zero_le _, Nat.zero_le _⟩ rfl (Nat.le_of_ble_eq_true rfl) ?_
    generalize hg1 : gm_has (((nI c0) - (nI c0) / 8 * 8) + 1) ((nI c0) / 8) = g1
    refine gd_r E K 1 (pc' := if g1 = 0 then 80 else 72) (lv' := [(0, .int (nI c0)), (1, .int (nI 2)), (2, .int (((nI c0) - (nI c0) / 8 * 8) + 1)), (3, .int ((nI c0) / 8))]) (st' := []) (w' := w) rfl ?_
    refine gd_ite (fun h1 => ?_) (fun h1 => ?_)
    · refine gd_r E K 1 (pc' := 81) (lv' := [(0, .int (nI c0)), (1, .int (nI 2)), (2, .int (((nI c0) - (nI c0) / 8 * 8) + 1)), (3, .int ((nI c0) / 8))]) (st' := [.int (-1)]) (w' := w) rfl ?_
      exact gd_iretq E hr hlk (K.1 81 (.ireturn, 0) rfl).1 (by rw [c2_after_2 c0 hc, hg1, if_pos h1]) (rfl)
    · refine gd_r E K 2 (pc' := 74) (lv' := [(0, .int (nI c0)), (1, .int (nI 2)), (2, .int (((nI c0) - (nI c0) / 8 * 8) + 1)), (3, .int ((nI c0) / 8))]) (st' := [.int ((nI c0) / 8), .int (((nI c0) - (nI c0) / 8 * 8) + 1)]) (w' := w) rfl ?_
      refine gd_cS E hA (av := [.int (((nI c0) - (nI c0) / 8 * 8) + 1), .int ((nI c0) / 8)]) (rest := []) (c2_at hinj (((nI c0) - (nI c0) / 8 * 8) + 1) ((nI c0) / 8) w) (K.1 74 (.invokestatic 15, 0) rfl).1 ml_S_15 cv_S_at ⟨Nat.le_of_ble_eq_true rfl, Nat.le_of_ble_eq_true rfl⟩ ⟨Nat.zero_le _, Nat.zero_le _⟩ rfl (Nat.le_of_ble_eq_true rfl) ?_
      refine gd_r E K 1 (pc' := 81) (lv' := [(0, .int (nI c0)), (1, .int (nI 2)), (2, .int (((nI c0) - (nI c0) / 8 * 8) + 1)), (3, .int ((nI c0) / 8))]) (st' := [.int (8 * ((nI c0) / 8) + (((nI c0) - (nI c0) / 8 * 8) + 1))]) (w' := w) rfl ?_
      exact gd_iretq E hr hlk (K.1 81 (.ireturn, 0) rfl).1 (by rw [c2_after_2 c0 hc, hg1, if_neg h1]) (rfl)
  · refine gd_r E K 9 (pc' := 11) (lv' := [(0, .int (nI c0)), (1, .int (nI 3)), (2, .int ((nI c0) - (nI c0) / 8 * 8)), (3, .int ((nI c0) / 8))]) (st' := [.int (nI 3)]) (w' := w) rfl ?_
    refine gd_tabIn E dsw_S_after (off := 41) (tgt := 52) (by decide) (by decide) (by decide) (by decide) ?_
    refine gd_r E K 4 (pc' := 66) (lv' := [(0, .int (nI c0)), (1, .int (nI 3)), (2, .int ((nI c0) - (nI c0) / 8 * 8)), (3, .int (((nI c0) / 8) + 1))]) (st' := [.int (((nI c0) / 8) + 1), .int ((nI c0) - (nI c0) / 8 * 8)]) (w' := w) rfl ?_
    refine gd_cS E hA (av := [.int ((nI c0) - (nI c0) / 8 * 8), .int (((nI c0) / 8) + 1)]) (rest := []) (c2_has hinj ((nI c0) - (nI c0) / 8 * 8) (((nI c0) / 8) + 1) w) (K.1 66 (.invokestatic 9, 0) rfl).1 ml_S_9 cv_S_has ⟨Nat.le_of_ble_eq_true rfl, Nat.le_of_ble_eq_true rfl⟩ ⟨Nat.zero_le _, Nat.zero_le _⟩ rfl (Nat.le_of_ble_eq_true rfl) ?_
    generalize hg1 : gm_has ((nI c0) - (nI c0) / 8 * 8) (((nI c0) / 8) + 1) = g1
    refine gd_r E K 1 (pc' := if g1 = 0 then 80 else 72) (lv' := [(0, .int (nI c0)), (1, .int (nI 3)), (2, .int ((nI c0) - (nI c0) / 8 * 8)), (3, .int (((nI c0) / 8) + 1))]) (st' := []) (w' := w) rfl ?_
    refine gd_ite (fun h1 => ?_) (fun h1 => ?_)
    · refine gd_r E K 1 (pc' := 81) (lv' := [(0, .int (nI c0)), (1, .int (nI 3)), (2, .int ((nI c0) - (nI c0) / 8 * 8)), (3, .int (((nI c0) / 8) + 1))]) (st' := [.int (-1)]) (w' := w) rfl ?_
      exact gd_iretq E hr hlk (K.1 81 (.ireturn, 0) rfl).1 (by rw [c2_after_3 c0 hc, hg1, if_pos h1]) (rfl)
    · refine gd_r E K 2 (pc' := 74) (lv' := [(0, .int (nI c0)), (1, .int (nI 3)), (2, .int ((nI c0) - (nI c0) / 8 * 8)), (3, .int (((nI c0) / 8) + 1))]) (st' := [.int (((nI c0) / 8) + 1), .int ((nI c0) - (nI c0) / 8 * 8)]) (w' := w) rfl ?_
      refine gd_cS E hA (av := [.int ((nI c0) - (nI c0) / 8 * 8), .int (((nI c0) / 8) + 1)]) (rest := []) (c2_at hinj ((nI c0) - (nI c0) / 8 * 8) (((nI c0) / 8) + 1) w) (K.1 74 (.invokestatic 15, 0) rfl).1 ml_S_15 cv_S_at ⟨Nat.le_of_ble_eq_true rfl, Nat.le_of_ble_eq_true rfl⟩ ⟨Nat.zero_le _, Nat.zero_le _⟩ rfl (Nat.le_of_ble_eq_true rfl) ?_
      refine gd_r E K 1 (pc' := 81) (lv' := [(0, .int (nI c0)), (1, .int (nI 3)), (2, .int ((nI c0) - (nI c0) / 8 * 8)), (3, .int (((nI c0) / 8) + 1))]) (st' := [.int (8 * (((nI c0) / 8) + 1) + ((nI c0) - (nI c0) / 8 * 8))]) (w' := w) rfl ?_
      exact gd_iretq E hr hlk (K.1 81 (.ireturn, 0) rfl).1 (by rw [c2_after_3 c0 hc, hg1, if_neg h1]) (rfl)
  · refine gd_r E K 9 (pc' := 11) (lv' := [(0, .int (nI c0)), (1, .int (nI 4)), (2, .int ((nI c0) - (nI c0) / 8 * 8)), (3, .int ((nI c0) / 8))]) (st' := [.int (nI 4)]) (w' := w) rfl ?_
    refine gd_tabIn E dsw_S_after (off := 47) (tgt := 58) (by decide) (by decide) (by decide) (by decide) ?_
    refine gd_r E K 4 (pc' := 66) (lv' := [(0, .int (nI c0)), (1, .int (nI 4)), (2, .int (((nI c0) - (nI c0) / 8 * 8) + (-1))), (3, .int ((nI c0) / 8))]) (st' := [.int ((nI c0) / 8), .int (((nI c0) - (nI c0) / 8 * 8) + (-1))]) (w' := w) rfl ?_
    refine gd_cS E hA (av := [.int (((nI c0) - (nI c0) / 8 * 8) + (-1)), .int ((nI c0) / 8)]) (rest := []) (c2_has hinj (((nI c0) - (nI c0) / 8 * 8) + (-1)) ((nI c0) / 8) w) (K.1 66 (.invokestatic 9, 0) rfl).1 ml_S_9 cv_S_has ⟨Nat.le_of_ble_eq_true rfl, Nat.le_of_ble_eq_true rfl⟩ ⟨Nat.zero_le _, Nat.zero_le _⟩ rfl (Nat.le_of_ble_eq_true rfl) ?_
    generalize hg1 : gm_has (((nI c0) - (nI c0) / 8 * 8) + (-1)) ((nI c0) / 8) = g1
    refine gd_r E K 1 (pc' := if g1 = 0 then 80 else 72) (lv' := [(0, .int (nI c0)), (1, .int (nI 4)), (2, .int (((nI c0) - (nI c0) / 8 * 8) + (-1))), (3, .int ((nI c0) / 8))]) (st' := []) (w' := w) rfl ?_
    refine gd_ite (fun h1 => ?_) (fun h1 => ?_)
    · refine gd_r E K 1 (pc' := 81) (lv' := [(0, .int (nI c0)), (1, .int (nI 4)), (2, .int (((nI c0) - (nI c0) / 8 * 8) + (-1))), (3, .int ((nI c0) / 8))]) (st' := [.int (-1)]) (w' := w) rfl ?_
      exact gd_iretq E hr hlk (K.1 81 (.ireturn, 0) rfl).1 (by rw [c2_after_4 c0 hc, hg1, if_pos h1]) (rfl)
    · refine gd_r E K 2 (pc' := 74) (lv' := [(0, .int (nI c0)), (1, .int (nI 4)), (2, .int (((nI c0) - (nI c0) / 8 * 8) + (-1))), (3, .int ((nI c0) / 8))]) (st' := [.int ((nI c0) / 8), .int (((nI c0) - (nI c0) / 8 * 8) + (-1))]) (w' := w) rfl ?_
      refine gd_cS E hA (av := [.int (((nI c0) - (nI c0) / 8 * 8) + (-1)), .int ((nI c0) / 8)]) (rest := []) (c2_at hinj (((nI c0) - (nI c0) / 8 * 8) + (-1)) ((nI c0) / 8) w) (K.1 74 (.invokestatic 15, 0) rfl).1 ml_S_15 cv_S_at ⟨Nat.le_of_ble_eq_true rfl, Nat.le_of_ble_eq_true rfl⟩ ⟨Nat.zero_le _, Nat.zero_le _⟩ rfl (Nat.le_of_ble_eq_true rfl) ?_
      refine gd_r E K 1 (pc' := 81) (lv' := [(0, .int (nI c0)), (1, .int (nI 4)), (2, .int (((nI c0) - (nI c0) / 8 * 8) + (-1))), (3, .int ((nI c0) / 8))]) (st' := [.int (8 * ((nI c0) / 8) + (((nI c0) - (nI c0) / 8 * 8) + (-1)))]) (w' := w) rfl ?_
      exact gd_iretq E hr hlk (K.1 81 (.ireturn, 0) rfl).1 (by rw [c2_after_4 c0 hc, hg1, if_neg h1]) (rfl)
theorem c2_moved_0 : ∀ c0, c0 < 64 → gm_nO (gm_mv c0 0) = if gm_has (((nI c0) - (nI c0) / 8 * 8) + 0) (((nI c0) / 8) + 0) = 0 then -1 else 8 * (((nI c0) / 8) + 0) + (((nI c0) - (nI c0) / 8 * 8) + 0) := by decide +kernel
theorem c2_moved_1 : ∀ c0, c0 < 64 → gm_nO (gm_mv c0 1) = if gm_has (((nI c0) - (nI c0) / 8 * 8) + 0) (((nI c0) / 8) + (-1)) = 0 then -1 else 8 * (((nI c0) / 8) + (-1)) + (((nI c0) - (nI c0) / 8 * 8) + 0) := by decide +kernel
theorem c2_moved_2 : ∀ c0, c0 < 64 → gm_nO (gm_mv c0 2) = if gm_has (((nI c0) - (nI c0) / 8 * 8) + 1) (((nI c0) / 8) + 0) = 0 then -1 else 8 * (((nI c0) / 8) + 0) + (((nI c0) - (nI c0) / 8 * 8) + 1) := by decide +kernel
theorem c2_moved_3 : ∀ c0, c0 < 64 → gm_nO (gm_mv c0 3) = if gm_has (((nI c0) - (nI c0) / 8 * 8) + 0) (((nI c0) / 8) + 1) = 0 then -1 else 8 * (((nI c0) / 8) + 1) + (((nI c0) - (nI c0) / 8 * 8) + 0) := by decide +kernel
theorem c2_moved_4 : ∀ c0, c0 < 64 → gm_nO (gm_mv c0 4) = if gm_has (((nI c0) - (nI c0) / 8 * 8) + (-1)) (((nI c0) / 8) + 0) = 0 then -1 else 8 * (((nI c0) / 8) + 0) + (((nI c0) - (nI c0) / 8 * 8) + (-1)) := by decide +kernel
set_option maxRecDepth 100000 in
theorem c2_moved {l : Launch} {D : va_G} {tC : FieldType → ClassId} {ad : Nat → Nat} (hinj : ∀ i j, ad i = ad j → i = j) (c0 k : Nat) (hc : c0 < 64) (hk : k < 5) (w : gd_W) : gd_Ct l D tC ad 45 1 21 y_M_moved c_M_moved 4 (some .int) [.int (nI c0), .int (nI k)] w (some (.int (gm_nO (gm_mv c0 k)))) w := by
  refine gd_Ct_of rfl hinj (Nat.le_of_ble_eq_true rfl) ?_
  intro p e s m args below meth c E hr hlk
  have K := k_M_moved
  have hA : ∀ q, gd_A ad 45 s.heap.size q → gd_A ad 45 s.heap.size q := fun _ h => h
  rcases (by omega : k = 0 ∨ k = 1 ∨ k = 2 ∨ k = 3 ∨ k = 4) with rfl | rfl | rfl | rfl | rfl
  · refine gd_r E K 26 (pc' := 52) (lv' := [(0, .int (nI c0)), (1, .int (nI 0)), (2, .int (((nI c0) - (nI c0) / 8 * 8) + 0)), (3, .int (((nI c0) / 8) + 0))]) (st' := [.int (((nI c0) / 8) + 0), .int (((nI c0) - (nI c0) / 8 * 8) + 0)]) (w' := w) rfl ?_
    refine gd_cS E hA (av := [.int (((nI c0) - (nI c0) / 8 * 8) + 0), .int (((nI c0) / 8) + 0)]) (rest := []) (c2_isCell hinj (((nI c0) - (nI c0) / 8 * 8) + 0) (((nI c0) / 8) + 0) w) (K.1 52 (.invokestatic 64, 0) rfl).1 ml_M_64 cv_M_isCell ⟨Nat.le_of_ble_eq_true rfl, Nat.le_of_ble_eq_true rfl⟩ ⟨Nat.zero_le _, Nat.zero_le _⟩ rfl (Nat.le_of_ble_eq_true rfl) ?_
    generalize hg1 : gm_has (((nI c0) - (nI c0) / 8 * 8) + 0) (((nI c0) / 8) + 0) = g1
    refine gd_r E K 1 (pc' := if g1 = 0 then 67 else 58) (lv' := [(0, .int (nI c0)), (1, .int (nI 0)), (2, .int (((nI c0) - (nI c0) / 8 * 8) + 0)), (3, .int (((nI c0) / 8) + 0))]) (st' := []) (w' := w) rfl ?_
    refine gd_ite (fun h1 => ?_) (fun h1 => ?_)
    · refine gd_r E K 1 (pc' := 68) (lv' := [(0, .int (nI c0)), (1, .int (nI 0)), (2, .int (((nI c0) - (nI c0) / 8 * 8) + 0)), (3, .int (((nI c0) / 8) + 0))]) (st' := [.int (-1)]) (w' := w) rfl ?_
      exact gd_iretq E hr hlk (K.1 68 (.ireturn, 0) rfl).1 (by rw [c2_moved_0 c0 hc, hg1, if_pos h1]) (rfl)
    · refine gd_r E K 6 (pc' := 68) (lv' := [(0, .int (nI c0)), (1, .int (nI 0)), (2, .int (((nI c0) - (nI c0) / 8 * 8) + 0)), (3, .int (((nI c0) / 8) + 0))]) (st' := [.int ((8 * (((nI c0) / 8) + 0)) + (((nI c0) - (nI c0) / 8 * 8) + 0))]) (w' := w) rfl ?_
      exact gd_iretq E hr hlk (K.1 68 (.ireturn, 0) rfl).1 (by rw [c2_moved_0 c0 hc, hg1, if_neg h1]) (rfl)
  · refine gd_r E K 27 (pc' := 52) (lv' := [(0, .int (nI c0)), (1, .int (nI 1)), (2, .int (((nI c0) - (nI c0) / 8 * 8) + 0)), (3, .int (((nI c0) / 8) + (-1)))]) (st' := [.int (((nI c0) / 8) + (-1)), .int (((nI c0) - (nI c0) / 8 * 8) + 0)]) (w' := w) rfl ?_
    refine gd_cS E hA (av := [.int (((nI c0) - (nI c0) / 8 * 8) + 0), .int (((nI c0) / 8) + (-1))]) (rest := []) (c2_isCell hinj (((nI c0) - (nI c0) / 8 * 8) + 0) (((nI c0) / 8) + (-1)) w) (K.1 52 (.invokestatic 64, 0) rfl).1 ml_M_64 cv_M_isCell ⟨Nat.le_of_ble_eq_true rfl, Nat.le_of_ble_eq_true rfl⟩ ⟨Nat.zero_le _, Nat.zero_le _⟩ rfl (Nat.le_of_ble_eq_true rfl) ?_
    generalize hg1 : gm_has (((nI c0) - (nI c0) / 8 * 8) + 0) (((nI c0) / 8) + (-1)) = g1
    refine gd_r E K 1 (pc' := if g1 = 0 then 67 else 58) (lv' := [(0, .int (nI c0)), (1, .int (nI 1)), (2, .int (((nI c0) - (nI c0) / 8 * 8) + 0)), (3, .int (((nI c0) / 8) + (-1)))]) (st' := []) (w' := w) rfl ?_
    refine gd_ite (fun h1 => ?_) (fun h1 => ?_)
    · refine gd_r E K 1 (pc' := 68) (lv' := [(0, .int (nI c0)), (1, .int (nI 1)), (2, .int (((nI c0) - (nI c0) / 8 * 8) + 0)), (3, .int (((nI c0) / 8) + (-1)))]) (st' := [.int (-1)]) (w' := w) rfl ?_
      exact gd_iretq E hr hlk (K.1 68 (.ireturn, 0) rfl).1 (by rw [c2_moved_1 c0 hc, hg1, if_pos h1]) (rfl)
    · refine gd_r E K 6 (pc' := 68) (lv' := [(0, .int (nI c0)), (1, .int (nI 1)), (2, .int (((nI c0) - (nI c0) / 8 * 8) + 0)), (3, .int (((nI c0) / 8) + (-1)))]) (st' := [.int ((8 * (((nI c0) / 8) + (-1))) + (((nI c0) - (nI c0) / 8 * 8) + 0))]) (w' := w) rfl ?_
      exact gd_iretq E hr hlk (K.1 68 (.ireturn, 0) rfl).1 (by rw [c2_moved_1 c0 hc, hg1, if_neg h1]) (rfl)
  · refine gd_r E K 24 (pc' := 52) (lv' := [(0, .int (nI c0)), (1, .int (nI 2)), (2, .int (((nI c0) - (nI c0) / 8 * 8) + 1)), (3, .int (((nI c0) / 8) + 0))]) (st' := [.int (((nI c0) / 8) + 0), .int (((nI c0) - (nI c0) / 8 * 8) + 1)]) (w' := w) rfl ?_
    refine gd_cS E hA (av := [.int (((nI c0) - (nI c0) / 8 * 8) + 1), .int (((nI c0) / 8) + 0)]) (rest := []) (c2_isCell hinj (((nI c0) - (nI c0) / 8 * 8) + 1) (((nI c0) / 8) + 0) w) (K.1 52 (.invokestatic 64, 0) rfl).1 ml_M_64 cv_M_isCell ⟨Nat.le_of_ble_eq_true rfl, Nat.le_of_ble_eq_true rfl⟩ ⟨Nat.zero_le _, Nat.zero_le _⟩ rfl (Nat.le_of_ble_eq_true rfl) ?_
    generalize hg1 : gm_has (((nI c0) - (nI c0) / 8 * 8) + 1) (((nI c0) / 8) + 0) = g1
    refine gd_r E K 1 (pc' := if g1 = 0 then 67 else 58) (lv' := [(0, .int (nI c0)), (1, .int (nI 2)), (2, .int (((nI c0) - (nI c0) / 8 * 8) + 1)), (3, .int (((nI c0) / 8) + 0))]) (st' := []) (w' := w) rfl ?_
    refine gd_ite (fun h1 => ?_) (fun h1 => ?_)
    · refine gd_r E K 1 (pc' := 68) (lv' := [(0, .int (nI c0)), (1, .int (nI 2)), (2, .int (((nI c0) - (nI c0) / 8 * 8) + 1)), (3, .int (((nI c0) / 8) + 0))]) (st' := [.int (-1)]) (w' := w) rfl ?_
      exact gd_iretq E hr hlk (K.1 68 (.ireturn, 0) rfl).1 (by rw [c2_moved_2 c0 hc, hg1, if_pos h1]) (rfl)
    · refine gd_r E K 6 (pc' := 68) (lv' := [(0, .int (nI c0)), (1, .int (nI 2)), (2, .int (((nI c0) - (nI c0) / 8 * 8) + 1)), (3, .int (((nI c0) / 8) + 0))]) (st' := [.int ((8 * (((nI c0) / 8) + 0)) + (((nI c0) - (nI c0) / 8 * 8) + 1))]) (w' := w) rfl ?_
      exact gd_iretq E hr hlk (K.1 68 (.ireturn, 0) rfl).1 (by rw [c2_moved_2 c0 hc, hg1, if_neg h1]) (rfl)
  · refine gd_r E K 24 (pc' := 52) (lv' := [(0, .int (nI c0)), (1, .int (nI 3)), (2, .int (((nI c0) - (nI c0) / 8 * 8) + 0)), (3, .int (((nI c0) / 8) + 1))]) (st' := [.int (((nI c0) / 8) + 1), .int (((nI c0) - (nI c0) / 8 * 8) + 0)]) (w' := w) rfl ?_
    refine gd_cS E hA (av := [.int (((nI c0) - (nI c0) / 8 * 8) + 0), .int (((nI c0) / 8) + 1)]) (rest := []) (c2_isCell hinj (((nI c0) - (nI c0) / 8 * 8) + 0) (((nI c0) / 8) + 1) w) (K.1 52 (.invokestatic 64, 0) rfl).1 ml_M_64 cv_M_isCell ⟨Nat.le_of_ble_eq_true rfl, Nat.le_of_ble_eq_true rfl⟩ ⟨Nat.zero_le _, Nat.zero_le _⟩ rfl (Nat.le_of_ble_eq_true rfl) ?_
    generalize hg1 : gm_has (((nI c0) - (nI c0) / 8 * 8) + 0) (((nI c0) / 8) + 1) = g1
    refine gd_r E K 1 (pc' := if g1 = 0 then 67 else 58) (lv' := [(0, .int (nI c0)), (1, .int (nI 3)), (2, .int (((nI c0) - (nI c0) / 8 * 8) + 0)), (3, .int (((nI c0) / 8) + 1))]) (st' := []) (w' := w) rfl ?_
    refine gd_ite (fun h1 => ?_) (fun h1 => ?_)
    · refine gd_r E K 1 (pc' := 68) (lv' := [(0, .int (nI c0)), (1, .int (nI 3)), (2, .int (((nI c0) - (nI c0) / 8 * 8) + 0)), (3, .int (((nI c0) / 8) + 1))]) (st' := [.int (-1)]) (w' := w) rfl ?_
      exact gd_iretq E hr hlk (K.1 68 (.ireturn, 0) rfl).1 (by rw [c2_moved_3 c0 hc, hg1, if_pos h1]) (rfl)
    · refine gd_r E K 6 (pc' := 68) (lv' := [(0, .int (nI c0)), (1, .int (nI 3)), (2, .int (((nI c0) - (nI c0) / 8 * 8) + 0)), (3, .int (((nI c0) / 8) + 1))]) (st' := [.int ((8 * (((nI c0) / 8) + 1)) + (((nI c0) - (nI c0) / 8 * 8) + 0))]) (w' := w) rfl ?_
      exact gd_iretq E hr hlk (K.1 68 (.ireturn, 0) rfl).1 (by rw [c2_moved_3 c0 hc, hg1, if_neg h1]) (rfl)
  · refine gd_r E K 27 (pc' := 52) (lv' := [(0, .int (nI c0)), (1, .int (nI 4)), (2, .int (((nI c0) - (nI c0) / 8 * 8) + (-1))), (3, .int (((nI c0) / 8) + 0))]) (st' := [.int (((nI c0) / 8) + 0), .int (((nI c0) - (nI c0) / 8 * 8) + (-1))]) (w' := w) rfl ?_
    refine gd_cS E hA (av := [.int (((nI c0) - (nI c0) / 8 * 8) + (-1)), .int (((nI c0) / 8) + 0)]) (rest := []) (c2_isCell hinj (((nI c0) - (nI c0) / 8 * 8) + (-1)) (((nI c0) / 8) + 0) w) (K.1 52 (.invokestatic 64, 0) rfl).1 ml_M_64 cv_M_isCell ⟨Nat.le_of_ble_eq_true rfl, Nat.le_of_ble_eq_true rfl⟩ ⟨Nat.zero_le _, Nat.zero_le _⟩ rfl (Nat.le_of_ble_eq_true rfl) ?_
    generalize hg1 : gm_has (((nI c0) - (nI c0) / 8 * 8) + (-1)) (((nI c0) / 8) + 0) = g1
    refine gd_r E K 1 (pc' := if g1 = 0 then 67 else 58) (lv' := [(0, .int (nI c0)), (1, .int (nI 4)), (2, .int (((nI c0) - (nI c0) / 8 * 8) + (-1))), (3, .int (((nI c0) / 8) + 0))]) (st' := []) (w' := w) rfl ?_
    refine gd_ite (fun h1 => ?_) (fun h1 => ?_)
    · refine gd_r E K 1 (pc' := 68) (lv' := [(0, .int (nI c0)), (1, .int (nI 4)), (2, .int (((nI c0) - (nI c0) / 8 * 8) + (-1))), (3, .int (((nI c0) / 8) + 0))]) (st' := [.int (-1)]) (w' := w) rfl ?_
      exact gd_iretq E hr hlk (K.1 68 (.ireturn, 0) rfl).1 (by rw [c2_moved_4 c0 hc, hg1, if_pos h1]) (rfl)
    · refine gd_r E K 6 (pc' := 68) (lv' := [(0, .int (nI c0)), (1, .int (nI 4)), (2, .int (((nI c0) - (nI c0) / 8 * 8) + (-1))), (3, .int (((nI c0) / 8) + 0))]) (st' := [.int ((8 * (((nI c0) / 8) + 0)) + (((nI c0) - (nI c0) / 8 * 8) + (-1)))]) (w' := w) rfl ?_
      exact gd_iretq E hr hlk (K.1 68 (.ireturn, 0) rfl).1 (by rw [c2_moved_4 c0 hc, hg1, if_neg h1]) (rfl)
end
section
def gs_b (b : Bool) : Int32 := if b then 1 else 0
theorem gs_b_01 (b : Bool) : gs_b b = 0 ∨ gs_b b = 1 := by cases b; exact Or.inl rfl; exact Or.inr rfl
theorem gs_b_0 (b : Bool) : gs_b b = 0 ↔ b = false := by cases b <;> decide
theorem gd_le0 {n : Nat} (hn : n < 2 ^ 31) : nI n ≤ 0 ↔ n = 0 := by
  constructor
  · intro h
    cases n with
    | zero => rfl
    | succ k => exact absurd h (nI_nle (Nat.succ_pos k) hn)
  · rintro rfl
    decide
def gs_cnt (U : Nat → Nat) : Nat → Nat
  | 0 => 0
  | n + 1 => if 0 < U n then gs_cnt U n + 1 else gs_cnt U n
theorem gs_cnt_le (U : Nat → Nat) : ∀ n, gs_cnt U n ≤ n
  | 0 => Nat.le_refl _
  | n + 1 => by
    have := gs_cnt_le U n
    rw [gs_cnt]
    split <;> omega
/-- the comer of d among the first n: the last k with units whose into is d + 1 -/
def gs_com (U I : Nat → Nat) (d : Nat) : Nat → Option Nat
  | 0 => none
  | n + 1 => if 0 < U n ∧ I n = d + 1 then some n else gs_com U I d n
def gs_any (f : Nat → Bool) : Nat → Bool
  | 0 => false
  | n + 1 => gs_any f n || f n
/-- the droplets' number and units, as the reference has them -/
def gs_UU (w : gd_W) (N : Nat) (U : Nat → Nat) : Prop := w.1 27 3 = nI N ∧ N ≤ 60 ∧ ∀ d, d < N → w.1 29 d = nI (U d) ∧ U d ≤ 2
set_option maxRecDepth 100000 in
theorem c2_count {l : Launch} {D : va_G} {tC : FieldType → ClassId} {ad : Nat → Nat} (hinj : ∀ i j, ad i = ad j → i = j) {N : Nat} {U : Nat → Nat} (w : gd_W) (hU : gs_UU w N U) : gd_Ct l D tC ad 45 0 0 y_M_count c_M_count 3 (some .int) [.ref 27] w (some (.int (nI (gs_cnt U N)))) w := by
  refine gd_Ct_of rfl hinj (Nat.le_of_ble_eq_true rfl) ?_
  intro p e s m args below meth c E hr hlk
  have K := k_M_count
  have hA : ∀ q, gd_A ad 45 s.heap.size q → gd_A ad 45 s.heap.size q := fun _ h => h
  obtain ⟨hm, hN, hu⟩ := hU
  have loop : ∀ j d, d + j = N → gd_G p l e (gd_rm 0 0) s m args below meth c D tC ad (gd_A ad 45 s.heap.size) 45 3 0 0 (MQ below (gd_Q D tC ad 45 s.heap.size (some (.int (nI (gs_cnt U N)))) w) args s 0 0 (gd_A ad 45 s.heap.size)) 4 [(0, .ref 27), (1, .int (nI (gs_cnt U d))), (2, .int (nI d))] [] w := by
    intro j
    induction j with
    | zero =>
      intro d hd
      refine gd_r E K 3 (pc' := 9) (lv' := [(0, .ref 27), (1, .int (nI (gs_cnt U d))), (2, .int (nI d))]) (st' := [.int (w.1 27 3), .int (nI d)]) (w' := w) rfl ?_
      refine gd_cg (lv' := [(0, .ref 27), (1, .int (nI (gs_cnt U d))), (2, .int (nI d))]) (st' := [.int (nI N), .int (nI d)]) (w' := w) ?_ (rfl) (by simp only [hm]) rfl
      refine gd_r E K 1 (pc' := if (nI N) ≤ (nI d) then 35 else 12) (lv' := [(0, .ref 27), (1, .int (nI (gs_cnt U d))), (2, .int (nI d))]) (st' := []) (w' := w) rfl ?_
      refine gd_it (nI_le (by omega) (by omega)) ?_
      refine gd_r E K 1 (pc' := 36) (lv' := [(0, .ref 27), (1, .int (nI (gs_cnt U d))), (2, .int (nI d))]) (st' := [.int (nI (gs_cnt U d))]) (w' := w) rfl ?_
      exact gd_iretq E hr hlk (K.1 36 (.ireturn, 0) rfl).1 (by rw [show d = N by omega]) (rfl)
    | succ j ih =>
      intro d hd
      refine gd_r E K 3 (pc' := 9) (lv' := [(0, .ref 27), (1, .int (nI (gs_cnt U d))), (2, .int (nI d))]) (st' := [.int (w.1 27 3), .int (nI d)]) (w' := w) rfl ?_
      refine gd_cg (lv' := [(0, .ref 27), (1, .int (nI (gs_cnt U d))), (2, .int (nI d))]) (st' := [.int (nI N), .int (nI d)]) (w' := w) ?_ (rfl) (by simp only [hm]) rfl
      refine gd_r E K 1 (pc' := if (nI N) ≤ (nI d) then 35 else 12) (lv' := [(0, .ref 27), (1, .int (nI (gs_cnt U d))), (2, .int (nI d))]) (st' := []) (w' := w) rfl ?_
      refine gd_if (nI_ge (by omega) (by omega)) ?_
      refine gd_r E K 3 (pc' := 17) (lv' := [(0, .ref 27), (1, .int (nI (gs_cnt U d))), (2, .int (nI d))]) (st' := [.int (nI d), .ref 29]) (w' := w) rfl ?_
      refine gd_ialdv E (K.1 17 (.iaload, 0) rfl).1 (j := d) (by decide) (rfl) (rfl) (by omega) (by decide) (v := nI (U d)) ((hu d (by omega)).1) ?_
      have hu2 := (hu d (by omega)).2
      rcases Nat.eq_zero_or_pos (U d) with h0 | h0
      · refine gd_r E K 1 (pc' := if (nI (U d)) ≤ 0 then 27 else 21) (lv' := [(0, .ref 27), (1, .int (nI (gs_cnt U d))), (2, .int (nI d))]) (st' := []) (w' := w) rfl ?_
        refine gd_it ((gd_le0 (by omega)).mpr h0) ?_
        refine gd_r E K 4 (pc' := 4) (lv' := [(0, .ref 27), (1, .int (nI (gs_cnt U d))), (2, .int ((nI d) + 1))]) (st' := []) (w' := w) rfl ?_
        exact gd_cg (ih (d + 1) (by omega)) (by simp only [gs_cnt, if_neg (show ¬ 0 < U d by omega), nI_1]) rfl rfl
      · refine gd_r E K 1 (pc' := if (nI (U d)) ≤ 0 then 27 else 21) (lv' := [(0, .ref 27), (1, .int (nI (gs_cnt U d))), (2, .int (nI d))]) (st' := []) (w' := w) rfl ?_
        refine gd_if (fun q => absurd ((gd_le0 (by omega)).mp q) (by omega)) ?_
        refine gd_r E K 7 (pc' := 4) (lv' := [(0, .ref 27), (1, .int ((nI (gs_cnt U d)) + 1)), (2, .int ((nI d) + 1))]) (st' := []) (w' := w) rfl ?_
        exact gd_cg (ih (d + 1) (by omega)) (by simp only [gs_cnt, if_pos h0, nI_1]) rfl rfl
  refine gd_r E K 4 (pc' := 4) (lv' := [(0, .ref 27), (1, .int 0), (2, .int 0)]) (st' := []) (w' := w) rfl ?_
  exact gd_cg (loop N 0 (by omega)) rfl rfl rfl
set_option maxRecDepth 100000 in
theorem c2_isDrop {l : Launch} {D : va_G} {tC : FieldType → ClassId} {ad : Nat → Nat} (hinj : ∀ i j, ad i = ad j → i = j) {N : Nat} {U : Nat → Nat} (w : gd_W) (hU : gs_UU w N U) (d : Int32) : gd_Ct l D tC ad 45 0 0 y_M_isDrop c_M_isDrop 2 (some .boolean) [.ref 27, .int d] w (some (.int (gs_b (decide (0 ≤ d ∧ d < nI N ∧ 0 < U d.toNatClampNeg))))) w := by
  refine gd_Ct_of rfl hinj (Nat.le_of_ble_eq_true rfl) ?_
  intro p e s m args below meth c E hr hlk
  have K := k_M_isDrop
  have hA : ∀ q, gd_A ad 45 s.heap.size q → gd_A ad 45 s.heap.size q := fun _ h => h
  obtain ⟨hm, hN, hu⟩ := hU
  refine gd_r E K 1 (pc' := 1) (lv' := [(0, .ref 27), (1, .int d)]) (st' := [.int d]) (w' := w) rfl ?_
  refine gd_r E K 1 (pc' := if d < 0 then 25 else 4) (lv' := [(0, .ref 27), (1, .int d)]) (st' := []) (w' := w) rfl ?_
  refine gd_ite (fun h1 => ?_) (fun h1 => ?_)
  · refine gd_r E K 1 (pc' := 26) (lv' := [(0, .ref 27), (1, .int d)]) (st' := [.int 0]) (w' := w) rfl ?_
    exact gd_zretq E hr hlk (K.1 26 (.ireturn, 0) rfl).1 (by decide) (by rw [decide_eq_false (fun h => absurd h1 (Int32.not_lt.mpr h.1))]; rfl) (rfl)
  · refine gd_r E K 3 (pc' := 9) (lv' := [(0, .ref 27), (1, .int d)]) (st' := [.int (w.1 27 3), .int d]) (w' := w) rfl ?_
    refine gd_cg (lv' := [(0, .ref 27), (1, .int d)]) (st' := [.int (nI N), .int d]) (w' := w) ?_ (rfl) (by simp only [hm]) rfl
    refine gd_r E K 1 (pc' := if (nI N) ≤ d then 25 else 12) (lv' := [(0, .ref 27), (1, .int d)]) (st' := []) (w' := w) rfl ?_
    refine gd_ite (fun h2 => ?_) (fun h2 => ?_)
    · refine gd_r E K 1 (pc' := 26) (lv' := [(0, .ref 27), (1, .int d)]) (st' := [.int 0]) (w' := w) rfl ?_
      exact gd_zretq E hr hlk (K.1 26 (.ireturn, 0) rfl).1 (by decide) (by rw [decide_eq_false (fun h => absurd h.2.1 (Int32.not_lt.mpr h2))]; rfl) (rfl)
    · obtain ⟨k, hk, rfl⟩ := nI_of h1
      have hkN : k < N := by rw [nI_leI (by omega) hk] at h2; omega
      rw [nI_clamp hk]
      have hu2 := (hu k hkN).2
      refine gd_r E K 3 (pc' := 17) (lv' := [(0, .ref 27), (1, .int (nI k))]) (st' := [.int (nI k), .ref 29]) (w' := w) rfl ?_
      refine gd_ialdv E (K.1 17 (.iaload, 0) rfl).1 (j := k) (by decide) (rfl) (rfl) (by omega) (by decide) (v := nI (U k)) ((hu k hkN).1) ?_
      rcases Nat.eq_zero_or_pos (U k) with h0 | h0
      · refine gd_r E K 1 (pc' := if (nI (U k)) ≤ 0 then 25 else 21) (lv' := [(0, .ref 27), (1, .int (nI k))]) (st' := []) (w' := w) rfl ?_
        refine gd_it ((gd_le0 (by omega)).mpr h0) ?_
        refine gd_r E K 1 (pc' := 26) (lv' := [(0, .ref 27), (1, .int (nI k))]) (st' := [.int 0]) (w' := w) rfl ?_
        exact gd_zretq E hr hlk (K.1 26 (.ireturn, 0) rfl).1 (by decide) (by rw [decide_eq_false (fun h => absurd h.2.2 (by omega))]; rfl) (rfl)
      · refine gd_r E K 1 (pc' := if (nI (U k)) ≤ 0 then 25 else 21) (lv' := [(0, .ref 27), (1, .int (nI k))]) (st' := []) (w' := w) rfl ?_
        refine gd_if (fun q => absurd ((gd_le0 (by omega)).mp q) (by omega)) ?_
        refine gd_r E K 2 (pc' := 26) (lv' := [(0, .ref 27), (1, .int (nI k))]) (st' := [.int 1]) (w' := w) rfl ?_
        exact gd_zretq E hr hlk (K.1 26 (.ireturn, 0) rfl).1 (by decide) (by rw [decide_eq_true ⟨nI_pos' (by omega), nI_lt hkN (by omega), h0⟩]; rfl) (rfl)
end
section
theorem gd_lt0 {n : Nat} (hn : n < 2 ^ 31) : ¬ nI n < 0 := nI_pos hn
theorem gm_nO_neg : gm_nO none < 0 := by decide
theorem gm_nO_some {a : Nat} (h : a < 2 ^ 31) : ¬ gm_nO (some a) < 0 := nI_pos h
/-- what the reference's arrays hold -/
def gr_M (w : gd_W) (s : gs_T) (G : Nat → Nat) : Prop :=
  (w.1 27 3 = nI (gs_made s) ∧ gs_made s ≤ 60) ∧ (∀ d, d < 60 → w.1 29 d = nI (gs_u s d) ∧ gs_u s d ≤ 2) ∧ (∀ d, d < 60 → w.1 30 d = nI (gs_c s d) ∧ gs_c s d < 64) ∧
  (∀ d, d < 60 → w.1 34 d = nI (G d + gs_l s d) ∧ w.1 35 d = nI (G d) ∧ G d + gs_l s d ≤ 60) ∧ (∀ d, d < 60 → ∀ k, k < gs_l s d → w.1 33 (60 * d + G d + k) = nI (gs_m s d k) ∧ gs_m s d k < 5) ∧
  (∀ d, d < 60 → w.1 36 d = nI (gs_i s d) ∧ gs_i s d ≤ 60) ∧ (∀ c, c < 64 → w.1 28 c = nI (gs_k s c) ∧ gs_k s c < 8) ∧
  (∀ d, d < 60 → ∀ k, k < 4 → w.2.1 31 (4 * d + k) = gs_sh s d k) ∧ (∀ d, d < 60 → w.1 32 d = nI (gs_p s d) ∧ gs_p s d ≤ 60) ∧
  w.1 27 1 = gs_time s ∧ (w.1 27 12 = nI (gs_out s) ∧ gs_out s ≤ 60) ∧ (w.1 27 13 = nI (gs_thr s) ∧ gs_thr s ≤ 60) ∧ (w.1 27 14 = nI (gs_rd s).length ∧ (gs_rd s).length ≤ 50) ∧
  ∀ j r, (gs_rd s)[j]? = some r → w.1 37 j = nI r.1 ∧ w.1 38 j = r.2.1 ∧ w.1 39 j = nI r.2.2.1 ∧ w.1 40 j = nI r.2.2.2
theorem gr_M.U {w : gd_W} {s : gs_T} {G : Nat → Nat} (h : gr_M w s G) : gs_UU w (gs_made s) (gs_u s) := ⟨h.1.1, h.1.2, fun d hd => h.2.1 d (by have := h.1.2; omega)⟩
theorem gr_M.J {w : gd_W} {s : gs_T} {G : Nat → Nat} (h : gr_M w s G) : ∀ k, k < gs_made s → w.1 36 k = nI (gs_i s k) ∧ gs_i s k ≤ 60 := fun k hk => h.2.2.2.2.2.1 k (by have := h.1.2; omega)
/-- every way stays on the grid -/
def gv_way (s : gs_T) (d : Nat) : Prop := ∀ k, k ≤ gs_l s d → ∃ x, x < 64 ∧ gs_wk (gs_c s d) (gs_m s d) k = some x
set_option maxRecDepth 100000 in
theorem c2_comer {l : Launch} {D : va_G} {tC : FieldType → ClassId} {ad : Nat → Nat} (hinj : ∀ i j, ad i = ad j → i = j) {N : Nat} {U J : Nat → Nat} (w : gd_W) (hU : gs_UU w N U) (hJ : ∀ k, k < N → w.1 36 k = nI (J k) ∧ J k ≤ 60) (d : Nat) (hd : d < 60) : gd_Ct l D tC ad 45 0 0 y_M_comer c_M_comer 4 (some .int) [.ref 27, .int (nI d)] w (some (.int (gm_nO (gs_com U J d N)))) w := by
  refine gd_Ct_of rfl hinj (Nat.le_of_ble_eq_true rfl) ?_
  intro p e s m args below meth c E hr hlk
  have K := k_M_comer
  have hA : ∀ q, gd_A ad 45 s.heap.size q → gd_A ad 45 s.heap.size q := fun _ h => h
  obtain ⟨hm, hN, hu⟩ := hU
  have loop : ∀ j k, k + j = N → gd_G p l e (gd_rm 0 0) s m args below meth c D tC ad (gd_A ad 45 s.heap.size) 45 4 0 0 (MQ below (gd_Q D tC ad 45 s.heap.size (some (.int (gm_nO (gs_com U J d N)))) w) args s 0 0 (gd_A ad 45 s.heap.size)) 4 [(0, .ref 27), (1, .int (nI d)), (2, .int (gm_nO (gs_com U J d k))), (3, .int (nI k))] [] w := by
    intro j
    induction j with
    | zero =>
      intro k hk
      refine gd_r E K 3 (pc' := 9) (lv' := [(0, .ref 27), (1, .int (nI d)), (2, .int (gm_nO (gs_com U J d k))), (3, .int (nI k))]) (st' := [.int (w.1 27 3), .int (nI k)]) (w' := w) rfl ?_
      refine gd_cg (lv' := [(0, .ref 27), (1, .int (nI d)), (2, .int (gm_nO (gs_com U J d k))), (3, .int (nI k))]) (st' := [.int (nI N), .int (nI k)]) (w' := w) ?_ (rfl) (by simp only [hm]) rfl
      refine gd_r E K 1 (pc' := if (nI N) ≤ (nI k) then 45 else 12) (lv' := [(0, .ref 27), (1, .int (nI d)), (2, .int (gm_nO (gs_com U J d k))), (3, .int (nI k))]) (st' := []) (w' := w) rfl ?_
      refine gd_it (nI_le (by omega) (by omega)) ?_
      refine gd_r E K 1 (pc' := 46) (lv' := [(0, .ref 27), (1, .int (nI d)), (2, .int (gm_nO (gs_com U J d k))), (3, .int (nI k))]) (st' := [.int (gm_nO (gs_com U J d k))]) (w' := w) rfl ?_
      exact gd_iretq E hr hlk (K.1 46 (.ireturn, 0) rfl).1 (by rw [show k = N by omega]) (rfl)
    | succ j ih =>
      intro k hk
      refine gd_r E K 3 (pc' := 9) (lv' := [(0, .ref 27), (1, .int (nI d)), (2, .int (gm_nO (gs_com U J d k))), (3, .int (nI k))]) (st' := [.int (w.1 27 3), .int (nI k)]) (w' := w) rfl ?_
      refine gd_cg (lv' := [(0, .ref 27), (1, .int (nI d)), (2, .int (gm_nO (gs_com U J d k))), (3, .int (nI k))]) (st' := [.int (nI N), .int (nI k)]) (w' := w) ?_ (rfl) (by simp only [hm]) rfl
      refine gd_r E K 1 (pc' := if (nI N) ≤ (nI k) then 45 else 12) (lv' := [(0, .ref 27), (1, .int (nI d)), (2, .int (gm_nO (gs_com U J d k))), (3, .int (nI k))]) (st' := []) (w' := w) rfl ?_
      refine gd_if (nI_ge (by omega) (by omega)) ?_
      refine gd_r E K 3 (pc' := 17) (lv' := [(0, .ref 27), (1, .int (nI d)), (2, .int (gm_nO (gs_com U J d k))), (3, .int (nI k))]) (st' := [.int (nI k), .ref 29]) (w' := w) rfl ?_
      refine gd_ialdv E (K.1 17 (.iaload, 0) rfl).1 (j := k) (by decide) (rfl) (rfl) (by omega) (by decide) (v := nI (U k)) ((hu k (by omega)).1) ?_
      have hu2 := (hu k (by omega)).2
      have hj2 := (hJ k (by omega)).2
      rcases Nat.eq_zero_or_pos (U k) with h0 | h0
      · refine gd_r E K 1 (pc' := if (nI (U k)) ≤ 0 then 37 else 21) (lv' := [(0, .ref 27), (1, .int (nI d)), (2, .int (gm_nO (gs_com U J d k))), (3, .int (nI k))]) (st' := []) (w' := w) rfl ?_
        refine gd_it ((gd_le0 (by omega)).mpr h0) ?_
        refine gd_r E K 4 (pc' := 4) (lv' := [(0, .ref 27), (1, .int (nI d)), (2, .int (gm_nO (gs_com U J d k))), (3, .int ((nI k) + 1))]) (st' := []) (w' := w) rfl ?_
        exact gd_cg (ih (k + 1) (by omega)) (by simp only [gs_com, if_neg (show ¬ (0 < U k ∧ J k = d + 1) by omega), nI_1]) rfl rfl
      · refine gd_r E K 1 (pc' := if (nI (U k)) ≤ 0 then 37 else 21) (lv' := [(0, .ref 27), (1, .int (nI d)), (2, .int (gm_nO (gs_com U J d k))), (3, .int (nI k))]) (st' := []) (w' := w) rfl ?_
        refine gd_if (fun q => absurd ((gd_le0 (by omega)).mp q) (by omega)) ?_
        refine gd_r E K 3 (pc' := 26) (lv' := [(0, .ref 27), (1, .int (nI d)), (2, .int (gm_nO (gs_com U J d k))), (3, .int (nI k))]) (st' := [.int (nI k), .ref 36]) (w' := w) rfl ?_
        refine gd_ialdv E (K.1 26 (.iaload, 0) rfl).1 (j := k) (by decide) (rfl) (rfl) (by omega) (by decide) (v := nI (J k)) ((hJ k (by omega)).1) ?_
        refine gd_r E K 3 (pc' := 30) (lv' := [(0, .ref 27), (1, .int (nI d)), (2, .int (gm_nO (gs_com U J d k))), (3, .int (nI k))]) (st' := [.int ((nI d) + 1), .int (nI (J k))]) (w' := w) rfl ?_
        by_cases h1 : J k = d + 1
        · refine gd_r E K 1 (pc' := if (nI (J k)) = ((nI d) + 1) then 33 else 37) (lv' := [(0, .ref 27), (1, .int (nI d)), (2, .int (gm_nO (gs_com U J d k))), (3, .int (nI k))]) (st' := []) (w' := w) rfl ?_
          refine gd_it (by rw [nI_1, h1]) ?_
          refine gd_r E K 5 (pc' := 4) (lv' := [(0, .ref 27), (1, .int (nI d)), (2, .int (nI k)), (3, .int ((nI k) + 1))]) (st' := []) (w' := w) rfl ?_
          exact gd_cg (ih (k + 1) (by omega)) (by simp only [gs_com, if_pos (And.intro h0 h1), nI_1, gm_nO]) rfl rfl
        · refine gd_r E K 1 (pc' := if (nI (J k)) = ((nI d) + 1) then 33 else 37) (lv' := [(0, .ref 27), (1, .int (nI d)), (2, .int (gm_nO (gs_com U J d k))), (3, .int (nI k))]) (st' := []) (w' := w) rfl ?_
          refine gd_if (by rw [nI_1, nI_eq (by omega) (by omega)]; exact h1) ?_
          refine gd_r E K 4 (pc' := 4) (lv' := [(0, .ref 27), (1, .int (nI d)), (2, .int (gm_nO (gs_com U J d k))), (3, .int ((nI k) + 1))]) (st' := []) (w' := w) rfl ?_
          exact gd_cg (ih (k + 1) (by omega)) (by simp only [gs_com, if_neg (fun z : 0 < U k ∧ J k = d + 1 => h1 z.2), nI_1]) rfl rfl
  refine gd_r E K 4 (pc' := 4) (lv' := [(0, .ref 27), (1, .int (nI d)), (2, .int (-1)), (3, .int 0)]) (st' := []) (w' := w) rfl ?_
  exact gd_cg (loop N 0 (by omega)) rfl rfl rfl
set_option maxRecDepth 100000 in
theorem c2_left {l : Launch} {D : va_G} {tC : FieldType → ClassId} {ad : Nat → Nat} (hinj : ∀ i j, ad i = ad j → i = j) {S : gs_T} {G : Nat → Nat} (w : gd_W) (hR : gr_M w S G) (d : Nat) (hd : d < gs_made S) : gd_Ct l D tC ad 45 0 0 y_M_left c_M_left 2 (some .int) [.ref 27, .int (nI d)] w (some (.int (nI (gs_l S d)))) w := by
  refine gd_Ct_of rfl hinj (Nat.le_of_ble_eq_true rfl) ?_
  intro p e s m args below meth c E hr hlk
  have K := k_M_left
  have hA : ∀ q, gd_A ad 45 s.heap.size q → gd_A ad 45 s.heap.size q := fun _ h => h
  obtain ⟨⟨hm, hN⟩, hu, hc, hl, -⟩ := hR
  obtain ⟨g1, g2, g3⟩ := hl d (by omega)
  refine gd_r E K 3 (pc' := 5) (lv' := [(0, .ref 27), (1, .int (nI d))]) (st' := [.int (nI d), .ref 34]) (w' := w) rfl ?_
  refine gd_ialdv E (K.1 5 (.iaload, 0) rfl).1 (j := d) (by decide) (rfl) (rfl) (by omega) (by decide) (v := nI (G d + gs_l S d)) (g1) ?_
  refine gd_r E K 3 (pc' := 11) (lv' := [(0, .ref 27), (1, .int (nI d))]) (st' := [.int (nI d), .ref 35, .int (nI (G d + gs_l S d))]) (w' := w) rfl ?_
  refine gd_ialdv E (K.1 11 (.iaload, 0) rfl).1 (j := d) (by decide) (rfl) (rfl) (by omega) (by decide) (v := nI (G d)) (g2) ?_
  refine gd_r E K 1 (pc' := 13) (lv' := [(0, .ref 27), (1, .int (nI d))]) (st' := [.int ((nI (G d + gs_l S d)) - (nI (G d)))]) (w' := w) rfl ?_
  exact gd_iretq E hr hlk (K.1 13 (.ireturn, 0) rfl).1 (by rw [pk_sub (by omega)]; congr 1; omega) (rfl)
def gs_free (S : gs_T) (d : Nat) : Bool := decide (gs_l S d = 0) && (gs_com (gs_u S) (gs_i S) d (gs_made S)).isNone
theorem gs_com_lt {U J : Nat → Nat} {d : Nat} : ∀ {n k : Nat}, gs_com U J d n = some k → k < n
  | 0, k, h => by cases h
  | n + 1, k, h => by
    rw [gs_com] at h
    split at h
    · cases h; omega
    · have := gs_com_lt h; omega
set_option maxRecDepth 100000 in
theorem c2_isFree {l : Launch} {D : va_G} {tC : FieldType → ClassId} {ad : Nat → Nat} (hinj : ∀ i j, ad i = ad j → i = j) {S : gs_T} {G : Nat → Nat} (w : gd_W) (hR : gr_M w S G) (d : Nat) (hd : d < gs_made S) : gd_Ct l D tC ad 45 1 23 y_M_isFree c_M_isFree 2 (some .boolean) [.ref 27, .int (nI d)] w (some (.int (gs_b (gs_free S d)))) w := by
  refine gd_Ct_of rfl hinj (Nat.le_of_ble_eq_true rfl) ?_
  intro p e s m args below meth c E hr hlk
  have K := k_M_isFree
  have hA : ∀ q, gd_A ad 45 s.heap.size q → gd_A ad 45 s.heap.size q := fun _ h => h
  have hN := hR.1.2
  have hl := (hR.2.2.2.1 d (by omega)).2.2
  refine gd_r E K 2 (pc' := 2) (lv' := [(0, .ref 27), (1, .int (nI d))]) (st' := [.int (nI d), .ref 27]) (w' := w) rfl ?_
  refine gd_cV E hA (av := [.int (nI d)]) (rest := []) (c2_left hinj w hR d hd) (K.1 2 (.invokevirtual 75, 0) rfl).1 ml_M_75 cv_M_left (by decide) (rfl) ⟨Nat.le_of_ble_eq_true rfl, Nat.le_of_ble_eq_true rfl⟩ ⟨Nat.zero_le _, Nat.zero_le _⟩ rfl (Nat.le_of_ble_eq_true rfl) ?_
  by_cases h1 : gs_l S d = 0
  · refine gd_r E K 1 (pc' := if (nI (gs_l S d)) = 0 then 8 else 20) (lv' := [(0, .ref 27), (1, .int (nI d))]) (st' := []) (w' := w) rfl ?_
    refine gd_it (by rw [h1]; rfl) ?_
    refine gd_r E K 2 (pc' := 10) (lv' := [(0, .ref 27), (1, .int (nI d))]) (st' := [.int (nI d), .ref 27]) (w' := w) rfl ?_
    refine gd_cV E hA (av := [.int (nI d)]) (rest := []) (c2_comer hinj w hR.U hR.J d (by omega)) (K.1 10 (.invokevirtual 79, 0) rfl).1 ml_M_79 cv_M_comer (by decide) (rfl) ⟨Nat.le_of_ble_eq_true rfl, Nat.le_of_ble_eq_true rfl⟩ ⟨Nat.zero_le _, Nat.zero_le _⟩ rfl (Nat.le_of_ble_eq_true rfl) ?_
    cases hcm : gs_com (gs_u S) (gs_i S) d (gs_made S) with
    | none =>
      refine gd_r E K 1 (pc' := if 0 ≤ (gm_nO none) then 20 else 16) (lv' := [(0, .ref 27), (1, .int (nI d))]) (st' := []) (w' := w) rfl ?_
      refine gd_if (by decide) ?_
      refine gd_r E K 2 (pc' := 21) (lv' := [(0, .ref 27), (1, .int (nI d))]) (st' := [.int 1]) (w' := w) rfl ?_
      exact gd_zretq E hr hlk (K.1 21 (.ireturn, 0) rfl).1 (by decide) (by simp [gs_free, h1, hcm, gs_b]) (rfl)
    | some k =>
      have hk := gs_com_lt hcm
      refine gd_r E K 1 (pc' := if 0 ≤ (gm_nO (some k)) then 20 else 16) (lv' := [(0, .ref 27), (1, .int (nI d))]) (st' := []) (w' := w) rfl ?_
      refine gd_it (nI_pos' (by omega)) ?_
      refine gd_r E K 1 (pc' := 21) (lv' := [(0, .ref 27), (1, .int (nI d))]) (st' := [.int 0]) (w' := w) rfl ?_
      exact gd_zretq E hr hlk (K.1 21 (.ireturn, 0) rfl).1 (by decide) (by simp [gs_free, hcm, gs_b]) (rfl)
  · refine gd_r E K 1 (pc' := if (nI (gs_l S d)) = 0 then 8 else 20) (lv' := [(0, .ref 27), (1, .int (nI d))]) (st' := []) (w' := w) rfl ?_
    refine gd_if (nI_ne0 (by omega) (by omega)) ?_
    refine gd_r E K 1 (pc' := 21) (lv' := [(0, .ref 27), (1, .int (nI d))]) (st' := [.int 0]) (w' := w) rfl ?_
    exact gd_zretq E hr hlk (K.1 21 (.ireturn, 0) rfl).1 (by decide) (by simp [gs_free, h1, gs_b]) (rfl)
theorem gs_wk_s {c : Nat} {ms : Nat → Nat} {n x : Nat} (h : gs_wk c ms n = some x) : gs_wk c ms (n + 1) = gm_mv x (ms n) := by rw [gs_wk, h]
set_option maxRecDepth 100000 in
theorem c2_placeAfter {l : Launch} {D : va_G} {tC : FieldType → ClassId} {ad : Nat → Nat} (hinj : ∀ i j, ad i = ad j → i = j) {S : gs_T} {G : Nat → Nat} (w : gd_W) (hR : gr_M w S G) (d : Nat) (hd : d < gs_made S) (hv : gv_way S d) (n : Nat) (hn : n < 2 ^ 31) : gd_Ct l D tC ad 45 2 44 y_M_placeAfter c_M_placeAfter 5 (some .int) [.ref 27, .int (nI d), .int (nI n)] w (some (.int (gm_nO (gs_pos S d n)))) w := by
  refine gd_Ct_of rfl hinj (Nat.le_of_ble_eq_true rfl) ?_
  intro p e s m args below meth c E hr hlk
  have K := k_M_placeAfter
  have hA : ∀ q, gd_A ad 45 s.heap.size q → gd_A ad 45 s.heap.size q := fun _ h => h
  have hN := hR.1.2
  obtain ⟨g1, g2, g3⟩ := hR.2.2.2.1 d (by omega)
  obtain ⟨i1, i2⟩ := hR.2.2.2.2.2.1 d (by omega)
  have hro := hR.2.2.2.2.1 d (by omega)
  obtain ⟨c1, c2⟩ := hR.2.2.1 d (by omega)
  have loop : ¬ (0 < gs_i S d ∧ gs_l S d ≤ n) → ∀ j k x, k + j = min n (gs_l S d) → x < 64 → gs_wk (gs_c S d) (gs_m S d) k = some x → gd_G p l e (gd_rm 2 44) s m args below meth c D tC ad (gd_A ad 45 s.heap.size) 45 5 0 0 (MQ below (gd_Q D tC ad 45 s.heap.size (some (.int (gm_nO (gs_pos S d n)))) w) args s 0 0 (gd_A ad 45 s.heap.size)) 30 [(0, .ref 27), (1, .int (nI d)), (2, .int (nI n)), (3, .int (nI x)), (4, .int (nI k))] [] w := by
    intro hni j
    induction j with
    | zero =>
      intro k x hk hx hw
      have hres : gm_nO (gs_pos S d n) = nI x := by rw [gs_pos, if_neg hni, ← hk, Nat.add_zero, hw]; rfl
      refine gd_r E K 2 (pc' := 33) (lv' := [(0, .ref 27), (1, .int (nI d)), (2, .int (nI n)), (3, .int (nI x)), (4, .int (nI k))]) (st' := [.int (nI n), .int (nI k)]) (w' := w) rfl ?_
      by_cases h1 : n ≤ k
      · refine gd_r E K 1 (pc' := if (nI n) ≤ (nI k) then 76 else 36) (lv' := [(0, .ref 27), (1, .int (nI d)), (2, .int (nI n)), (3, .int (nI x)), (4, .int (nI k))]) (st' := []) (w' := w) rfl ?_
        refine gd_it (nI_le h1 (by omega)) ?_
        refine gd_r E K 1 (pc' := 77) (lv' := [(0, .ref 27), (1, .int (nI d)), (2, .int (nI n)), (3, .int (nI x)), (4, .int (nI k))]) (st' := [.int (nI x)]) (w' := w) rfl ?_
        exact gd_iretq E hr hlk (K.1 77 (.ireturn, 0) rfl).1 (hres) (rfl)
      · refine gd_r E K 1 (pc' := if (nI n) ≤ (nI k) then 76 else 36) (lv' := [(0, .ref 27), (1, .int (nI d)), (2, .int (nI n)), (3, .int (nI x)), (4, .int (nI k))]) (st' := []) (w' := w) rfl ?_
        refine gd_if (nI_ge (by omega) (by omega)) ?_
        refine gd_r E K 3 (pc' := 40) (lv' := [(0, .ref 27), (1, .int (nI d)), (2, .int (nI n)), (3, .int (nI x)), (4, .int (nI k))]) (st' := [.int (nI d), .ref 27, .int (nI k)]) (w' := w) rfl ?_
        refine gd_cV E hA (av := [.int (nI d)]) (rest := [.int (nI k)]) (c2_left hinj w hR d hd) (K.1 40 (.invokevirtual 75, 0) rfl).1 ml_M_75 cv_M_left (by decide) (rfl) ⟨Nat.le_of_ble_eq_true rfl, Nat.le_of_ble_eq_true rfl⟩ ⟨Nat.zero_le _, Nat.zero_le _⟩ rfl (Nat.le_of_ble_eq_true rfl) ?_
        refine gd_r E K 1 (pc' := if (nI (gs_l S d)) ≤ (nI k) then 76 else 46) (lv' := [(0, .ref 27), (1, .int (nI d)), (2, .int (nI n)), (3, .int (nI x)), (4, .int (nI k))]) (st' := []) (w' := w) rfl ?_
        refine gd_it (nI_le (by omega) (by omega)) ?_
        refine gd_r E K 1 (pc' := 77) (lv' := [(0, .ref 27), (1, .int (nI d)), (2, .int (nI n)), (3, .int (nI x)), (4, .int (nI k))]) (st' := [.int (nI x)]) (w' := w) rfl ?_
        exact gd_iretq E hr hlk (K.1 77 (.ireturn, 0) rfl).1 (hres) (rfl)
    | succ j ih =>
      intro k x hk hx hw
      refine gd_r E K 2 (pc' := 33) (lv' := [(0, .ref 27), (1, .int (nI d)), (2, .int (nI n)), (3, .int (nI x)), (4, .int (nI k))]) (st' := [.int (nI n), .int (nI k)]) (w' := w) rfl ?_
      refine gd_r E K 1 (pc' := if (nI n) ≤ (nI k) then 76 else 36) (lv' := [(0, .ref 27), (1, .int (nI d)), (2, .int (nI n)), (3, .int (nI x)), (4, .int (nI k))]) (st' := []) (w' := w) rfl ?_
      refine gd_if (nI_ge (by omega) (by omega)) ?_
      refine gd_r E K 3 (pc' := 40) (lv' := [(0, .ref 27), (1, .int (nI d)), (2, .int (nI n)), (3, .int (nI x)), (4, .int (nI k))]) (st' := [.int (nI d), .ref 27, .int (nI k)]) (w' := w) rfl ?_
      refine gd_cV E hA (av := [.int (nI d)]) (rest := [.int (nI k)]) (c2_left hinj w hR d hd) (K.1 40 (.invokevirtual 75, 0) rfl).1 ml_M_75 cv_M_left (by decide) (rfl) ⟨Nat.le_of_ble_eq_true rfl, Nat.le_of_ble_eq_true rfl⟩ ⟨Nat.zero_le _, Nat.zero_le _⟩ rfl (Nat.le_of_ble_eq_true rfl) ?_
      refine gd_r E K 1 (pc' := if (nI (gs_l S d)) ≤ (nI k) then 76 else 46) (lv' := [(0, .ref 27), (1, .int (nI d)), (2, .int (nI n)), (3, .int (nI x)), (4, .int (nI k))]) (st' := []) (w' := w) rfl ?_
      refine gd_if (nI_ge (by omega) (by omega)) ?_
      refine gd_r E K 9 (pc' := 60) (lv' := [(0, .ref 27), (1, .int (nI d)), (2, .int (nI n)), (3, .int (nI x)), (4, .int (nI k))]) (st' := [.int (nI d), .ref 35, .int (60 * (nI d)), .ref 33, .int (nI x)]) (w' := w) rfl ?_
      obtain ⟨r1, r2⟩ := hro k (by omega)
      refine gd_ialdv E (K.1 60 (.iaload, 0) rfl).1 (j := d) (by decide) (rfl) (rfl) (by omega) (by decide) (v := nI (G d)) (g2) ?_
      refine gd_r E K 3 (pc' := 65) (lv' := [(0, .ref 27), (1, .int (nI d)), (2, .int (nI n)), (3, .int (nI x)), (4, .int (nI k))]) (st' := [.int (((60 * (nI d)) + (nI (G d))) + (nI k)), .ref 33, .int (nI x)]) (w' := w) rfl ?_
      refine gd_ialdv E (K.1 65 (.iaload, 0) rfl).1 (j := 60 * d + G d + k) (by decide) (rfl) (by rw [show (60 : Int32) = nI 60 from rfl, pk_mul, nI_add, nI_add]) (by omega) (by decide) (v := nI (gs_m S d k)) (r1) ?_
      obtain ⟨y, hy, hw2⟩ := hv (k + 1) (by omega)
      have hmv : gm_mv x (gs_m S d k) = some y := by rw [← gs_wk_s hw]; exact hw2
      refine gd_cS E hA (av := [.int (nI x), .int (nI (gs_m S d k))]) (rest := []) (c2_moved hinj x (gs_m S d k) hx r2 w) (K.1 66 (.invokestatic 82, 0) rfl).1 ml_M_82 cv_M_moved ⟨Nat.le_of_ble_eq_true rfl, Nat.le_of_ble_eq_true rfl⟩ ⟨Nat.zero_le _, Nat.zero_le _⟩ rfl (Nat.le_of_ble_eq_true rfl) ?_
      refine gd_r E K 3 (pc' := 30) (lv' := [(0, .ref 27), (1, .int (nI d)), (2, .int (nI n)), (3, .int (gm_nO (gm_mv x (gs_m S d k)))), (4, .int ((nI k) + 1))]) (st' := []) (w' := w) rfl ?_
      exact gd_cg (ih (k + 1) y (by omega) hy hw2) (by simp only [hmv, gm_nO, nI_1]) rfl rfl
  refine gd_r E K 3 (pc' := 5) (lv' := [(0, .ref 27), (1, .int (nI d)), (2, .int (nI n))]) (st' := [.int (nI d), .ref 36]) (w' := w) rfl ?_
  refine gd_ialdv E (K.1 5 (.iaload, 0) rfl).1 (j := d) (by decide) (rfl) (rfl) (by omega) (by decide) (v := nI (gs_i S d)) (i1) ?_
  by_cases h0 : gs_i S d = 0
  · refine gd_r E K 1 (pc' := if (nI (gs_i S d)) ≤ 0 then 20 else 9) (lv' := [(0, .ref 27), (1, .int (nI d)), (2, .int (nI n))]) (st' := []) (w' := w) rfl ?_
    refine gd_it ((gd_le0 (by omega)).mpr h0) ?_
    refine gd_r E K 3 (pc' := 25) (lv' := [(0, .ref 27), (1, .int (nI d)), (2, .int (nI n))]) (st' := [.int (nI d), .ref 30]) (w' := w) rfl ?_
    refine gd_ialdv E (K.1 25 (.iaload, 0) rfl).1 (j := d) (by decide) (rfl) (rfl) (by omega) (by decide) (v := nI (gs_c S d)) (c1) ?_
    refine gd_r E K 3 (pc' := 30) (lv' := [(0, .ref 27), (1, .int (nI d)), (2, .int (nI n)), (3, .int (nI (gs_c S d))), (4, .int 0)]) (st' := []) (w' := w) rfl ?_
    exact gd_cg (loop (by omega) (min n (gs_l S d)) 0 (gs_c S d) (by omega) c2 rfl) rfl rfl rfl
  · refine gd_r E K 1 (pc' := if (nI (gs_i S d)) ≤ 0 then 20 else 9) (lv' := [(0, .ref 27), (1, .int (nI d)), (2, .int (nI n))]) (st' := []) (w' := w) rfl ?_
    refine gd_if (fun q => absurd ((gd_le0 (by omega)).mp q) h0) ?_
    refine gd_r E K 3 (pc' := 12) (lv' := [(0, .ref 27), (1, .int (nI d)), (2, .int (nI n))]) (st' := [.int (nI d), .ref 27, .int (nI n)]) (w' := w) rfl ?_
    refine gd_cV E hA (av := [.int (nI d)]) (rest := [.int (nI n)]) (c2_left hinj w hR d hd) (K.1 12 (.invokevirtual 75, 0) rfl).1 ml_M_75 cv_M_left (by decide) (rfl) ⟨Nat.le_of_ble_eq_true rfl, Nat.le_of_ble_eq_true rfl⟩ ⟨Nat.zero_le _, Nat.zero_le _⟩ rfl (Nat.le_of_ble_eq_true rfl) ?_
    by_cases h1 : n < gs_l S d
    · refine gd_r E K 1 (pc' := if (nI n) < (nI (gs_l S d)) then 20 else 18) (lv' := [(0, .ref 27), (1, .int (nI d)), (2, .int (nI n))]) (st' := []) (w' := w) rfl ?_
      refine gd_it (nI_lt h1 (by omega)) ?_
      refine gd_r E K 3 (pc' := 25) (lv' := [(0, .ref 27), (1, .int (nI d)), (2, .int (nI n))]) (st' := [.int (nI d), .ref 30]) (w' := w) rfl ?_
      refine gd_ialdv E (K.1 25 (.iaload, 0) rfl).1 (j := d) (by decide) (rfl) (rfl) (by omega) (by decide) (v := nI (gs_c S d)) (c1) ?_
      refine gd_r E K 3 (pc' := 30) (lv' := [(0, .ref 27), (1, .int (nI d)), (2, .int (nI n)), (3, .int (nI (gs_c S d))), (4, .int 0)]) (st' := []) (w' := w) rfl ?_
      exact gd_cg (loop (by omega) (min n (gs_l S d)) 0 (gs_c S d) (by omega) c2 rfl) rfl rfl rfl
    · refine gd_r E K 1 (pc' := if (nI n) < (nI (gs_l S d)) then 20 else 18) (lv' := [(0, .ref 27), (1, .int (nI d)), (2, .int (nI n))]) (st' := []) (w' := w) rfl ?_
      refine gd_if (nI_nlt (by omega) (by omega)) ?_
      refine gd_r E K 1 (pc' := 19) (lv' := [(0, .ref 27), (1, .int (nI d)), (2, .int (nI n))]) (st' := [.int (-1)]) (w' := w) rfl ?_
      exact gd_iretq E hr hlk (K.1 19 (.ireturn, 0) rfl).1 (by rw [gs_pos, if_pos ⟨by omega, by omega⟩]; rfl) (rfl)
end
section
/-- the table of the others' places: T k n, the k-th of them after n steps -/
def gs_tab (w : gd_W) (cnt : Nat) (T : Nat → Nat → Option Nat) : Prop := (w.1 27 19 = nI cnt ∧ cnt ≤ 6) ∧ ∀ n, n < 64 → ∀ k, k < cnt → w.1 41 (64 * k + n) = gm_nO (T k n) ∧ ∀ b, T k n = some b → b < 64
def gs_mt (T : Nat → Nat → Option Nat) (cnt c n : Nat) : Bool := gs_any (fun k => gs_nearO c (T k n)) cnt
/-- from a on, for ever -/
def gs_mtR (T : Nat → Nat → Option Nat) (cnt c a : Nat) : Bool := gs_any (fun i => gs_mt T cnt c (a + i)) (64 - a)
def gs_atO (r : Nat → Bool) (x : Option Nat) : Bool := match x with
  | some b => r b
  | none => false
theorem gs_any_s (f : Nat → Bool) (n : Nat) : gs_any f (n + 1) = (gs_any f n || f n) := rfl
theorem gs_b_t : gs_b true = 1 := rfl
theorem gs_b_f : gs_b false = 0 := rfl
set_option maxRecDepth 100000 in
theorem c2_isMetN {l : Launch} {D : va_G} {tC : FieldType → ClassId} {ad : Nat → Nat} (hinj : ∀ i j, ad i = ad j → i = j) {cnt : Nat} {T : Nat → Nat → Option Nat} (w : gd_W) (hT : gs_tab w cnt T) (c0 : Nat) : gd_Ct l D tC ad 45 1 23 y_M_isMet c_M_isMet 6 (some .boolean) [.ref 27, .int (nI c0), .int (-1)] w (some (.int 0)) w := by
  refine gd_Ct_of rfl hinj (Nat.le_of_ble_eq_true rfl) ?_
  intro p e s m args below meth c E hr hlk
  have K := k_M_isMet
  have hA : ∀ q, gd_A ad 45 s.heap.size q → gd_A ad 45 s.heap.size q := fun _ h => h
  obtain ⟨⟨h19, hc6⟩, -⟩ := hT
  refine gd_r E K 7 (pc' := 11) (lv' := [(0, .ref 27), (1, .int (nI c0)), (2, .int (-1)), (3, .int 0), (4, .int 0)]) (st' := [.int (w.1 27 19), .int 0]) (w' := w) rfl ?_
  refine gd_cg (lv' := [(0, .ref 27), (1, .int (nI c0)), (2, .int (-1)), (3, .int 0), (4, .int 0)]) (st' := [.int (nI cnt), .int 0]) (w' := w) ?_ (rfl) (by simp only [h19]) rfl
  refine gd_r E K 1 (pc' := if (nI cnt) ≤ 0 then 62 else 14) (lv' := [(0, .ref 27), (1, .int (nI c0)), (2, .int (-1)), (3, .int 0), (4, .int 0)]) (st' := []) (w' := w) rfl ?_
  refine gd_ite (fun h1 => ?_) (fun h1 => ?_)
  · refine gd_r E K 1 (pc' := 63) (lv' := [(0, .ref 27), (1, .int (nI c0)), (2, .int (-1)), (3, .int 0), (4, .int 0)]) (st' := [.int 0]) (w' := w) rfl ?_
    exact gd_zretq E hr hlk (K.1 63 (.ireturn, 0) rfl).1 (by decide) (rfl) (rfl)
  · refine gd_r E K 3 (pc' := 63) (lv' := [(0, .ref 27), (1, .int (nI c0)), (2, .int (-1)), (3, .int 0), (4, .int 0)]) (st' := [.int 0]) (w' := w) rfl ?_
    exact gd_zretq E hr hlk (K.1 63 (.ireturn, 0) rfl).1 (by decide) (rfl) (rfl)
set_option maxRecDepth 100000 in
theorem c2_isMet {l : Launch} {D : va_G} {tC : FieldType → ClassId} {ad : Nat → Nat} (hinj : ∀ i j, ad i = ad j → i = j) {cnt : Nat} {T : Nat → Nat → Option Nat} (w : gd_W) (hT : gs_tab w cnt T) (c0 n : Nat) (hc : c0 < 64) (hn : n < 64) : gd_Ct l D tC ad 45 1 23 y_M_isMet c_M_isMet 6 (some .boolean) [.ref 27, .int (nI c0), .int (nI n)] w (some (.int (gs_b (gs_mt T cnt c0 n)))) w := by
  refine gd_Ct_of rfl hinj (Nat.le_of_ble_eq_true rfl) ?_
  intro p e s m args below meth c E hr hlk
  have K := k_M_isMet
  have hA : ∀ q, gd_A ad 45 s.heap.size q → gd_A ad 45 s.heap.size q := fun _ h => h
  obtain ⟨⟨h19, hc6⟩, hT⟩ := hT
  have loop : ∀ j k, k + j = cnt → gd_G p l e (gd_rm 1 23) s m args below meth c D tC ad (gd_A ad 45 s.heap.size) 45 6 0 0 (MQ below (gd_Q D tC ad 45 s.heap.size (some (.int (gs_b (gs_mt T cnt c0 n)))) w) args s 0 0 (gd_A ad 45 s.heap.size)) 5 [(0, .ref 27), (1, .int (nI c0)), (2, .int (nI n)), (3, .int (gs_b (gs_any (fun k => gs_nearO c0 (T k n)) k))), (4, .int (nI k))] [] w := by
    intro j
    induction j with
    | zero =>
      intro k hk
      refine gd_r E K 3 (pc' := 11) (lv' := [(0, .ref 27), (1, .int (nI c0)), (2, .int (nI n)), (3, .int (gs_b (gs_any (fun k => gs_nearO c0 (T k n)) k))), (4, .int (nI k))]) (st' := [.int (w.1 27 19), .int (nI k)]) (w' := w) rfl ?_
      refine gd_cg (lv' := [(0, .ref 27), (1, .int (nI c0)), (2, .int (nI n)), (3, .int (gs_b (gs_any (fun k => gs_nearO c0 (T k n)) k))), (4, .int (nI k))]) (st' := [.int (nI cnt), .int (nI k)]) (w' := w) ?_ (rfl) (by simp only [h19]) rfl
      refine gd_r E K 1 (pc' := if (nI cnt) ≤ (nI k) then 62 else 14) (lv' := [(0, .ref 27), (1, .int (nI c0)), (2, .int (nI n)), (3, .int (gs_b (gs_any (fun k => gs_nearO c0 (T k n)) k))), (4, .int (nI k))]) (st' := []) (w' := w) rfl ?_
      refine gd_it (nI_le (by omega) (by omega)) ?_
      refine gd_r E K 1 (pc' := 63) (lv' := [(0, .ref 27), (1, .int (nI c0)), (2, .int (nI n)), (3, .int (gs_b (gs_any (fun k => gs_nearO c0 (T k n)) k))), (4, .int (nI k))]) (st' := [.int (gs_b (gs_any (fun k => gs_nearO c0 (T k n)) k))]) (w' := w) rfl ?_
      exact gd_zretq E hr hlk (K.1 63 (.ireturn, 0) rfl).1 (gs_b_01 _) (by rw [show k = cnt by omega]; rfl) (rfl)
    | succ j ih =>
      intro k hk
      refine gd_r E K 3 (pc' := 11) (lv' := [(0, .ref 27), (1, .int (nI c0)), (2, .int (nI n)), (3, .int (gs_b (gs_any (fun k => gs_nearO c0 (T k n)) k))), (4, .int (nI k))]) (st' := [.int (w.1 27 19), .int (nI k)]) (w' := w) rfl ?_
      refine gd_cg (lv' := [(0, .ref 27), (1, .int (nI c0)), (2, .int (nI n)), (3, .int (gs_b (gs_any (fun k => gs_nearO c0 (T k n)) k))), (4, .int (nI k))]) (st' := [.int (nI cnt), .int (nI k)]) (w' := w) ?_ (rfl) (by simp only [h19]) rfl
      refine gd_r E K 1 (pc' := if (nI cnt) ≤ (nI k) then 62 else 14) (lv' := [(0, .ref 27), (1, .int (nI c0)), (2, .int (nI n)), (3, .int (gs_b (gs_any (fun k => gs_nearO c0 (T k n)) k))), (4, .int (nI k))]) (st' := []) (w' := w) rfl ?_
      refine gd_if (nI_ge (by omega) (by omega)) ?_
      refine gd_r E K 1 (pc' := 15) (lv' := [(0, .ref 27), (1, .int (nI c0)), (2, .int (nI n)), (3, .int (gs_b (gs_any (fun k => gs_nearO c0 (T k n)) k))), (4, .int (nI k))]) (st' := [.int (nI n)]) (w' := w) rfl ?_
      refine gd_r E K 1 (pc' := if (nI n) < 0 then 62 else 18) (lv' := [(0, .ref 27), (1, .int (nI c0)), (2, .int (nI n)), (3, .int (gs_b (gs_any (fun k => gs_nearO c0 (T k n)) k))), (4, .int (nI k))]) (st' := []) (w' := w) rfl ?_
      refine gd_if (nI_pos (by omega)) ?_
      refine gd_r E K 7 (pc' := 29) (lv' := [(0, .ref 27), (1, .int (nI c0)), (2, .int (nI n)), (3, .int (gs_b (gs_any (fun k => gs_nearO c0 (T k n)) k))), (4, .int (nI k))]) (st' := [.int ((64 * (nI k)) + (nI n)), .ref 41]) (w' := w) rfl ?_
      obtain ⟨t1, t2⟩ := hT n hn k (by omega)
      refine gd_ialdv E (K.1 29 (.iaload, 0) rfl).1 (j := 64 * k + n) (by decide) (rfl) (by rw [show (64 : Int32) = nI 64 from rfl, pk_mul, nI_add]) (by omega) (by decide) (v := gm_nO (T k n)) (t1) ?_
      refine gd_r E K 2 (pc' := 33) (lv' := [(0, .ref 27), (1, .int (nI c0)), (2, .int (nI n)), (3, .int (gs_b (gs_any (fun k => gs_nearO c0 (T k n)) k))), (4, .int (nI k)), (5, .int (gm_nO (T k n)))]) (st' := [.int (gs_b (gs_any (fun k => gs_nearO c0 (T k n)) k))]) (w' := w) rfl ?_
      cases hb : gs_any (fun k => gs_nearO c0 (T k n)) k with
      | true =>
        refine gd_r E K 1 (pc' := if (gs_b (true)) = 0 then 36 else 50) (lv' := [(0, .ref 27), (1, .int (nI c0)), (2, .int (nI n)), (3, .int (gs_b (true))), (4, .int (nI k)), (5, .int (gm_nO (T k n)))]) (st' := []) (w' := w) rfl ?_
        refine gd_if (by decide) ?_
        refine gd_r E K 5 (pc' := 5) (lv' := [(0, .ref 27), (1, .int (nI c0)), (2, .int (nI n)), (3, .int 1), (4, .int ((nI k) + 1)), (5, .int (gm_nO (T k n)))]) (st' := []) (w' := w) rfl ?_
        refine gd_lvp [0, 1, 2, 3, 4] (lv' := [(0, .ref 27), (1, .int (nI c0)), (2, .int (nI n)), (3, .int 1), (4, .int ((nI k) + 1))]) rfl ?_
        exact gd_cg (ih (k + 1) (by omega)) (by rw [gs_any_s, hb, Bool.true_or, nI_1]; rfl) rfl rfl
      | false =>
        refine gd_r E K 1 (pc' := if (gs_b (false)) = 0 then 36 else 50) (lv' := [(0, .ref 27), (1, .int (nI c0)), (2, .int (nI n)), (3, .int (gs_b (false))), (4, .int (nI k)), (5, .int (gm_nO (T k n)))]) (st' := []) (w' := w) rfl ?_
        refine gd_it (by decide) ?_
        refine gd_r E K 1 (pc' := 38) (lv' := [(0, .ref 27), (1, .int (nI c0)), (2, .int (nI n)), (3, .int (gs_b (false))), (4, .int (nI k)), (5, .int (gm_nO (T k n)))]) (st' := [.int (gm_nO (T k n))]) (w' := w) rfl ?_
        cases ht : T k n with
        | none =>
          refine gd_r E K 1 (pc' := if (gm_nO (none)) < 0 then 54 else 41) (lv' := [(0, .ref 27), (1, .int (nI c0)), (2, .int (nI n)), (3, .int (gs_b (false))), (4, .int (nI k)), (5, .int (gm_nO (none)))]) (st' := []) (w' := w) rfl ?_
          refine gd_it (by decide) ?_
          refine gd_r E K 4 (pc' := 5) (lv' := [(0, .ref 27), (1, .int (nI c0)), (2, .int (nI n)), (3, .int 0), (4, .int ((nI k) + 1)), (5, .int (gm_nO (none)))]) (st' := []) (w' := w) rfl ?_
          refine gd_lvp [0, 1, 2, 3, 4] (lv' := [(0, .ref 27), (1, .int (nI c0)), (2, .int (nI n)), (3, .int 0), (4, .int ((nI k) + 1))]) rfl ?_
          exact gd_cg (ih (k + 1) (by omega)) (by rw [gs_any_s, hb, ht, Bool.false_or, gs_nearO, nI_1]; rfl) rfl rfl
        | some b =>
          have hbb := t2 b ht
          refine gd_r E K 1 (pc' := if (gm_nO (some b)) < 0 then 54 else 41) (lv' := [(0, .ref 27), (1, .int (nI c0)), (2, .int (nI n)), (3, .int (gs_b (false))), (4, .int (nI k)), (5, .int (gm_nO (some b)))]) (st' := []) (w' := w) rfl ?_
          refine gd_if (gm_nO_some (by omega)) ?_
          refine gd_r E K 2 (pc' := 44) (lv' := [(0, .ref 27), (1, .int (nI c0)), (2, .int (nI n)), (3, .int (gs_b (false))), (4, .int (nI k)), (5, .int (gm_nO (some b)))]) (st' := [.int (gm_nO (some b)), .int (nI c0)]) (w' := w) rfl ?_
          refine gd_cS E hA (av := [.int (nI c0), .int (gm_nO (some b))]) (rest := []) (c2_areNear hinj c0 b hc hbb w) (K.1 44 (.invokestatic 92, 0) rfl).1 ml_M_92 cv_M_areNear ⟨Nat.le_of_ble_eq_true rfl, Nat.le_of_ble_eq_true rfl⟩ ⟨Nat.zero_le _, Nat.zero_le _⟩ rfl (Nat.le_of_ble_eq_true rfl) ?_
          by_cases hnb : gm_near c0 b = true
          · rw [if_pos hnb]
            refine gd_r E K 1 (pc' := if 1 = 0 then 54 else 50) (lv' := [(0, .ref 27), (1, .int (nI c0)), (2, .int (nI n)), (3, .int (gs_b (false))), (4, .int (nI k)), (5, .int (gm_nO (some b)))]) (st' := []) (w' := w) rfl ?_
            refine gd_if (by decide) ?_
            refine gd_r E K 5 (pc' := 5) (lv' := [(0, .ref 27), (1, .int (nI c0)), (2, .int (nI n)), (3, .int 1), (4, .int ((nI k) + 1)), (5, .int (gm_nO (some b)))]) (st' := []) (w' := w) rfl ?_
            refine gd_lvp [0, 1, 2, 3, 4] (lv' := [(0, .ref 27), (1, .int (nI c0)), (2, .int (nI n)), (3, .int 1), (4, .int ((nI k) + 1))]) rfl ?_
            exact gd_cg (ih (k + 1) (by omega)) (by rw [gs_any_s, hb, ht, Bool.false_or, gs_nearO, hnb, nI_1]; rfl) rfl rfl
          · rw [if_neg hnb]
            refine gd_r E K 1 (pc' := if 0 = 0 then 54 else 50) (lv' := [(0, .ref 27), (1, .int (nI c0)), (2, .int (nI n)), (3, .int (gs_b (false))), (4, .int (nI k)), (5, .int (gm_nO (some b)))]) (st' := []) (w' := w) rfl ?_
            refine gd_it (by decide) ?_
            refine gd_r E K 4 (pc' := 5) (lv' := [(0, .ref 27), (1, .int (nI c0)), (2, .int (nI n)), (3, .int 0), (4, .int ((nI k) + 1)), (5, .int (gm_nO (some b)))]) (st' := []) (w' := w) rfl ?_
            refine gd_lvp [0, 1, 2, 3, 4] (lv' := [(0, .ref 27), (1, .int (nI c0)), (2, .int (nI n)), (3, .int 0), (4, .int ((nI k) + 1))]) rfl ?_
            exact gd_cg (ih (k + 1) (by omega)) (by rw [gs_any_s, hb, ht, Bool.false_or, gs_nearO, Bool.eq_false_iff.mpr hnb, nI_1]; rfl) rfl rfl
  refine gd_r E K 4 (pc' := 5) (lv' := [(0, .ref 27), (1, .int (nI c0)), (2, .int (nI n)), (3, .int 0), (4, .int 0)]) (st' := []) (w' := w) rfl ?_
  exact gd_cg (loop cnt 0 (by omega)) rfl rfl rfl
set_option maxRecDepth 100000 in
theorem c2_canRest {l : Launch} {D : va_G} {tC : FieldType → ClassId} {ad : Nat → Nat} (hinj : ∀ i j, ad i = ad j → i = j) {cnt : Nat} {T : Nat → Nat → Option Nat} (w : gd_W) (hT : gs_tab w cnt T) (c0 fr : Nat) (hc : c0 < 64) (hf : fr ≤ 60) : gd_Ct l D tC ad 45 2 48 y_M_canRest c_M_canRest 5 (some .boolean) [.ref 27, .int (nI c0), .int (nI fr)] w (some (.int (gs_b (!gs_mtR T cnt c0 (fr - 1))))) w := by
  refine gd_Ct_of rfl hinj (Nat.le_of_ble_eq_true rfl) ?_
  intro p e s m args below meth c E hr hlk
  have K := k_M_canRest
  have hA : ∀ q, gd_A ad 45 s.heap.size q → gd_A ad 45 s.heap.size q := fun _ h => h
  have loop : ∀ j i, i + j = 64 - (fr - 1) → gd_G p l e (gd_rm 2 48) s m args below meth c D tC ad (gd_A ad 45 s.heap.size) 45 5 0 0 (MQ below (gd_Q D tC ad 45 s.heap.size (some (.int (gs_b (!gs_mtR T cnt c0 (fr - 1))))) w) args s 0 0 (gd_A ad 45 s.heap.size)) 7 [(0, .ref 27), (1, .int (nI c0)), (2, .int (nI fr)), (3, .int (gs_b (gs_any (fun i => gs_mt T cnt c0 (fr - 1 + i)) i))), (4, .int (nI (fr - 1 + i)))] [] w := by
    intro j
    induction j with
    | zero =>
      intro i hi
      refine gd_r E K 2 (pc' := 11) (lv' := [(0, .ref 27), (1, .int (nI c0)), (2, .int (nI fr)), (3, .int (gs_b (gs_any (fun i => gs_mt T cnt c0 (fr - 1 + i)) i))), (4, .int (nI (fr - 1 + i)))]) (st' := [.int 64, .int (nI (fr - 1 + i))]) (w' := w) rfl ?_
      refine gd_r E K 1 (pc' := if 64 ≤ (nI (fr - 1 + i)) then 40 else 14) (lv' := [(0, .ref 27), (1, .int (nI c0)), (2, .int (nI fr)), (3, .int (gs_b (gs_any (fun i => gs_mt T cnt c0 (fr - 1 + i)) i))), (4, .int (nI (fr - 1 + i)))]) (st' := []) (w' := w) rfl ?_
      refine gd_it (nI_le (show 64 ≤ fr - 1 + i by omega) (by omega)) ?_
      refine gd_r E K 1 (pc' := 41) (lv' := [(0, .ref 27), (1, .int (nI c0)), (2, .int (nI fr)), (3, .int (gs_b (gs_any (fun i => gs_mt T cnt c0 (fr - 1 + i)) i))), (4, .int (nI (fr - 1 + i)))]) (st' := [.int (gs_b (gs_any (fun i => gs_mt T cnt c0 (fr - 1 + i)) i))]) (w' := w) rfl ?_
      have hres : gs_any (fun i => gs_mt T cnt c0 (fr - 1 + i)) i = gs_mtR T cnt c0 (fr - 1) := by rw [show i = 64 - (fr - 1) by omega]; rfl
      cases hb : gs_any (fun i => gs_mt T cnt c0 (fr - 1 + i)) i with
      | true =>
        refine gd_r E K 1 (pc' := if (gs_b (true)) = 0 then 44 else 48) (lv' := [(0, .ref 27), (1, .int (nI c0)), (2, .int (nI fr)), (3, .int (gs_b (true))), (4, .int (nI (fr - 1 + i)))]) (st' := []) (w' := w) rfl ?_
        refine gd_if (by decide) ?_
        refine gd_r E K 1 (pc' := 49) (lv' := [(0, .ref 27), (1, .int (nI c0)), (2, .int (nI fr)), (3, .int (gs_b (true))), (4, .int (nI (fr - 1 + i)))]) (st' := [.int 0]) (w' := w) rfl ?_
        exact gd_zretq E hr hlk (K.1 49 (.ireturn, 0) rfl).1 (by decide) (by rw [← hres, hb]; rfl) (rfl)
      | false =>
        refine gd_r E K 1 (pc' := if (gs_b (false)) = 0 then 44 else 48) (lv' := [(0, .ref 27), (1, .int (nI c0)), (2, .int (nI fr)), (3, .int (gs_b (false))), (4, .int (nI (fr - 1 + i)))]) (st' := []) (w' := w) rfl ?_
        refine gd_it (by decide) ?_
        refine gd_r E K 2 (pc' := 49) (lv' := [(0, .ref 27), (1, .int (nI c0)), (2, .int (nI fr)), (3, .int (gs_b (false))), (4, .int (nI (fr - 1 + i)))]) (st' := [.int 1]) (w' := w) rfl ?_
        exact gd_zretq E hr hlk (K.1 49 (.ireturn, 0) rfl).1 (by decide) (by rw [← hres, hb]; rfl) (rfl)
    | succ j ih =>
      intro i hi
      refine gd_r E K 2 (pc' := 11) (lv' := [(0, .ref 27), (1, .int (nI c0)), (2, .int (nI fr)), (3, .int (gs_b (gs_any (fun i => gs_mt T cnt c0 (fr - 1 + i)) i))), (4, .int (nI (fr - 1 + i)))]) (st' := [.int 64, .int (nI (fr - 1 + i))]) (w' := w) rfl ?_
      refine gd_r E K 1 (pc' := if 64 ≤ (nI (fr - 1 + i)) then 40 else 14) (lv' := [(0, .ref 27), (1, .int (nI c0)), (2, .int (nI fr)), (3, .int (gs_b (gs_any (fun i => gs_mt T cnt c0 (fr - 1 + i)) i))), (4, .int (nI (fr - 1 + i)))]) (st' := []) (w' := w) rfl ?_
      refine gd_if (nI_ge (show fr - 1 + i < 64 by omega) (by decide)) ?_
      refine gd_r E K 1 (pc' := 15) (lv' := [(0, .ref 27), (1, .int (nI c0)), (2, .int (nI fr)), (3, .int (gs_b (gs_any (fun i => gs_mt T cnt c0 (fr - 1 + i)) i))), (4, .int (nI (fr - 1 + i)))]) (st' := [.int (gs_b (gs_any (fun i => gs_mt T cnt c0 (fr - 1 + i)) i))]) (w' := w) rfl ?_
      cases hb : gs_any (fun i => gs_mt T cnt c0 (fr - 1 + i)) i with
      | true =>
        refine gd_r E K 1 (pc' := if (gs_b (true)) = 0 then 18 else 28) (lv' := [(0, .ref 27), (1, .int (nI c0)), (2, .int (nI fr)), (3, .int (gs_b (true))), (4, .int (nI (fr - 1 + i)))]) (st' := []) (w' := w) rfl ?_
        refine gd_if (by decide) ?_
        refine gd_r E K 5 (pc' := 7) (lv' := [(0, .ref 27), (1, .int (nI c0)), (2, .int (nI fr)), (3, .int 1), (4, .int ((nI (fr - 1 + i)) + 1))]) (st' := []) (w' := w) rfl ?_
        exact gd_cg (ih (i + 1) (by omega)) (by rw [gs_any_s, hb, Bool.true_or, nI_1]; rfl) rfl rfl
      | false =>
        refine gd_r E K 1 (pc' := if (gs_b (false)) = 0 then 18 else 28) (lv' := [(0, .ref 27), (1, .int (nI c0)), (2, .int (nI fr)), (3, .int (gs_b (false))), (4, .int (nI (fr - 1 + i)))]) (st' := []) (w' := w) rfl ?_
        refine gd_it (by decide) ?_
        refine gd_r E K 3 (pc' := 22) (lv' := [(0, .ref 27), (1, .int (nI c0)), (2, .int (nI fr)), (3, .int (gs_b (false))), (4, .int (nI (fr - 1 + i)))]) (st' := [.int (nI (fr - 1 + i)), .int (nI c0), .ref 27]) (w' := w) rfl ?_
        refine gd_cV E hA (av := [.int (nI c0), .int (nI (fr - 1 + i))]) (rest := []) (c2_isMet hinj w hT c0 (fr - 1 + i) hc (by omega)) (K.1 22 (.invokevirtual 95, 0) rfl).1 ml_M_95 cv_M_isMet (by decide) (rfl) ⟨Nat.le_of_ble_eq_true rfl, Nat.le_of_ble_eq_true rfl⟩ ⟨Nat.zero_le _, Nat.zero_le _⟩ rfl (Nat.le_of_ble_eq_true rfl) ?_
        cases hx : gs_mt T cnt c0 (fr - 1 + i) with
        | true =>
          refine gd_r E K 1 (pc' := if (gs_b (true)) = 0 then 32 else 28) (lv' := [(0, .ref 27), (1, .int (nI c0)), (2, .int (nI fr)), (3, .int (gs_b (false))), (4, .int (nI (fr - 1 + i)))]) (st' := []) (w' := w) rfl ?_
          refine gd_if (by decide) ?_
          refine gd_r E K 5 (pc' := 7) (lv' := [(0, .ref 27), (1, .int (nI c0)), (2, .int (nI fr)), (3, .int 1), (4, .int ((nI (fr - 1 + i)) + 1))]) (st' := []) (w' := w) rfl ?_
          exact gd_cg (ih (i + 1) (by omega)) (by rw [gs_any_s, hb, hx, Bool.false_or, nI_1]; rfl) rfl rfl
        | false =>
          refine gd_r E K 1 (pc' := if (gs_b (false)) = 0 then 32 else 28) (lv' := [(0, .ref 27), (1, .int (nI c0)), (2, .int (nI fr)), (3, .int (gs_b (false))), (4, .int (nI (fr - 1 + i)))]) (st' := []) (w' := w) rfl ?_
          refine gd_it (by decide) ?_
          refine gd_r E K 4 (pc' := 7) (lv' := [(0, .ref 27), (1, .int (nI c0)), (2, .int (nI fr)), (3, .int 0), (4, .int ((nI (fr - 1 + i)) + 1))]) (st' := []) (w' := w) rfl ?_
          exact gd_cg (ih (i + 1) (by omega)) (by rw [gs_any_s, hb, hx, Bool.false_or, nI_1]; rfl) rfl rfl
  refine gd_r E K 6 (pc' := 7) (lv' := [(0, .ref 27), (1, .int (nI c0)), (2, .int (nI fr)), (3, .int 0), (4, .int ((nI fr) - 1))]) (st' := []) (w' := w) rfl ?_
  rcases Nat.eq_zero_or_pos fr with h0 | h0
  · subst h0
    refine gd_cg (lv' := [(0, .ref 27), (1, .int (nI c0)), (2, .int (nI 0)), (3, .int 0), (4, .int (-1))]) (st' := []) (w' := w) ?_ (by rfl) (rfl) (rfl)
    refine gd_r E K 8 (pc' := 22) (lv' := [(0, .ref 27), (1, .int (nI c0)), (2, .int (nI 0)), (3, .int 0), (4, .int (-1))]) (st' := [.int (-1), .int (nI c0), .ref 27]) (w' := w) rfl ?_
    refine gd_cV E hA (av := [.int (nI c0), .int (-1)]) (rest := []) (c2_isMetN hinj w hT c0) (K.1 22 (.invokevirtual 95, 0) rfl).1 ml_M_95 cv_M_isMet (by decide) (rfl) ⟨Nat.le_of_ble_eq_true rfl, Nat.le_of_ble_eq_true rfl⟩ ⟨Nat.zero_le _, Nat.zero_le _⟩ rfl (Nat.le_of_ble_eq_true rfl) ?_
    refine gd_r E K 5 (pc' := 7) (lv' := [(0, .ref 27), (1, .int (nI c0)), (2, .int (nI 0)), (3, .int 0), (4, .int ((-1) + 1))]) (st' := []) (w' := w) rfl ?_
    exact gd_cg (loop 64 0 (by omega)) (by rfl) rfl rfl
  · exact gd_cg (loop (64 - (fr - 1)) 0 (by omega)) (by rw [show (1 : Int32) = nI 1 from rfl, pk_sub h0]; rfl) rfl rfl
def gs_be (S : gs_T) (T : Nat → Nat → Option Nat) (cnt c n : Nat) : Bool := !decide (gs_k S c = 1) && !gs_mt T cnt c (n - 1) && !gs_mt T cnt c n && !gs_mt T cnt c (n + 1)
def gs_end (S : gs_T) (T : Nat → Nat → Option Nat) (cnt c n : Nat) (joins : Bool) : Bool := !decide (gs_k S c = 1) && (if joins then !gs_mt T cnt c (n - 1) && !gs_mt T cnt c n else !gs_mtR T cnt c (n - 1))
def gs_KK (w : gd_W) (S : gs_T) : Prop := ∀ c, c < 64 → w.1 28 c = nI (gs_k S c) ∧ gs_k S c < 8
set_option maxRecDepth 100000 in
theorem c2_canBe {l : Launch} {D : va_G} {tC : FieldType → ClassId} {ad : Nat → Nat} (hinj : ∀ i j, ad i = ad j → i = j) {S : gs_T} {cnt : Nat} {T : Nat → Nat → Option Nat} (w : gd_W) (hK : gs_KK w S) (hT : gs_tab w cnt T) (c0 n : Nat) (hc : c0 < 64) (h1n : 1 ≤ n) (hn : n ≤ 60) : gd_Ct l D tC ad 45 2 48 y_M_canBe c_M_canBe 3 (some .boolean) [.ref 27, .int (nI c0), .int (nI n)] w (some (.int (gs_b (gs_be S T cnt c0 n)))) w := by
  refine gd_Ct_of rfl hinj (Nat.le_of_ble_eq_true rfl) ?_
  intro p e s m args below meth c E hr hlk
  have K := k_M_canBe
  have hA : ∀ q, gd_A ad 45 s.heap.size q → gd_A ad 45 s.heap.size q := fun _ h => h
  obtain ⟨k1, k2⟩ := hK c0 hc
  refine gd_r E K 3 (pc' := 5) (lv' := [(0, .ref 27), (1, .int (nI c0)), (2, .int (nI n))]) (st' := [.int (nI c0), .ref 28]) (w' := w) rfl ?_
  refine gd_ialdv E (K.1 5 (.iaload, 0) rfl).1 (j := c0) (by decide) (rfl) (rfl) (hc) (by decide) (v := nI (gs_k S c0)) (k1) ?_
  refine gd_r E K 1 (pc' := 7) (lv' := [(0, .ref 27), (1, .int (nI c0)), (2, .int (nI n))]) (st' := [.int 1, .int (nI (gs_k S c0))]) (w' := w) rfl ?_
  by_cases hk : gs_k S c0 = 1
  · refine gd_r E K 1 (pc' := if (nI (gs_k S c0)) = 1 then 45 else 10) (lv' := [(0, .ref 27), (1, .int (nI c0)), (2, .int (nI n))]) (st' := []) (w' := w) rfl ?_
    refine gd_it (by rw [hk]; rfl) ?_
    refine gd_r E K 1 (pc' := 46) (lv' := [(0, .ref 27), (1, .int (nI c0)), (2, .int (nI n))]) (st' := [.int 0]) (w' := w) rfl ?_
    exact gd_zretq E hr hlk (K.1 46 (.ireturn, 0) rfl).1 (by decide) (by simp [gs_be, hk, gs_b]) (rfl)
  · refine gd_r E K 1 (pc' := if (nI (gs_k S c0)) = 1 then 45 else 10) (lv' := [(0, .ref 27), (1, .int (nI c0)), (2, .int (nI n))]) (st' := []) (w' := w) rfl ?_
    refine gd_if (by rw [show (1 : Int32) = nI 1 from rfl, nI_eq (by omega) (by decide)]; exact hk) ?_
    refine gd_r E K 5 (pc' := 15) (lv' := [(0, .ref 27), (1, .int (nI c0)), (2, .int (nI n))]) (st' := [.int ((nI n) - 1), .int (nI c0), .ref 27]) (w' := w) rfl ?_
    refine gd_cg (lv' := [(0, .ref 27), (1, .int (nI c0)), (2, .int (nI n))]) (st' := [.int (nI (n - 1)), .int (nI c0), .ref 27]) (w' := w) ?_ (rfl) (by rw [show (1 : Int32) = nI 1 from rfl, pk_sub h1n]) (rfl)
    refine gd_cV E hA (av := [.int (nI c0), .int (nI (n - 1))]) (rest := []) (c2_isMet hinj w hT c0 (n - 1) hc (by omega)) (K.1 15 (.invokevirtual 95, 0) rfl).1 ml_M_95 cv_M_isMet (by decide) (rfl) ⟨Nat.le_of_ble_eq_true rfl, Nat.le_of_ble_eq_true rfl⟩ ⟨Nat.zero_le _, Nat.zero_le _⟩ rfl (Nat.le_of_ble_eq_true rfl) ?_
    cases hx1 : gs_mt T cnt c0 (n - 1) with
    | true =>
      refine gd_r E K 1 (pc' := if (gs_b (true)) = 0 then 21 else 45) (lv' := [(0, .ref 27), (1, .int (nI c0)), (2, .int (nI n))]) (st' := []) (w' := w) rfl ?_
      refine gd_if (by decide) ?_
      refine gd_r E K 1 (pc' := 46) (lv' := [(0, .ref 27), (1, .int (nI c0)), (2, .int (nI n))]) (st' := [.int 0]) (w' := w) rfl ?_
      exact gd_zretq E hr hlk (K.1 46 (.ireturn, 0) rfl).1 (by decide) (by simp [gs_be, hk, hx1, gs_b]) (rfl)
    | false =>
      refine gd_r E K 1 (pc' := if (gs_b (false)) = 0 then 21 else 45) (lv' := [(0, .ref 27), (1, .int (nI c0)), (2, .int (nI n))]) (st' := []) (w' := w) rfl ?_
      refine gd_it (by decide) ?_
      refine gd_r E K 3 (pc' := 24) (lv' := [(0, .ref 27), (1, .int (nI c0)), (2, .int (nI n))]) (st' := [.int (nI n), .int (nI c0), .ref 27]) (w' := w) rfl ?_
      refine gd_cg (lv' := [(0, .ref 27), (1, .int (nI c0)), (2, .int (nI n))]) (st' := [.int (nI (n)), .int (nI c0), .ref 27]) (w' := w) ?_ (rfl) (by rfl) (rfl)
      refine gd_cV E hA (av := [.int (nI c0), .int (nI (n))]) (rest := []) (c2_isMet hinj w hT c0 (n) hc (by omega)) (K.1 24 (.invokevirtual 95, 0) rfl).1 ml_M_95 cv_M_isMet (by decide) (rfl) ⟨Nat.le_of_ble_eq_true rfl, Nat.le_of_ble_eq_true rfl⟩ ⟨Nat.zero_le _, Nat.zero_le _⟩ rfl (Nat.le_of_ble_eq_true rfl) ?_
      cases hx2 : gs_mt T cnt c0 (n) with
      | true =>
        refine gd_r E K 1 (pc' := if (gs_b (true)) = 0 then 30 else 45) (lv' := [(0, .ref 27), (1, .int (nI c0)), (2, .int (nI n))]) (st' := []) (w' := w) rfl ?_
        refine gd_if (by decide) ?_
        refine gd_r E K 1 (pc' := 46) (lv' := [(0, .ref 27), (1, .int (nI c0)), (2, .int (nI n))]) (st' := [.int 0]) (w' := w) rfl ?_
        exact gd_zretq E hr hlk (K.1 46 (.ireturn, 0) rfl).1 (by decide) (by simp [gs_be, hk, hx1, hx2, gs_b]) (rfl)
      | false =>
        refine gd_r E K 1 (pc' := if (gs_b (false)) = 0 then 30 else 45) (lv' := [(0, .ref 27), (1, .int (nI c0)), (2, .int (nI n))]) (st' := []) (w' := w) rfl ?_
        refine gd_it (by decide) ?_
        refine gd_r E K 5 (pc' := 35) (lv' := [(0, .ref 27), (1, .int (nI c0)), (2, .int (nI n))]) (st' := [.int ((nI n) + 1), .int (nI c0), .ref 27]) (w' := w) rfl ?_
        refine gd_cg (lv' := [(0, .ref 27), (1, .int (nI c0)), (2, .int (nI n))]) (st' := [.int (nI (n + 1)), .int (nI c0), .ref 27]) (w' := w) ?_ (rfl) (by rw [nI_1]) (rfl)
        refine gd_cV E hA (av := [.int (nI c0), .int (nI (n + 1))]) (rest := []) (c2_isMet hinj w hT c0 (n + 1) hc (by omega)) (K.1 35 (.invokevirtual 95, 0) rfl).1 ml_M_95 cv_M_isMet (by decide) (rfl) ⟨Nat.le_of_ble_eq_true rfl, Nat.le_of_ble_eq_true rfl⟩ ⟨Nat.zero_le _, Nat.zero_le _⟩ rfl (Nat.le_of_ble_eq_true rfl) ?_
        cases hx3 : gs_mt T cnt c0 (n + 1) with
        | true =>
          refine gd_r E K 1 (pc' := if (gs_b (true)) = 0 then 41 else 45) (lv' := [(0, .ref 27), (1, .int (nI c0)), (2, .int (nI n))]) (st' := []) (w' := w) rfl ?_
          refine gd_if (by decide) ?_
          refine gd_r E K 1 (pc' := 46) (lv' := [(0, .ref 27), (1, .int (nI c0)), (2, .int (nI n))]) (st' := [.int 0]) (w' := w) rfl ?_
          exact gd_zretq E hr hlk (K.1 46 (.ireturn, 0) rfl).1 (by decide) (by simp [gs_be, hk, hx1, hx2, hx3, gs_b]) (rfl)
        | false =>
          refine gd_r E K 1 (pc' := if (gs_b (false)) = 0 then 41 else 45) (lv' := [(0, .ref 27), (1, .int (nI c0)), (2, .int (nI n))]) (st' := []) (w' := w) rfl ?_
          refine gd_it (by decide) ?_
          refine gd_r E K 2 (pc' := 46) (lv' := [(0, .ref 27), (1, .int (nI c0)), (2, .int (nI n))]) (st' := [.int 1]) (w' := w) rfl ?_
          exact gd_zretq E hr hlk (K.1 46 (.ireturn, 0) rfl).1 (by decide) (by simp [gs_be, hk, hx1, hx2, hx3, gs_b]) (rfl)
set_option maxRecDepth 100000 in
theorem c2_canEndJ {l : Launch} {D : va_G} {tC : FieldType → ClassId} {ad : Nat → Nat} (hinj : ∀ i j, ad i = ad j → i = j) {S : gs_T} {cnt : Nat} {T : Nat → Nat → Option Nat} (w : gd_W) (hK : gs_KK w S) (hT : gs_tab w cnt T) (c0 n : Nat) (hc : c0 < 64) (h1n : 1 ≤ n) (hn : n ≤ 60) : gd_Ct l D tC ad 45 3 72 y_M_canEnd c_M_canEnd 4 (some .boolean) [.ref 27, .int (nI c0), .int (nI n), .int 1] w (some (.int (gs_b (gs_end S T cnt c0 n true)))) w := by
  refine gd_Ct_of rfl hinj (Nat.le_of_ble_eq_true rfl) ?_
  intro p e s m args below meth c E hr hlk
  have K := k_M_canEnd
  have hA : ∀ q, gd_A ad 45 s.heap.size q → gd_A ad 45 s.heap.size q := fun _ h => h
  obtain ⟨k1, k2⟩ := hK c0 hc
  refine gd_r E K 3 (pc' := 5) (lv' := [(0, .ref 27), (1, .int (nI c0)), (2, .int (nI n)), (3, .int 1)]) (st' := [.int (nI c0), .ref 28]) (w' := w) rfl ?_
  refine gd_ialdv E (K.1 5 (.iaload, 0) rfl).1 (j := c0) (by decide) (rfl) (rfl) (hc) (by decide) (v := nI (gs_k S c0)) (k1) ?_
  refine gd_r E K 1 (pc' := 7) (lv' := [(0, .ref 27), (1, .int (nI c0)), (2, .int (nI n)), (3, .int 1)]) (st' := [.int 1, .int (nI (gs_k S c0))]) (w' := w) rfl ?_
  by_cases hk : gs_k S c0 = 1
  · refine gd_r E K 1 (pc' := if (nI (gs_k S c0)) = 1 then 50 else 10) (lv' := [(0, .ref 27), (1, .int (nI c0)), (2, .int (nI n)), (3, .int 1)]) (st' := []) (w' := w) rfl ?_
    refine gd_it (by rw [hk]; rfl) ?_
    refine gd_r E K 1 (pc' := 51) (lv' := [(0, .ref 27), (1, .int (nI c0)), (2, .int (nI n)), (3, .int 1)]) (st' := [.int 0]) (w' := w) rfl ?_
    exact gd_zretq E hr hlk (K.1 51 (.ireturn, 0) rfl).1 (by decide) (by simp [gs_end, hk, gs_b]) (rfl)
  · refine gd_r E K 1 (pc' := if (nI (gs_k S c0)) = 1 then 50 else 10) (lv' := [(0, .ref 27), (1, .int (nI c0)), (2, .int (nI n)), (3, .int 1)]) (st' := []) (w' := w) rfl ?_
    refine gd_if (by rw [show (1 : Int32) = nI 1 from rfl, nI_eq (by omega) (by decide)]; exact hk) ?_
    refine gd_r E K 7 (pc' := 19) (lv' := [(0, .ref 27), (1, .int (nI c0)), (2, .int (nI n)), (3, .int 1)]) (st' := [.int ((nI n) - 1), .int (nI c0), .ref 27]) (w' := w) rfl ?_
    refine gd_cg (lv' := [(0, .ref 27), (1, .int (nI c0)), (2, .int (nI n)), (3, .int 1)]) (st' := [.int (nI (n - 1)), .int (nI c0), .ref 27]) (w' := w) ?_ (rfl) (by rw [show (1 : Int32) = nI 1 from rfl, pk_sub h1n]) (rfl)
    refine gd_cV E hA (av := [.int (nI c0), .int (nI (n - 1))]) (rest := []) (c2_isMet hinj w hT c0 (n - 1) hc (by omega)) (K.1 19 (.invokevirtual 95, 0) rfl).1 ml_M_95 cv_M_isMet (by decide) (rfl) ⟨Nat.le_of_ble_eq_true rfl, Nat.le_of_ble_eq_true rfl⟩ ⟨Nat.zero_le _, Nat.zero_le _⟩ rfl (Nat.le_of_ble_eq_true rfl) ?_
    cases hx1 : gs_mt T cnt c0 (n - 1) with
    | true =>
      refine gd_r E K 1 (pc' := if (gs_b (true)) = 0 then 25 else 50) (lv' := [(0, .ref 27), (1, .int (nI c0)), (2, .int (nI n)), (3, .int 1)]) (st' := []) (w' := w) rfl ?_
      refine gd_if (by decide) ?_
      refine gd_r E K 1 (pc' := 51) (lv' := [(0, .ref 27), (1, .int (nI c0)), (2, .int (nI n)), (3, .int 1)]) (st' := [.int 0]) (w' := w) rfl ?_
      exact gd_zretq E hr hlk (K.1 51 (.ireturn, 0) rfl).1 (by decide) (by simp [gs_end, hk, hx1, gs_b]) (rfl)
    | false =>
      refine gd_r E K 1 (pc' := if (gs_b (false)) = 0 then 25 else 50) (lv' := [(0, .ref 27), (1, .int (nI c0)), (2, .int (nI n)), (3, .int 1)]) (st' := []) (w' := w) rfl ?_
      refine gd_it (by decide) ?_
      refine gd_r E K 3 (pc' := 28) (lv' := [(0, .ref 27), (1, .int (nI c0)), (2, .int (nI n)), (3, .int 1)]) (st' := [.int (nI n), .int (nI c0), .ref 27]) (w' := w) rfl ?_
      refine gd_cg (lv' := [(0, .ref 27), (1, .int (nI c0)), (2, .int (nI n)), (3, .int 1)]) (st' := [.int (nI (n)), .int (nI c0), .ref 27]) (w' := w) ?_ (rfl) (by rfl) (rfl)
      refine gd_cV E hA (av := [.int (nI c0), .int (nI (n))]) (rest := []) (c2_isMet hinj w hT c0 (n) hc (by omega)) (K.1 28 (.invokevirtual 95, 0) rfl).1 ml_M_95 cv_M_isMet (by decide) (rfl) ⟨Nat.le_of_ble_eq_true rfl, Nat.le_of_ble_eq_true rfl⟩ ⟨Nat.zero_le _, Nat.zero_le _⟩ rfl (Nat.le_of_ble_eq_true rfl) ?_
      cases hx2 : gs_mt T cnt c0 (n) with
      | true =>
        refine gd_r E K 1 (pc' := if (gs_b (true)) = 0 then 34 else 50) (lv' := [(0, .ref 27), (1, .int (nI c0)), (2, .int (nI n)), (3, .int 1)]) (st' := []) (w' := w) rfl ?_
        refine gd_if (by decide) ?_
        refine gd_r E K 1 (pc' := 51) (lv' := [(0, .ref 27), (1, .int (nI c0)), (2, .int (nI n)), (3, .int 1)]) (st' := [.int 0]) (w' := w) rfl ?_
        exact gd_zretq E hr hlk (K.1 51 (.ireturn, 0) rfl).1 (by decide) (by simp [gs_end, hk, hx1, hx2, gs_b]) (rfl)
      | false =>
        refine gd_r E K 1 (pc' := if (gs_b (false)) = 0 then 34 else 50) (lv' := [(0, .ref 27), (1, .int (nI c0)), (2, .int (nI n)), (3, .int 1)]) (st' := []) (w' := w) rfl ?_
        refine gd_it (by decide) ?_
        refine gd_r E K 3 (pc' := 51) (lv' := [(0, .ref 27), (1, .int (nI c0)), (2, .int (nI n)), (3, .int 1)]) (st' := [.int 1]) (w' := w) rfl ?_
        exact gd_zretq E hr hlk (K.1 51 (.ireturn, 0) rfl).1 (by decide) (by simp [gs_end, hk, hx1, hx2, gs_b]) (rfl)
set_option maxRecDepth 100000 in
theorem c2_canEndS {l : Launch} {D : va_G} {tC : FieldType → ClassId} {ad : Nat → Nat} (hinj : ∀ i j, ad i = ad j → i = j) {S : gs_T} {cnt : Nat} {T : Nat → Nat → Option Nat} (w : gd_W) (hK : gs_KK w S) (hT : gs_tab w cnt T) (c0 n : Nat) (hc : c0 < 64) (hn : n ≤ 60) : gd_Ct l D tC ad 45 3 72 y_M_canEnd c_M_canEnd 4 (some .boolean) [.ref 27, .int (nI c0), .int (nI n), .int 0] w (some (.int (gs_b (gs_end S T cnt c0 n false)))) w := by
  refine gd_Ct_of rfl hinj (Nat.le_of_ble_eq_true rfl) ?_
  intro p e s m args below meth c E hr hlk
  have K := k_M_canEnd
  have hA : ∀ q, gd_A ad 45 s.heap.size q → gd_A ad 45 s.heap.size q := fun _ h => h
  obtain ⟨k1, k2⟩ := hK c0 hc
  refine gd_r E K 3 (pc' := 5) (lv' := [(0, .ref 27), (1, .int (nI c0)), (2, .int (nI n)), (3, .int 0)]) (st' := [.int (nI c0), .ref 28]) (w' := w) rfl ?_
  refine gd_ialdv E (K.1 5 (.iaload, 0) rfl).1 (j := c0) (by decide) (rfl) (rfl) (hc) (by decide) (v := nI (gs_k S c0)) (k1) ?_
  refine gd_r E K 1 (pc' := 7) (lv' := [(0, .ref 27), (1, .int (nI c0)), (2, .int (nI n)), (3, .int 0)]) (st' := [.int 1, .int (nI (gs_k S c0))]) (w' := w) rfl ?_
  by_cases hk : gs_k S c0 = 1
  · refine gd_r E K 1 (pc' := if (nI (gs_k S c0)) = 1 then 50 else 10) (lv' := [(0, .ref 27), (1, .int (nI c0)), (2, .int (nI n)), (3, .int 0)]) (st' := []) (w' := w) rfl ?_
    refine gd_it (by rw [hk]; rfl) ?_
    refine gd_r E K 1 (pc' := 51) (lv' := [(0, .ref 27), (1, .int (nI c0)), (2, .int (nI n)), (3, .int 0)]) (st' := [.int 0]) (w' := w) rfl ?_
    exact gd_zretq E hr hlk (K.1 51 (.ireturn, 0) rfl).1 (by decide) (by simp [gs_end, hk, gs_b]) (rfl)
  · refine gd_r E K 1 (pc' := if (nI (gs_k S c0)) = 1 then 50 else 10) (lv' := [(0, .ref 27), (1, .int (nI c0)), (2, .int (nI n)), (3, .int 0)]) (st' := []) (w' := w) rfl ?_
    refine gd_if (by rw [show (1 : Int32) = nI 1 from rfl, nI_eq (by omega) (by decide)]; exact hk) ?_
    refine gd_r E K 5 (pc' := 40) (lv' := [(0, .ref 27), (1, .int (nI c0)), (2, .int (nI n)), (3, .int 0)]) (st' := [.int (nI n), .int (nI c0), .ref 27]) (w' := w) rfl ?_
    refine gd_cV E hA (av := [.int (nI c0), .int (nI n)]) (rest := []) (c2_canRest hinj w hT c0 n hc hn) (K.1 40 (.invokevirtual 98, 0) rfl).1 ml_M_98 cv_M_canRest (by decide) (rfl) ⟨Nat.le_of_ble_eq_true rfl, Nat.le_of_ble_eq_true rfl⟩ ⟨Nat.zero_le _, Nat.zero_le _⟩ rfl (Nat.le_of_ble_eq_true rfl) ?_
    cases hx : gs_mtR T cnt c0 (n - 1) with
    | true =>
      refine gd_r E K 1 (pc' := if (gs_b (!true)) = 0 then 50 else 46) (lv' := [(0, .ref 27), (1, .int (nI c0)), (2, .int (nI n)), (3, .int 0)]) (st' := []) (w' := w) rfl ?_
      refine gd_it (by decide) ?_
      refine gd_r E K 1 (pc' := 51) (lv' := [(0, .ref 27), (1, .int (nI c0)), (2, .int (nI n)), (3, .int 0)]) (st' := [.int 0]) (w' := w) rfl ?_
      exact gd_zretq E hr hlk (K.1 51 (.ireturn, 0) rfl).1 (by decide) (by simp [gs_end, hk, hx, gs_b]) (rfl)
    | false =>
      refine gd_r E K 1 (pc' := if (gs_b (!false)) = 0 then 50 else 46) (lv' := [(0, .ref 27), (1, .int (nI c0)), (2, .int (nI n)), (3, .int 0)]) (st' := []) (w' := w) rfl ?_
      refine gd_if (by decide) ?_
      refine gd_r E K 2 (pc' := 51) (lv' := [(0, .ref 27), (1, .int (nI c0)), (2, .int (nI n)), (3, .int 0)]) (st' := [.int 1]) (w' := w) rfl ?_
      exact gd_zretq E hr hlk (K.1 51 (.ireturn, 0) rfl).1 (by decide) (by simp [gs_end, hk, hx, gs_b]) (rfl)
set_option maxRecDepth 100000 in
theorem c2_isNext {l : Launch} {D : va_G} {tC : FieldType → ClassId} {ad : Nat → Nat} (hinj : ∀ i j, ad i = ad j → i = j) (w : gd_W) (r : Nat → Bool) (c0 n : Nat) (hc : c0 < 64) (h1n : 1 ≤ n) (hn : n ≤ 61) (hr0 : ∀ b, b < 64 → w.1 42 (64 * (n - 1) + b) = gs_b (r b)) : gd_Ct l D tC ad 45 2 44 y_M_isNext c_M_isNext 6 (some .boolean) [.ref 27, .int (nI c0), .int (nI n)] w (some (.int (gs_b (gs_any (fun k => gs_atO r (gm_mv c0 k)) 5)))) w := by
  refine gd_Ct_of rfl hinj (Nat.le_of_ble_eq_true rfl) ?_
  intro p e s m args below meth c E hr hlk
  have K := k_M_isNext
  have hA : ∀ q, gd_A ad 45 s.heap.size q → gd_A ad 45 s.heap.size q := fun _ h => h
  have loop : ∀ j k, k + j = 5 → gd_G p l e (gd_rm 2 44) s m args below meth c D tC ad (gd_A ad 45 s.heap.size) 45 6 0 0 (MQ below (gd_Q D tC ad 45 s.heap.size (some (.int (gs_b (gs_any (fun k => gs_atO r (gm_mv c0 k)) 5)))) w) args s 0 0 (gd_A ad 45 s.heap.size)) 5 [(0, .ref 27), (1, .int (nI c0)), (2, .int (nI n)), (3, .int (gs_b (gs_any (fun k => gs_atO r (gm_mv c0 k)) k))), (4, .int (nI k))] [] w := by
    intro j
    induction j with
    | zero =>
      intro k hk
      refine gd_r E K 2 (pc' := 8) (lv' := [(0, .ref 27), (1, .int (nI c0)), (2, .int (nI n)), (3, .int (gs_b (gs_any (fun k => gs_atO r (gm_mv c0 k)) k))), (4, .int (nI k))]) (st' := [.int 5, .int (nI k)]) (w' := w) rfl ?_
      refine gd_r E K 1 (pc' := if 5 ≤ (nI k) then 57 else 11) (lv' := [(0, .ref 27), (1, .int (nI c0)), (2, .int (nI n)), (3, .int (gs_b (gs_any (fun k => gs_atO r (gm_mv c0 k)) k))), (4, .int (nI k))]) (st' := []) (w' := w) rfl ?_
      refine gd_it (nI_le (show 5 ≤ k by omega) (by omega)) ?_
      refine gd_r E K 1 (pc' := 58) (lv' := [(0, .ref 27), (1, .int (nI c0)), (2, .int (nI n)), (3, .int (gs_b (gs_any (fun k => gs_atO r (gm_mv c0 k)) k))), (4, .int (nI k))]) (st' := [.int (gs_b (gs_any (fun k => gs_atO r (gm_mv c0 k)) k))]) (w' := w) rfl ?_
      exact gd_zretq E hr hlk (K.1 58 (.ireturn, 0) rfl).1 (gs_b_01 _) (by rw [show k = 5 by omega]) (rfl)
    | succ j ih =>
      intro k hk
      refine gd_r E K 2 (pc' := 8) (lv' := [(0, .ref 27), (1, .int (nI c0)), (2, .int (nI n)), (3, .int (gs_b (gs_any (fun k => gs_atO r (gm_mv c0 k)) k))), (4, .int (nI k))]) (st' := [.int 5, .int (nI k)]) (w' := w) rfl ?_
      refine gd_r E K 1 (pc' := if 5 ≤ (nI k) then 57 else 11) (lv' := [(0, .ref 27), (1, .int (nI c0)), (2, .int (nI n)), (3, .int (gs_b (gs_any (fun k => gs_atO r (gm_mv c0 k)) k))), (4, .int (nI k))]) (st' := []) (w' := w) rfl ?_
      refine gd_if (nI_ge (show k < 5 by omega) (by decide)) ?_
      refine gd_r E K 2 (pc' := 14) (lv' := [(0, .ref 27), (1, .int (nI c0)), (2, .int (nI n)), (3, .int (gs_b (gs_any (fun k => gs_atO r (gm_mv c0 k)) k))), (4, .int (nI k))]) (st' := [.int (nI k), .int (nI c0)]) (w' := w) rfl ?_
      refine gd_cS E hA (av := [.int (nI c0), .int (nI k)]) (rest := []) (c2_moved hinj c0 k hc (by omega) w) (K.1 14 (.invokestatic 82, 0) rfl).1 ml_M_82 cv_M_moved ⟨Nat.le_of_ble_eq_true rfl, Nat.le_of_ble_eq_true rfl⟩ ⟨Nat.zero_le _, Nat.zero_le _⟩ rfl (Nat.le_of_ble_eq_true rfl) ?_
      refine gd_r E K 2 (pc' := 20) (lv' := [(0, .ref 27), (1, .int (nI c0)), (2, .int (nI n)), (3, .int (gs_b (gs_any (fun k => gs_atO r (gm_mv c0 k)) k))), (4, .int (nI k)), (5, .int (gm_nO (gm_mv c0 k)))]) (st' := [.int (gs_b (gs_any (fun k => gs_atO r (gm_mv c0 k)) k))]) (w' := w) rfl ?_
      cases hb : gs_any (fun k => gs_atO r (gm_mv c0 k)) k with
      | true =>
        refine gd_r E K 1 (pc' := if (gs_b (true)) = 0 then 23 else 45) (lv' := [(0, .ref 27), (1, .int (nI c0)), (2, .int (nI n)), (3, .int (gs_b (true))), (4, .int (nI k)), (5, .int (gm_nO (gm_mv c0 k)))]) (st' := []) (w' := w) rfl ?_
        refine gd_if (by decide) ?_
        refine gd_r E K 5 (pc' := 5) (lv' := [(0, .ref 27), (1, .int (nI c0)), (2, .int (nI n)), (3, .int 1), (4, .int ((nI k) + 1)), (5, .int (gm_nO (gm_mv c0 k)))]) (st' := []) (w' := w) rfl ?_
        refine gd_lvp [0, 1, 2, 3, 4] (lv' := [(0, .ref 27), (1, .int (nI c0)), (2, .int (nI n)), (3, .int 1), (4, .int ((nI k) + 1))]) rfl ?_
        exact gd_cg (ih (k + 1) (by omega)) (by rw [gs_any_s, hb, Bool.true_or, nI_1]; rfl) rfl rfl
      | false =>
        refine gd_r E K 1 (pc' := if (gs_b (false)) = 0 then 23 else 45) (lv' := [(0, .ref 27), (1, .int (nI c0)), (2, .int (nI n)), (3, .int (gs_b (false))), (4, .int (nI k)), (5, .int (gm_nO (gm_mv c0 k)))]) (st' := []) (w' := w) rfl ?_
        refine gd_it (by decide) ?_
        refine gd_r E K 1 (pc' := 25) (lv' := [(0, .ref 27), (1, .int (nI c0)), (2, .int (nI n)), (3, .int (gs_b (false))), (4, .int (nI k)), (5, .int (gm_nO (gm_mv c0 k)))]) (st' := [.int (gm_nO (gm_mv c0 k))]) (w' := w) rfl ?_
        cases ht : gm_mv c0 k with
        | none =>
          refine gd_r E K 1 (pc' := if (gm_nO (none)) < 0 then 49 else 28) (lv' := [(0, .ref 27), (1, .int (nI c0)), (2, .int (nI n)), (3, .int (gs_b (false))), (4, .int (nI k)), (5, .int (gm_nO (none)))]) (st' := []) (w' := w) rfl ?_
          refine gd_it (by decide) ?_
          refine gd_r E K 4 (pc' := 5) (lv' := [(0, .ref 27), (1, .int (nI c0)), (2, .int (nI n)), (3, .int 0), (4, .int ((nI k) + 1)), (5, .int (gm_nO (none)))]) (st' := []) (w' := w) rfl ?_
          refine gd_lvp [0, 1, 2, 3, 4] (lv' := [(0, .ref 27), (1, .int (nI c0)), (2, .int (nI n)), (3, .int 0), (4, .int ((nI k) + 1))]) rfl ?_
          exact gd_cg (ih (k + 1) (by omega)) (by rw [gs_any_s, hb, ht, Bool.false_or, gs_atO, nI_1]; rfl) rfl rfl
        | some b =>
          have hbb := gm_mv_lt hc ht
          refine gd_r E K 1 (pc' := if (gm_nO (some b)) < 0 then 49 else 28) (lv' := [(0, .ref 27), (1, .int (nI c0)), (2, .int (nI n)), (3, .int (gs_b (false))), (4, .int (nI k)), (5, .int (gm_nO (some b)))]) (st' := []) (w' := w) rfl ?_
          refine gd_if (gm_nO_some (by omega)) ?_
          refine gd_r E K 9 (pc' := 41) (lv' := [(0, .ref 27), (1, .int (nI c0)), (2, .int (nI n)), (3, .int (gs_b (false))), (4, .int (nI k)), (5, .int (gm_nO (some b)))]) (st' := [.int ((64 * ((nI n) - 1)) + (gm_nO (some b))), .ref 42]) (w' := w) rfl ?_
          refine gd_zaldv E (K.1 41 (.baload, 0) rfl).1 (j := 64 * (n - 1) + b) (by decide) (rfl) (by rw [show (64 : Int32) = nI 64 from rfl, show (1 : Int32) = nI 1 from rfl, pk_sub h1n, pk_mul, gm_nO, nI_add]) (by omega) (by decide) (v := gs_b (r b)) (hr0 b hbb) ?_
          cases hx : r b with
          | true =>
            refine gd_r E K 1 (pc' := if (gs_b (true)) = 0 then 49 else 45) (lv' := [(0, .ref 27), (1, .int (nI c0)), (2, .int (nI n)), (3, .int (gs_b (false))), (4, .int (nI k)), (5, .int (gm_nO (some b)))]) (st' := []) (w' := w) rfl ?_
            refine gd_if (by decide) ?_
            refine gd_r E K 5 (pc' := 5) (lv' := [(0, .ref 27), (1, .int (nI c0)), (2, .int (nI n)), (3, .int 1), (4, .int ((nI k) + 1)), (5, .int (gm_nO (some b)))]) (st' := []) (w' := w) rfl ?_
            refine gd_lvp [0, 1, 2, 3, 4] (lv' := [(0, .ref 27), (1, .int (nI c0)), (2, .int (nI n)), (3, .int 1), (4, .int ((nI k) + 1))]) rfl ?_
            exact gd_cg (ih (k + 1) (by omega)) (by rw [gs_any_s, hb, ht, Bool.false_or, gs_atO, hx, nI_1]; rfl) rfl rfl
          | false =>
            refine gd_r E K 1 (pc' := if (gs_b (false)) = 0 then 49 else 45) (lv' := [(0, .ref 27), (1, .int (nI c0)), (2, .int (nI n)), (3, .int (gs_b (false))), (4, .int (nI k)), (5, .int (gm_nO (some b)))]) (st' := []) (w' := w) rfl ?_
            refine gd_it (by decide) ?_
            refine gd_r E K 4 (pc' := 5) (lv' := [(0, .ref 27), (1, .int (nI c0)), (2, .int (nI n)), (3, .int 0), (4, .int ((nI k) + 1)), (5, .int (gm_nO (some b)))]) (st' := []) (w' := w) rfl ?_
            refine gd_lvp [0, 1, 2, 3, 4] (lv' := [(0, .ref 27), (1, .int (nI c0)), (2, .int (nI n)), (3, .int 0), (4, .int ((nI k) + 1))]) rfl ?_
            exact gd_cg (ih (k + 1) (by omega)) (by rw [gs_any_s, hb, ht, Bool.false_or, gs_atO, hx, nI_1]; rfl) rfl rfl
  refine gd_r E K 4 (pc' := 5) (lv' := [(0, .ref 27), (1, .int (nI c0)), (2, .int (nI n)), (3, .int 0), (4, .int 0)]) (st' := []) (w' := w) rfl ?_
  exact gd_cg (loop 5 0 (by omega)) rfl rfl rfl
end
section
/-- only the table of places and its count have changed -/
def gf_fs (w w' : gd_W) : Prop := (∀ a, a ≠ 27 → a ≠ 41 → w'.1 a = w.1 a) ∧ (∀ j, j ≠ 19 → w'.1 27 j = w.1 27 j) ∧ w'.2 = w.2
theorem gf_fs.refl (w : gd_W) : gf_fs w w := ⟨fun _ _ _ => rfl, fun _ _ => rfl, rfl⟩
theorem gf_fs.trans {a b c : gd_W} (h : gf_fs a b) (k : gf_fs b c) : gf_fs a c := ⟨fun x h1 h2 => (k.1 x h1 h2).trans (h.1 x h1 h2), fun j hj => (k.2.1 j hj).trans (h.2.1 j hj), k.2.2.trans h.2.2⟩
theorem gf_fs.t41 (w : gd_W) (f : Nat → Int32) : gf_fs w (gd_rI w 41 f) := ⟨fun a _ h => gd_rI_n h, fun j _ => by rw [gd_rI_n (by decide)], rfl⟩
theorem gf_fs.t19 (w : gd_W) (x : Int32) : gf_fs w (gd_rI w 27 (upd (w.1 27) 19 x)) := ⟨fun a h _ => gd_rI_n h, fun j hj => by rw [gd_rI_s, gd_u_n hj], rfl⟩
theorem gf_fs.M {w w' : gd_W} {S : gs_T} {G : Nat → Nat} (h : gf_fs w w') (k : gr_M w S G) : gr_M w' S G := by
  obtain ⟨h1, h2, h3⟩ := h
  unfold gr_M at k ⊢
  rw [h2 3 (by decide), h2 1 (by decide), h2 12 (by decide), h2 13 (by decide), h2 14 (by decide), h1 29 (by decide) (by decide), h1 30 (by decide) (by decide), h1 34 (by decide) (by decide), h1 35 (by decide) (by decide), h1 33 (by decide) (by decide), h1 36 (by decide) (by decide), h1 28 (by decide) (by decide), h1 32 (by decide) (by decide), h1 37 (by decide) (by decide), h1 38 (by decide) (by decide), h1 39 (by decide) (by decide), h1 40 (by decide) (by decide), h3]
  exact k
/-- the others: the droplets but d and e, by rising number, among the first n -/
def gs_ot (U : Nat → Nat) (d e : Option Nat) : Nat → List Nat
  | 0 => []
  | n + 1 => if 0 < U n ∧ d ≠ some n ∧ e ≠ some n then gs_ot U d e n ++ [n] else gs_ot U d e n
theorem gs_ot_len (U : Nat → Nat) (d e : Option Nat) : ∀ n, (gs_ot U d e n).length ≤ gs_cnt U n
  | 0 => Nat.le_refl _
  | n + 1 => by
    have := gs_ot_len U d e n
    rw [gs_ot, gs_cnt]
    by_cases h : 0 < U n
    · rw [if_pos h]; split
      · rw [List.length_append]; simp only [List.length_singleton]; omega
      · omega
    · rw [if_neg (fun z => h z.1), if_neg h]; exact this
theorem gs_cnt_mono (U : Nat → Nat) {a b : Nat} (h : a ≤ b) : gs_cnt U a ≤ gs_cnt U b := by
  induction h with
  | refl => exact Nat.le_refl _
  | step _ ih => rw [gs_cnt]; split <;> omega
def gs_rows (S : gs_T) (l : List Nat) (w : gd_W) : Prop := ∀ i x, l[i]? = some x → ∀ n, n < 64 → w.1 41 (64 * i + n) = gm_nO (gs_pos S x n)
def gs_fi (S : gs_T) (l : List Nat) (w w1 : gd_W) : Prop := gf_fs w w1 ∧ w1.1 27 19 = nI l.length ∧ gs_rows S l w1
def gs_fj (S : gs_T) (l : List Nat) (k n : Nat) (w w2 : gd_W) : Prop := gs_fi S l w w2 ∧ ∀ i, i < n → w2.1 41 (64 * l.length + i) = gm_nO (gs_pos S k i)
theorem gs_fj_step {S : gs_T} {l : List Nat} {k n : Nat} {w w2 : gd_W} (h : gs_fj S l k n w w2) : gs_fj S l k (n + 1) w (gd_rI w2 41 (upd (w2.1 41) (64 * l.length + n) (gm_nO (gs_pos S k n)))) := by
  obtain ⟨⟨h1, h2, h3⟩, h4⟩ := h
  refine ⟨⟨h1.trans (gf_fs.t41 _ _), by rw [gd_rI_n (by decide)]; exact h2, fun i x hx j hj => ?_⟩, fun i hi => ?_⟩
  · have hl : i < l.length := (List.getElem?_eq_some_iff.mp hx).1
    rw [gd_rI_s, gd_u_n (by omega)]
    exact h3 i x hx j hj
  · rw [gd_rI_s]
    by_cases e : i = n
    · subst e; rw [gd_u_s]
    · rw [gd_u_n (by omega)]; exact h4 i (by omega)
theorem gs_fj_end {S : gs_T} {l : List Nat} {k : Nat} {w w2 : gd_W} (h : gs_fj S l k 64 w w2) : gs_fi S (l ++ [k]) w (gd_rI w2 27 (upd (w2.1 27) 19 (nI l.length + 1))) := by
  obtain ⟨⟨h1, h2, h3⟩, h4⟩ := h
  refine ⟨h1.trans (gf_fs.t19 _ _), by rw [gd_rI_s, gd_u_s, nI_1, List.length_append]; rfl, fun i x hx n hn => ?_⟩
  rw [gd_rI_n (by decide)]
  by_cases hi : i < l.length
  · rw [List.getElem?_append_left hi] at hx
    exact h3 i x hx n hn
  · rw [List.getElem?_append_right (by omega)] at hx
    have hz : i - l.length < 1 := (List.getElem?_eq_some_iff.mp hx).1
    have hi2 : i = l.length := by omega
    subst hi2
    rw [Nat.sub_self] at hx
    cases hx
    exact h4 n hn
theorem gm_nO_eq {k : Nat} {d : Option Nat} (hk : k < 2 ^ 31) (hd : ∀ x, d = some x → x < 2 ^ 31) : nI k = gm_nO d ↔ d = some k := by
  cases d with
  | none =>
    constructor
    · intro h
      exact absurd (show nI k < 0 by rw [h]; decide) (nI_pos hk)
    · intro h; cases h
  | some x =>
    show nI k = nI x ↔ _
    rw [nI_eq hk (hd x rfl)]
    exact ⟨fun h => by rw [h], fun h => (Option.some.inj h).symm⟩
/-- the others' table, as gs_tab has it -/
def gs_T2 (S : gs_T) (d e : Option Nat) (k n : Nat) : Option Nat := gs_pos S ((gs_ot (gs_u S) d e (gs_made S)).getD k 0) n
theorem gs_pos_lt {S : gs_T} {d n b : Nat} (hv : gv_way S d) (h : gs_pos S d n = some b) : b < 64 := by
  unfold gs_pos at h
  split at h
  · cases h
  · obtain ⟨x, hx, hw⟩ := hv (min n (gs_l S d)) (by omega)
    rw [hw] at h
    cases h
    exact hx
theorem gs_ot_mem (U : Nat → Nat) (d e : Option Nat) : ∀ {n x : Nat}, x ∈ gs_ot U d e n ↔ x < n ∧ 0 < U x ∧ d ≠ some x ∧ e ≠ some x
  | 0, x => by simp [gs_ot]
  | n + 1, x => by
    rw [gs_ot]
    split
    · rename_i h
      rw [List.mem_append, gs_ot_mem U d e, List.mem_singleton]
      constructor
      · rintro (⟨h1, h2⟩ | rfl)
        · exact ⟨by omega, h2⟩
        · exact ⟨by omega, h⟩
      · rintro ⟨h1, h2⟩
        by_cases e0 : x = n
        · exact Or.inr e0
        · exact Or.inl ⟨by omega, h2⟩
    · rename_i h
      rw [gs_ot_mem U d e]
      constructor
      · rintro ⟨h1, h2⟩
        exact ⟨by omega, h2⟩
      · rintro ⟨h1, h2⟩
        by_cases e0 : x = n
        · subst e0; exact absurd h2 h
        · exact ⟨by omega, h2⟩
theorem gs_fi_tab {S : gs_T} {d e : Option Nat} {w w1 : gd_W} (h : gs_fi S (gs_ot (gs_u S) d e (gs_made S)) w w1) (hc : gs_cnt (gs_u S) (gs_made S) ≤ 6) (hv : ∀ k, gs_alive S k → gv_way S k) : gs_tab w1 (gs_ot (gs_u S) d e (gs_made S)).length (gs_T2 S d e) := by
  obtain ⟨-, h2, h3⟩ := h
  refine ⟨⟨h2, Nat.le_trans (gs_ot_len _ _ _ _) hc⟩, fun n hn k hk => ?_⟩
  have hx := List.getElem?_eq_getElem hk
  have e1 : (gs_ot (gs_u S) d e (gs_made S)).getD k 0 = (gs_ot (gs_u S) d e (gs_made S))[k] := by rw [List.getD_eq_getElem?_getD, hx]; rfl
  unfold gs_T2
  rw [e1]
  refine ⟨h3 k _ hx n hn, fun b hb => ?_⟩
  have hm := (gs_ot_mem (gs_u S) d e).mp (List.getElem_mem hk)
  exact gs_pos_lt (hv _ ⟨hm.1, hm.2.1⟩) hb
set_option maxRecDepth 100000 in
theorem c2_foresee {l : Launch} {D : va_G} {tC : FieldType → ClassId} {ad : Nat → Nat} (hinj : ∀ i j, ad i = ad j → i = j) {S : gs_T} {G : Nat → Nat} (w : gd_W) (hR : gr_M w S G) (hc6 : gs_cnt (gs_u S) (gs_made S) ≤ 6) (hv : ∀ k, gs_alive S k → gv_way S k) (d e : Option Nat) (hd : ∀ x, d = some x → x < 60) (he : ∀ x, e = some x → x < 60) : gd_Cp l D tC ad 45 3 68 y_M_foresee c_M_foresee 5 none [.ref 27, .int (gm_nO d), .int (gm_nO e)] w (fun r w' => r = none ∧ gs_fi S (gs_ot (gs_u S) d e (gs_made S)) w w') := by
  refine gd_Cp_of rfl hinj (Nat.le_of_ble_eq_true rfl) ?_
  intro p e0 s m args below meth c E hr hlk
  have K := k_M_foresee
  have hA : ∀ q, gd_A ad 45 s.heap.size q → gd_A ad 45 s.heap.size q := fun _ h => h
  have hN := hR.1.2
  have loop : ∀ j k w1, k + j = gs_made S → gs_fi S (gs_ot (gs_u S) d e k) w w1 → gd_G p l e0 (gd_rm 3 68) s m args below meth c D tC ad (gd_A ad 45 s.heap.size) 45 5 0 0 (MQ below (gd_Qp D tC ad 45 s.heap.size (fun r w' => r = none ∧ gs_fi S (gs_ot (gs_u S) d e (gs_made S)) w w')) args s 0 0 (gd_A ad 45 s.heap.size)) 7 [(0, .ref 27), (1, .int (gm_nO d)), (2, .int (gm_nO e)), (3, .int (nI k))] [] w1 := by
    intro j
    induction j with
    | zero =>
      intro k w1 hk hi
      refine gd_r E K 3 (pc' := 12) (lv' := [(0, .ref 27), (1, .int (gm_nO d)), (2, .int (gm_nO e)), (3, .int (nI k))]) (st' := [.int (w1.1 27 3), .int (nI k)]) (w' := w1) rfl ?_
      refine gd_cg (lv' := [(0, .ref 27), (1, .int (gm_nO d)), (2, .int (gm_nO e)), (3, .int (nI k))]) (st' := [.int (nI (gs_made S)), .int (nI k)]) (w' := w1) ?_ (rfl) (by simp only [(hi.1.M hR).1.1]) rfl
      refine gd_r E K 1 (pc' := if (nI (gs_made S)) ≤ (nI k) then 88 else 15) (lv' := [(0, .ref 27), (1, .int (gm_nO d)), (2, .int (gm_nO e)), (3, .int (nI k))]) (st' := []) (w' := w1) rfl ?_
      refine gd_it (nI_le (by omega) (by omega)) ?_
      have hkN : k = gs_made S := by omega
      exact gd_vretp E hr hlk (K.1 88 (.return_, 0) rfl).1 (⟨rfl, by rw [show gs_made S = k by omega]; exact hi⟩)
    | succ j ih =>
      intro k w1 hk hi
      have hR1 := hi.1.M hR
      obtain ⟨u1, u2⟩ := hR1.2.1 k (by omega)
      refine gd_r E K 3 (pc' := 12) (lv' := [(0, .ref 27), (1, .int (gm_nO d)), (2, .int (gm_nO e)), (3, .int (nI k))]) (st' := [.int (w1.1 27 3), .int (nI k)]) (w' := w1) rfl ?_
      refine gd_cg (lv' := [(0, .ref 27), (1, .int (gm_nO d)), (2, .int (gm_nO e)), (3, .int (nI k))]) (st' := [.int (nI (gs_made S)), .int (nI k)]) (w' := w1) ?_ (rfl) (by simp only [(hi.1.M hR).1.1]) rfl
      refine gd_r E K 1 (pc' := if (nI (gs_made S)) ≤ (nI k) then 88 else 15) (lv' := [(0, .ref 27), (1, .int (gm_nO d)), (2, .int (gm_nO e)), (3, .int (nI k))]) (st' := []) (w' := w1) rfl ?_
      refine gd_if (nI_ge (by omega) (by omega)) ?_
      refine gd_r E K 3 (pc' := 20) (lv' := [(0, .ref 27), (1, .int (gm_nO d)), (2, .int (gm_nO e)), (3, .int (nI k))]) (st' := [.int (nI k), .ref 29]) (w' := w1) rfl ?_
      refine gd_ialdv E (K.1 20 (.iaload, 0) rfl).1 (j := k) (by decide) (rfl) (rfl) (by omega) (by decide) (v := nI (gs_u S k)) (u1) ?_
      rcases Nat.eq_zero_or_pos (gs_u S k) with h0 | h0
      · refine gd_r E K 1 (pc' := if (nI (gs_u S k)) ≤ 0 then 82 else 24) (lv' := [(0, .ref 27), (1, .int (gm_nO d)), (2, .int (gm_nO e)), (3, .int (nI k))]) (st' := []) (w' := w1) rfl ?_
        refine gd_it ((gd_le0 (by omega)).mpr h0) ?_
        refine gd_r E K 2 (pc' := 7) (lv' := [(0, .ref 27), (1, .int (gm_nO d)), (2, .int (gm_nO e)), (3, .int ((nI k) + 1))]) (st' := []) (w' := w1) rfl ?_
        exact gd_cg (ih (k + 1) w1 (by omega) (by rw [gs_ot, if_neg (fun x => by omega)]; exact hi)) (by rw [nI_1]) rfl rfl
      · refine gd_r E K 1 (pc' := if (nI (gs_u S k)) ≤ 0 then 82 else 24) (lv' := [(0, .ref 27), (1, .int (gm_nO d)), (2, .int (gm_nO e)), (3, .int (nI k))]) (st' := []) (w' := w1) rfl ?_
        refine gd_if (fun q => absurd ((gd_le0 (by omega)).mp q) (by omega)) ?_
        refine gd_r E K 2 (pc' := 26) (lv' := [(0, .ref 27), (1, .int (gm_nO d)), (2, .int (gm_nO e)), (3, .int (nI k))]) (st' := [.int (gm_nO d), .int (nI k)]) (w' := w1) rfl ?_
        by_cases hdk : d = some k
        · refine gd_r E K 1 (pc' := if (nI k) = (gm_nO d) then 82 else 29) (lv' := [(0, .ref 27), (1, .int (gm_nO d)), (2, .int (gm_nO e)), (3, .int (nI k))]) (st' := []) (w' := w1) rfl ?_
          refine gd_it ((gm_nO_eq (by omega) (fun x hx => by have := hd x hx; omega)).mpr hdk) ?_
          refine gd_r E K 2 (pc' := 7) (lv' := [(0, .ref 27), (1, .int (gm_nO d)), (2, .int (gm_nO e)), (3, .int ((nI k) + 1))]) (st' := []) (w' := w1) rfl ?_
          exact gd_cg (ih (k + 1) w1 (by omega) (by rw [gs_ot, if_neg (fun x => x.2.1 hdk)]; exact hi)) (by rw [nI_1]) rfl rfl
        · refine gd_r E K 1 (pc' := if (nI k) = (gm_nO d) then 82 else 29) (lv' := [(0, .ref 27), (1, .int (gm_nO d)), (2, .int (gm_nO e)), (3, .int (nI k))]) (st' := []) (w' := w1) rfl ?_
          refine gd_if (fun q => hdk ((gm_nO_eq (by omega) (fun x hx => by have := hd x hx; omega)).mp q)) ?_
          refine gd_r E K 2 (pc' := 31) (lv' := [(0, .ref 27), (1, .int (gm_nO d)), (2, .int (gm_nO e)), (3, .int (nI k))]) (st' := [.int (gm_nO e), .int (nI k)]) (w' := w1) rfl ?_
          by_cases hek : e = some k
          · refine gd_r E K 1 (pc' := if (nI k) = (gm_nO e) then 82 else 34) (lv' := [(0, .ref 27), (1, .int (gm_nO d)), (2, .int (gm_nO e)), (3, .int (nI k))]) (st' := []) (w' := w1) rfl ?_
            refine gd_it ((gm_nO_eq (by omega) (fun x hx => by have := he x hx; omega)).mpr hek) ?_
            refine gd_r E K 2 (pc' := 7) (lv' := [(0, .ref 27), (1, .int (gm_nO d)), (2, .int (gm_nO e)), (3, .int ((nI k) + 1))]) (st' := []) (w' := w1) rfl ?_
            exact gd_cg (ih (k + 1) w1 (by omega) (by rw [gs_ot, if_neg (fun x => x.2.2 hek)]; exact hi)) (by rw [nI_1]) rfl rfl
          · refine gd_r E K 1 (pc' := if (nI k) = (gm_nO e) then 82 else 34) (lv' := [(0, .ref 27), (1, .int (gm_nO d)), (2, .int (gm_nO e)), (3, .int (nI k))]) (st' := []) (w' := w1) rfl ?_
            refine gd_if (fun q => hek ((gm_nO_eq (by omega) (fun x hx => by have := he x hx; omega)).mp q)) ?_
            refine gd_r E K 2 (pc' := 37) (lv' := [(0, .ref 27), (1, .int (gm_nO d)), (2, .int (gm_nO e)), (3, .int (nI k)), (4, .int 0)]) (st' := []) (w' := w1) rfl ?_
            have hlen : (gs_ot (gs_u S) d e k).length ≤ 5 := by
              have := gs_ot_len (gs_u S) d e k
              have h2 := gs_cnt_mono (gs_u S) (show k + 1 ≤ gs_made S by omega)
              rw [gs_cnt, if_pos h0] at h2
              omega
            have inner : ∀ i n w2, n + i = 64 → gs_fj S (gs_ot (gs_u S) d e k) k n w w2 → gd_G p l e0 (gd_rm 3 68) s m args below meth c D tC ad (gd_A ad 45 s.heap.size) 45 5 0 0 (MQ below (gd_Qp D tC ad 45 s.heap.size (fun r w' => r = none ∧ gs_fi S (gs_ot (gs_u S) d e (gs_made S)) w w')) args s 0 0 (gd_A ad 45 s.heap.size)) 37 [(0, .ref 27), (1, .int (gm_nO d)), (2, .int (gm_nO e)), (3, .int (nI k)), (4, .int (nI n))] [] w2 := by
              intro i
              induction i with
              | zero =>
                intro n w2 hn hj
                refine gd_r E K 2 (pc' := 41) (lv' := [(0, .ref 27), (1, .int (gm_nO d)), (2, .int (gm_nO e)), (3, .int (nI k)), (4, .int (nI n))]) (st' := [.int 64, .int (nI n)]) (w' := w2) rfl ?_
                refine gd_r E K 1 (pc' := if 64 ≤ (nI n) then 72 else 44) (lv' := [(0, .ref 27), (1, .int (gm_nO d)), (2, .int (gm_nO e)), (3, .int (nI k)), (4, .int (nI n))]) (st' := []) (w' := w2) rfl ?_
                refine gd_it (nI_le (show 64 ≤ n by omega) (by omega)) ?_
                refine gd_r E K 5 (pc' := 79) (lv' := [(0, .ref 27), (1, .int (gm_nO d)), (2, .int (gm_nO e)), (3, .int (nI k)), (4, .int (nI n))]) (st' := [.int ((w2.1 27 19) + 1), .ref 27]) (w' := w2) rfl ?_
                refine gd_cg (lv' := [(0, .ref 27), (1, .int (gm_nO d)), (2, .int (gm_nO e)), (3, .int (nI k)), (4, .int (nI n))]) (st' := [.int ((nI (gs_ot (gs_u S) d e k).length) + 1), .ref 27]) (w' := w2) ?_ (rfl) (by simp only [hj.1.2.1]) rfl
                refine gd_r E K 1 (pc' := 82) (lv' := [(0, .ref 27), (1, .int (gm_nO d)), (2, .int (gm_nO e)), (3, .int (nI k)), (4, .int (nI n))]) (st' := []) (w' := gd_rI w2 27 (upd (w2.1 27) 19 ((nI (gs_ot (gs_u S) d e k).length) + 1))) rfl ?_
                refine gd_r E K 2 (pc' := 7) (lv' := [(0, .ref 27), (1, .int (gm_nO d)), (2, .int (gm_nO e)), (3, .int ((nI k) + 1)), (4, .int (nI n))]) (st' := []) (w' := gd_rI w2 27 (upd (w2.1 27) 19 ((nI (gs_ot (gs_u S) d e k).length) + 1))) rfl ?_
                refine gd_lvp [0, 1, 2, 3] (lv' := [(0, .ref 27), (1, .int (gm_nO d)), (2, .int (gm_nO e)), (3, .int ((nI k) + 1))]) rfl ?_
                exact gd_cg (ih (k + 1) _ (by omega) (by rw [gs_ot, if_pos ⟨h0, hdk, hek⟩]; exact gs_fj_end (by rw [show (64 : Nat) = n by omega]; exact hj))) (by rw [nI_1]) rfl rfl
              | succ i ih2 =>
                intro n w2 hn hj
                refine gd_r E K 2 (pc' := 41) (lv' := [(0, .ref 27), (1, .int (gm_nO d)), (2, .int (gm_nO e)), (3, .int (nI k)), (4, .int (nI n))]) (st' := [.int 64, .int (nI n)]) (w' := w2) rfl ?_
                refine gd_r E K 1 (pc' := if 64 ≤ (nI n) then 72 else 44) (lv' := [(0, .ref 27), (1, .int (gm_nO d)), (2, .int (gm_nO e)), (3, .int (nI k)), (4, .int (nI n))]) (st' := []) (w' := w2) rfl ?_
                refine gd_if (nI_ge (show n < 64 by omega) (by decide)) ?_
                refine gd_r E K 11 (pc' := 62) (lv' := [(0, .ref 27), (1, .int (gm_nO d)), (2, .int (gm_nO e)), (3, .int (nI k)), (4, .int (nI n))]) (st' := [.int (nI n), .int (nI k), .ref 27, .int ((64 * (w2.1 27 19)) + (nI n)), .ref 41]) (w' := w2) rfl ?_
                refine gd_cg (lv' := [(0, .ref 27), (1, .int (gm_nO d)), (2, .int (gm_nO e)), (3, .int (nI k)), (4, .int (nI n))]) (st' := [.int (nI n), .int (nI k), .ref 27, .int ((64 * (nI (gs_ot (gs_u S) d e k).length)) + (nI n)), .ref 41]) (w' := w2) ?_ (rfl) (by simp only [hj.1.2.1]) rfl
                refine gd_cV E hA (av := [.int (nI k), .int (nI n)]) (rest := [.int ((64 * (nI (gs_ot (gs_u S) d e k).length)) + (nI n)), .ref 41]) (c2_placeAfter hinj w2 (hj.1.1.M hR) k (by omega) (hv k ⟨by omega, h0⟩) n (by omega)) (K.1 62 (.invokevirtual 89, 0) rfl).1 ml_M_89 cv_M_placeAfter (by decide) (rfl) ⟨Nat.le_of_ble_eq_true rfl, Nat.le_of_ble_eq_true rfl⟩ ⟨Nat.zero_le _, Nat.zero_le _⟩ rfl (Nat.le_of_ble_eq_true rfl) ?_
                refine gd_iast E (K.1 65 (.iastore, 0) rfl).1 (j := 64 * (gs_ot (gs_u S) d e k).length + n) (by decide) (rfl) (by rw [show (64 : Int32) = nI 64 from rfl, pk_mul, nI_add]) (by omega) (by decide) ?_
                refine gd_r E K 2 (pc' := 37) (lv' := [(0, .ref 27), (1, .int (gm_nO d)), (2, .int (gm_nO e)), (3, .int (nI k)), (4, .int ((nI n) + 1))]) (st' := []) (w' := gd_rI w2 41 (upd (w2.1 41) (64 * (gs_ot (gs_u S) d e k).length + n) (gm_nO (gs_pos S k n)))) rfl ?_
                exact gd_cg (ih2 (n + 1) _ (by omega) (gs_fj_step hj)) (by rw [nI_1]) rfl rfl
            exact gd_cg (inner 64 0 w1 (by omega) ⟨hi, fun i hi => by omega⟩) rfl rfl rfl
  refine gd_r E K 5 (pc' := 7) (lv' := [(0, .ref 27), (1, .int (gm_nO d)), (2, .int (gm_nO e)), (3, .int 0)]) (st' := []) (w' := gd_rI w 27 (upd (w.1 27) 19 0)) rfl ?_
  exact gd_cg (loop (gs_made S) 0 _ (by omega) ⟨gf_fs.t19 w 0, by rw [gd_rI_s, gd_u_s]; rfl, fun i x hx => by simp [gs_ot] at hx⟩) rfl rfl rfl
end
section
/-- only row k of the ints has changed -/
def gf_r (k : Nat) (w w' : gd_W) : Prop := (∀ a, a ≠ k → w'.1 a = w.1 a) ∧ w'.2 = w.2
theorem gf_r.refl (k : Nat) (w : gd_W) : gf_r k w w := ⟨fun _ _ => rfl, rfl⟩
theorem gf_r.upd (k : Nat) (w : gd_W) (f : Nat → Int32) : gf_r k w (gd_rI w k f) := ⟨fun _ h => gd_rI_n h, rfl⟩
theorem gf_r.trans {k : Nat} {a b c : gd_W} (h : gf_r k a b) (g : gf_r k b c) : gf_r k a c := ⟨fun x hx => (g.1 x hx).trans (h.1 x hx), g.2.trans h.2⟩
theorem gf_r.tab {k : Nat} {w w' : gd_W} (h : gf_r k w w') (h1 : k ≠ 27) (h2 : k ≠ 41) {cnt : Nat} {T : Nat → Nat → Option Nat} (t : gs_tab w cnt T) : gs_tab w' cnt T := by
  unfold gs_tab at t ⊢
  rw [h.1 27 (Ne.symm h1), h.1 41 (Ne.symm h2)]
  exact t
theorem gf_r.KK {k : Nat} {w w' : gd_W} (h : gf_r k w w') (h1 : k ≠ 28) {S : gs_T} (t : gs_KK w S) : gs_KK w' S := by
  unfold gs_KK at t ⊢
  rw [h.1 28 (Ne.symm h1)]
  exact t
/-- the cells that can be reached in n steps -/
def gs_rch (S : gs_T) (T : Nat → Nat → Option Nat) (cnt fr : Nat) : Nat → Nat → Bool
  | 0, c => decide (c = fr)
  | n + 1, c => gs_any (fun k => gs_atO (gs_rch S T cnt fr n) (gm_mv c k)) 5 && gs_be S T cnt c (n + 1)
def gs_nxt (R : Nat → Nat → Bool) (n c : Nat) : Bool := gs_any (fun k => gs_atO (R (n - 1)) (gm_mv c k)) 5
def gs_fst (f : Nat → Bool) : Nat → Nat → Option Nat
  | _, 0 => none
  | n, k + 1 => if f n then some n else gs_fst f (n + 1) k
/-- the length of the shortest way -/
def gs_way (S : gs_T) (T : Nat → Nat → Option Nat) (cnt fr goal : Nat) (joins : Bool) : Option Nat :=
  if joins = false ∧ fr = goal ∧ gs_end S T cnt goal 0 false = true then some 0 else gs_fst (fun n => gs_nxt (gs_rch S T cnt fr) n goal && gs_end S T cnt goal n joins) 1 60
/-- block n of a row of booleans -/
def gs_blk (w : gd_W) (k n m : Nat) (R : Nat → Bool) : Prop := ∀ c, c < m → w.1 k (64 * n + c) = gs_b (R c)
theorem gs_blk_step {w : gd_W} {k n m : Nat} {R : Nat → Bool} {v : Int32} (h : gs_blk w k n m R) (hv : v = gs_b (R m)) : gs_blk (gd_rI w k (upd (w.1 k) (64 * n + m) v)) k n (m + 1) R := by
  intro c hc
  rw [gd_rI_s]
  by_cases e : c = m
  · subst e; rw [gd_u_s, hv]
  · rw [gd_u_n (by omega)]; exact h c (by omega)
theorem gs_blk_keep {w : gd_W} {k n m n' m' : Nat} {R : Nat → Bool} {v : Int32} (h : gs_blk w k n m R) (hn : n ≠ n') (hm : m ≤ 64) (hm' : m' < 64) : gs_blk (gd_rI w k (upd (w.1 k) (64 * n' + m') v)) k n m R := by
  intro c hc
  rw [gd_rI_s, gd_u_n (by omega)]
  exact h c hc
def gs_ri (R : Nat → Nat → Bool) (w w1 : gd_W) (n : Nat) : Prop := gf_r 42 w w1 ∧ ∀ i, i < n → gs_blk w1 42 i 64 (R i)
def gs_rj (R : Nat → Nat → Bool) (w w1 : gd_W) (n c : Nat) : Prop := gs_ri R w w1 n ∧ gs_blk w1 42 n c (R n)
theorem gs_rj_step {R : Nat → Nat → Bool} {w w1 : gd_W} {n c : Nat} {v : Int32} (h : gs_rj R w w1 n c) (hc : c < 64) (hv : v = gs_b (R n c)) : gs_rj R w (gd_rI w1 42 (upd (w1.1 42) (64 * n + c) v)) n (c + 1) :=
  ⟨⟨h.1.1.trans (gf_r.upd _ _ _), fun i hi => gs_blk_keep (h.1.2 i hi) (by omega) (Nat.le_refl _) hc⟩, gs_blk_step h.2 hv⟩
theorem gs_rj_end {R : Nat → Nat → Bool} {w w1 : gd_W} {n : Nat} (h : gs_rj R w w1 n 64) : gs_ri R w w1 (n + 1) :=
  ⟨h.1.1, fun i hi => by
    by_cases e : i = n
    · subst e; exact h.2
    · exact h.1.2 i (by omega)⟩
theorem gs_ri_0 {R : Nat → Nat → Bool} {w w1 : gd_W} (h : gf_r 42 w w1) : gs_rj R w w1 0 0 := ⟨⟨h, fun i hi => by omega⟩, fun c hc => by omega⟩
set_option maxRecDepth 100000 in
theorem c2_spreadJ {l : Launch} {D : va_G} {tC : FieldType → ClassId} {ad : Nat → Nat} (hinj : ∀ i j, ad i = ad j → i = j) {S : gs_T} {cnt : Nat} {T : Nat → Nat → Option Nat} (w : gd_W) (hK : gs_KK w S) (hT : gs_tab w cnt T) (fr goal : Nat) (hf : fr < 64) (hg : goal < 64) : gd_Cp l D tC ad 45 4 95 y_M_spread c_M_spread 6 (some .int) [.ref 27, .int (nI fr), .int (nI goal), .int 1] w (fun r w' => r = some (.int (gm_nO (gs_way S T cnt fr goal true))) ∧ gf_r 42 w w' ∧ ∀ en, gs_way S T cnt fr goal true = some en → ∀ i, i < max en 1 → gs_blk w' 42 i 64 (gs_rch S T cnt fr i)) := by
  refine gd_Cp_of rfl hinj (Nat.le_of_ble_eq_true rfl) ?_
  intro p e s m args below meth c E hr hlk
  have K := k_M_spread
  have hA : ∀ q, gd_A ad 45 s.heap.size q → gd_A ad 45 s.heap.size q := fun _ h => h
  have loop : ∀ j n w1, n + j = 61 → 1 ≤ n → gs_ri (gs_rch S T cnt fr) w w1 n → gs_way S T cnt fr goal true = gs_fst (fun n => gs_nxt (gs_rch S T cnt fr) n goal && gs_end S T cnt goal n true) n j → gd_G p l e (gd_rm 4 95) s m args below meth c D tC ad (gd_A ad 45 s.heap.size) 45 6 0 0 (MQ below (gd_Qp D tC ad 45 s.heap.size (fun r w' => r = some (.int (gm_nO (gs_way S T cnt fr goal true))) ∧ gf_r 42 w w' ∧ ∀ en, gs_way S T cnt fr goal true = some en → ∀ i, i < max en 1 → gs_blk w' 42 i 64 (gs_rch S T cnt fr i))) args s 0 0 (gd_A ad 45 s.heap.size)) 58 [(0, .ref 27), (1, .int (nI fr)), (2, .int (nI goal)), (3, .int 1), (4, .int (nI n))] [] w1 := by
    intro j
    induction j with
    | zero =>
      intro n w1 hn h1 hi hres
      refine gd_r E K 2 (pc' := 62) (lv' := [(0, .ref 27), (1, .int (nI fr)), (2, .int (nI goal)), (3, .int 1), (4, .int (nI n))]) (st' := [.int 60, .int (nI n)]) (w' := w1) rfl ?_
      refine gd_r E K 1 (pc' := if 60 < (nI n) then 151 else 65) (lv' := [(0, .ref 27), (1, .int (nI fr)), (2, .int (nI goal)), (3, .int 1), (4, .int (nI n))]) (st' := []) (w' := w1) rfl ?_
      refine gd_it (nI_lt (show 60 < n by omega) (by omega)) ?_
      refine gd_r E K 1 (pc' := 152) (lv' := [(0, .ref 27), (1, .int (nI fr)), (2, .int (nI goal)), (3, .int 1), (4, .int (nI n))]) (st' := [.int (-1)]) (w' := w1) rfl ?_
      exact gd_iretp E hr hlk (K.1 152 (.ireturn, 0) rfl).1 (⟨by rw [hres]; rfl, hi.1, fun en he => by rw [hres] at he; cases he⟩)
    | succ j ih =>
      intro n w1 hn h1 hi hres
      have hK1 := hi.1.KK (by decide) hK
      have hT1 := hi.1.tab (by decide) (by decide) hT
      refine gd_r E K 2 (pc' := 62) (lv' := [(0, .ref 27), (1, .int (nI fr)), (2, .int (nI goal)), (3, .int 1), (4, .int (nI n))]) (st' := [.int 60, .int (nI n)]) (w' := w1) rfl ?_
      refine gd_r E K 1 (pc' := if 60 < (nI n) then 151 else 65) (lv' := [(0, .ref 27), (1, .int (nI fr)), (2, .int (nI goal)), (3, .int 1), (4, .int (nI n))]) (st' := []) (w' := w1) rfl ?_
      refine gd_if (nI_nlt (show n ≤ 60 by omega) (by decide)) ?_
      refine gd_r E K 3 (pc' := 69) (lv' := [(0, .ref 27), (1, .int (nI fr)), (2, .int (nI goal)), (3, .int 1), (4, .int (nI n))]) (st' := [.int (nI n), .int (nI goal), .ref 27]) (w' := w1) rfl ?_
      refine gd_cV E hA (av := [.int (nI goal), .int (nI n)]) (rest := []) (c2_isNext hinj w1 (gs_rch S T cnt fr (n - 1)) goal n hg h1 (by omega) (hi.2 (n - 1) (by omega))) (K.1 69 (.invokevirtual 105, 0) rfl).1 ml_M_105 cv_M_isNext (by decide) (rfl) ⟨Nat.le_of_ble_eq_true rfl, Nat.le_of_ble_eq_true rfl⟩ ⟨Nat.zero_le _, Nat.zero_le _⟩ rfl (Nat.le_of_ble_eq_true rfl) ?_
      refine gd_cg (lv' := [(0, .ref 27), (1, .int (nI fr)), (2, .int (nI goal)), (3, .int 1), (4, .int (nI n))]) (st' := [.int (gs_b (gs_nxt (gs_rch S T cnt fr) n goal))]) (w' := w1) ?_ (rfl) (rfl) (rfl)
      cases hnx : gs_nxt (gs_rch S T cnt fr) n goal with
      | true =>
        refine gd_r E K 1 (pc' := if (gs_b (true)) = 0 then 89 else 75) (lv' := [(0, .ref 27), (1, .int (nI fr)), (2, .int (nI goal)), (3, .int 1), (4, .int (nI n))]) (st' := []) (w' := w1) rfl ?_
        refine gd_if (by decide) ?_
        refine gd_r E K 4 (pc' := 80) (lv' := [(0, .ref 27), (1, .int (nI fr)), (2, .int (nI goal)), (3, .int 1), (4, .int (nI n))]) (st' := [.int 1, .int (nI n), .int (nI goal), .ref 27]) (w' := w1) rfl ?_
        refine gd_cV E hA (av := [.int (nI goal), .int (nI n), .int 1]) (rest := []) (c2_canEndJ hinj w1 hK1 hT1 goal n hg h1 (by omega)) (K.1 80 (.invokevirtual 101, 0) rfl).1 ml_M_101 cv_M_canEnd (by decide) (rfl) ⟨Nat.le_of_ble_eq_true rfl, Nat.le_of_ble_eq_true rfl⟩ ⟨Nat.zero_le _, Nat.zero_le _⟩ rfl (Nat.le_of_ble_eq_true rfl) ?_
        cases hen : gs_end S T cnt goal n true with
        | true =>
          refine gd_r E K 1 (pc' := if (gs_b (true)) = 0 then 89 else 86) (lv' := [(0, .ref 27), (1, .int (nI fr)), (2, .int (nI goal)), (3, .int 1), (4, .int (nI n))]) (st' := []) (w' := w1) rfl ?_
          refine gd_if (by decide) ?_
          refine gd_r E K 1 (pc' := 88) (lv' := [(0, .ref 27), (1, .int (nI fr)), (2, .int (nI goal)), (3, .int 1), (4, .int (nI n))]) (st' := [.int (nI n)]) (w' := w1) rfl ?_
          have hfin : gs_way S T cnt fr goal true = some n := by rw [hres, gs_fst, if_pos (by rw [hnx, hen]; rfl)]
          exact gd_iretp E hr hlk (K.1 88 (.ireturn, 0) rfl).1 (⟨by rw [hfin]; rfl, hi.1, fun en he i hi2 => by rw [hfin] at he; cases he; exact hi.2 i (by omega)⟩)
        | false =>
          refine gd_r E K 1 (pc' := if (gs_b (false)) = 0 then 89 else 86) (lv' := [(0, .ref 27), (1, .int (nI fr)), (2, .int (nI goal)), (3, .int 1), (4, .int (nI n))]) (st' := []) (w' := w1) rfl ?_
          refine gd_it (by decide) ?_
          refine gd_r E K 2 (pc' := 92) (lv' := [(0, .ref 27), (1, .int (nI fr)), (2, .int (nI goal)), (3, .int 1), (4, .int (nI n)), (5, .int 0)]) (st' := []) (w' := w1) rfl ?_
          have inner : ∀ i c0 w2, c0 + i = 64 → gs_rj (gs_rch S T cnt fr) w w2 n c0 → gd_G p l e (gd_rm 4 95) s m args below meth c D tC ad (gd_A ad 45 s.heap.size) 45 6 0 0 (MQ below (gd_Qp D tC ad 45 s.heap.size (fun r w' => r = some (.int (gm_nO (gs_way S T cnt fr goal true))) ∧ gf_r 42 w w' ∧ ∀ en, gs_way S T cnt fr goal true = some en → ∀ i, i < max en 1 → gs_blk w' 42 i 64 (gs_rch S T cnt fr i))) args s 0 0 (gd_A ad 45 s.heap.size)) 92 [(0, .ref 27), (1, .int (nI fr)), (2, .int (nI goal)), (3, .int 1), (4, .int (nI n)), (5, .int (nI c0))] [] w2 := by
            intro i
            induction i with
            | zero =>
              intro c0 w2 hc hj
              refine gd_r E K 2 (pc' := 96) (lv' := [(0, .ref 27), (1, .int (nI fr)), (2, .int (nI goal)), (3, .int 1), (4, .int (nI n)), (5, .int (nI c0))]) (st' := [.int 64, .int (nI c0)]) (w' := w2) rfl ?_
              refine gd_r E K 1 (pc' := if 64 ≤ (nI c0) then 145 else 99) (lv' := [(0, .ref 27), (1, .int (nI fr)), (2, .int (nI goal)), (3, .int 1), (4, .int (nI n)), (5, .int (nI c0))]) (st' := []) (w' := w2) rfl ?_
              refine gd_it (nI_le (show 64 ≤ c0 by omega) (by omega)) ?_
              refine gd_r E K 2 (pc' := 58) (lv' := [(0, .ref 27), (1, .int (nI fr)), (2, .int (nI goal)), (3, .int 1), (4, .int ((nI n) + 1)), (5, .int (nI c0))]) (st' := []) (w' := w2) rfl ?_
              refine gd_lvp [0, 1, 2, 3, 4] (lv' := [(0, .ref 27), (1, .int (nI fr)), (2, .int (nI goal)), (3, .int 1), (4, .int ((nI n) + 1))]) rfl ?_
              exact gd_cg (ih (n + 1) w2 (by omega) (by omega) (gs_rj_end (by rw [show (64 : Nat) = c0 by omega]; exact hj)) (by rw [hres, gs_fst, if_neg (by rw [hnx, hen]; simp)])) (by rw [nI_1]) rfl rfl
            | succ i ih2 =>
              intro c0 w2 hc hj
              have hK2 := hj.1.1.KK (by decide) hK
              have hT2 := hj.1.1.tab (by decide) (by decide) hT
              have hR2 : gs_rch S T cnt fr n c0 = (gs_any (fun k => gs_atO (gs_rch S T cnt fr (n - 1)) (gm_mv c0 k)) 5 && gs_be S T cnt c0 n) := by
                obtain ⟨n0, rfl⟩ : ∃ n0, n = n0 + 1 := ⟨n - 1, by omega⟩
                rfl
              refine gd_r E K 2 (pc' := 96) (lv' := [(0, .ref 27), (1, .int (nI fr)), (2, .int (nI goal)), (3, .int 1), (4, .int (nI n)), (5, .int (nI c0))]) (st' := [.int 64, .int (nI c0)]) (w' := w2) rfl ?_
              refine gd_r E K 1 (pc' := if 64 ≤ (nI c0) then 145 else 99) (lv' := [(0, .ref 27), (1, .int (nI fr)), (2, .int (nI goal)), (3, .int 1), (4, .int (nI n)), (5, .int (nI c0))]) (st' := []) (w' := w2) rfl ?_
              refine gd_if (nI_ge (show c0 < 64 by omega) (by decide)) ?_
              refine gd_r E K 10 (pc' := 116) (lv' := [(0, .ref 27), (1, .int (nI fr)), (2, .int (nI goal)), (3, .int 1), (4, .int (nI n)), (5, .int (nI c0))]) (st' := [.int (nI n), .int (nI c0), .ref 27, .int ((64 * (nI n)) + (nI c0)), .ref 42]) (w' := w2) rfl ?_
              refine gd_cV E hA (av := [.int (nI c0), .int (nI n)]) (rest := [.int ((64 * (nI n)) + (nI c0)), .ref 42]) (c2_isNext hinj w2 (gs_rch S T cnt fr (n - 1)) c0 n (by omega) h1 (by omega) (hj.1.2 (n - 1) (by omega))) (K.1 116 (.invokevirtual 105, 0) rfl).1 ml_M_105 cv_M_isNext (by decide) (rfl) ⟨Nat.le_of_ble_eq_true rfl, Nat.le_of_ble_eq_true rfl⟩ ⟨Nat.zero_le _, Nat.zero_le _⟩ rfl (Nat.le_of_ble_eq_true rfl) ?_
              cases hx : gs_any (fun k => gs_atO (gs_rch S T cnt fr (n - 1)) (gm_mv c0 k)) 5 with
              | true =>
                refine gd_r E K 1 (pc' := if (gs_b (true)) = 0 then 137 else 122) (lv' := [(0, .ref 27), (1, .int (nI fr)), (2, .int (nI goal)), (3, .int 1), (4, .int (nI n)), (5, .int (nI c0))]) (st' := [.int ((64 * (nI n)) + (nI c0)), .ref 42]) (w' := w2) rfl ?_
                refine gd_if (by decide) ?_
                refine gd_r E K 3 (pc' := 127) (lv' := [(0, .ref 27), (1, .int (nI fr)), (2, .int (nI goal)), (3, .int 1), (4, .int (nI n)), (5, .int (nI c0))]) (st' := [.int (nI n), .int (nI c0), .ref 27, .int ((64 * (nI n)) + (nI c0)), .ref 42]) (w' := w2) rfl ?_
                refine gd_cV E hA (av := [.int (nI c0), .int (nI n)]) (rest := [.int ((64 * (nI n)) + (nI c0)), .ref 42]) (c2_canBe hinj w2 hK2 hT2 c0 n (by omega) h1 (by omega)) (K.1 127 (.invokevirtual 108, 0) rfl).1 ml_M_108 cv_M_canBe (by decide) (rfl) ⟨Nat.le_of_ble_eq_true rfl, Nat.le_of_ble_eq_true rfl⟩ ⟨Nat.zero_le _, Nat.zero_le _⟩ rfl (Nat.le_of_ble_eq_true rfl) ?_
                cases hb2 : gs_be S T cnt c0 n with
                | true =>
                  refine gd_r E K 1 (pc' := if (gs_b (true)) = 0 then 137 else 133) (lv' := [(0, .ref 27), (1, .int (nI fr)), (2, .int (nI goal)), (3, .int 1), (4, .int (nI n)), (5, .int (nI c0))]) (st' := [.int ((64 * (nI n)) + (nI c0)), .ref 42]) (w' := w2) rfl ?_
                  refine gd_if (by decide) ?_
                  refine gd_r E K 2 (pc' := 138) (lv' := [(0, .ref 27), (1, .int (nI fr)), (2, .int (nI goal)), (3, .int 1), (4, .int (nI n)), (5, .int (nI c0))]) (st' := [.int 1, .int ((64 * (nI n)) + (nI c0)), .ref 42]) (w' := w2) rfl ?_
                  refine gd_zast E (K.1 138 (.bastore, 0) rfl).1 (j := 64 * n + c0) (by decide) (rfl) (by rw [show (64 : Int32) = nI 64 from rfl, pk_mul, nI_add]) (by omega) (by decide) (by decide) ?_
                  refine gd_r E K 2 (pc' := 92) (lv' := [(0, .ref 27), (1, .int (nI fr)), (2, .int (nI goal)), (3, .int 1), (4, .int (nI n)), (5, .int ((nI c0) + 1))]) (st' := []) (w' := gd_rI w2 42 (upd (w2.1 42) (64 * n + c0) 1)) rfl ?_
                  exact gd_cg (ih2 (c0 + 1) _ (by omega) (gs_rj_step hj (by omega) (by rw [hR2, hx, hb2]; rfl))) (by rw [nI_1]) rfl rfl
                | false =>
                  refine gd_r E K 1 (pc' := if (gs_b (false)) = 0 then 137 else 133) (lv' := [(0, .ref 27), (1, .int (nI fr)), (2, .int (nI goal)), (3, .int 1), (4, .int (nI n)), (5, .int (nI c0))]) (st' := [.int ((64 * (nI n)) + (nI c0)), .ref 42]) (w' := w2) rfl ?_
                  refine gd_it (by decide) ?_
                  refine gd_r E K 1 (pc' := 138) (lv' := [(0, .ref 27), (1, .int (nI fr)), (2, .int (nI goal)), (3, .int 1), (4, .int (nI n)), (5, .int (nI c0))]) (st' := [.int 0, .int ((64 * (nI n)) + (nI c0)), .ref 42]) (w' := w2) rfl ?_
                  refine gd_zast E (K.1 138 (.bastore, 0) rfl).1 (j := 64 * n + c0) (by decide) (rfl) (by rw [show (64 : Int32) = nI 64 from rfl, pk_mul, nI_add]) (by omega) (by decide) (by decide) ?_
                  refine gd_r E K 2 (pc' := 92) (lv' := [(0, .ref 27), (1, .int (nI fr)), (2, .int (nI goal)), (3, .int 1), (4, .int (nI n)), (5, .int ((nI c0) + 1))]) (st' := []) (w' := gd_rI w2 42 (upd (w2.1 42) (64 * n + c0) 0)) rfl ?_
                  exact gd_cg (ih2 (c0 + 1) _ (by omega) (gs_rj_step hj (by omega) (by rw [hR2, hx, hb2]; rfl))) (by rw [nI_1]) rfl rfl
              | false =>
                refine gd_r E K 1 (pc' := if (gs_b (false)) = 0 then 137 else 122) (lv' := [(0, .ref 27), (1, .int (nI fr)), (2, .int (nI goal)), (3, .int 1), (4, .int (nI n)), (5, .int (nI c0))]) (st' := [.int ((64 * (nI n)) + (nI c0)), .ref 42]) (w' := w2) rfl ?_
                refine gd_it (by decide) ?_
                refine gd_r E K 1 (pc' := 138) (lv' := [(0, .ref 27), (1, .int (nI fr)), (2, .int (nI goal)), (3, .int 1), (4, .int (nI n)), (5, .int (nI c0))]) (st' := [.int 0, .int ((64 * (nI n)) + (nI c0)), .ref 42]) (w' := w2) rfl ?_
                refine gd_zast E (K.1 138 (.bastore, 0) rfl).1 (j := 64 * n + c0) (by decide) (rfl) (by rw [show (64 : Int32) = nI 64 from rfl, pk_mul, nI_add]) (by omega) (by decide) (by decide) ?_
                refine gd_r E K 2 (pc' := 92) (lv' := [(0, .ref 27), (1, .int (nI fr)), (2, .int (nI goal)), (3, .int 1), (4, .int (nI n)), (5, .int ((nI c0) + 1))]) (st' := []) (w' := gd_rI w2 42 (upd (w2.1 42) (64 * n + c0) 0)) rfl ?_
                exact gd_cg (ih2 (c0 + 1) _ (by omega) (gs_rj_step hj (by omega) (by rw [hR2, hx, Bool.false_and]; rfl))) (by rw [nI_1]) rfl rfl
          exact gd_cg (inner 64 0 w1 (by omega) ⟨hi, fun c hc => by omega⟩) rfl rfl rfl
      | false =>
        refine gd_r E K 1 (pc' := if (gs_b (false)) = 0 then 89 else 75) (lv' := [(0, .ref 27), (1, .int (nI fr)), (2, .int (nI goal)), (3, .int 1), (4, .int (nI n))]) (st' := []) (w' := w1) rfl ?_
        refine gd_it (by decide) ?_
        refine gd_r E K 2 (pc' := 92) (lv' := [(0, .ref 27), (1, .int (nI fr)), (2, .int (nI goal)), (3, .int 1), (4, .int (nI n)), (5, .int 0)]) (st' := []) (w' := w1) rfl ?_
        have inner : ∀ i c0 w2, c0 + i = 64 → gs_rj (gs_rch S T cnt fr) w w2 n c0 → gd_G p l e (gd_rm 4 95) s m args below meth c D tC ad (gd_A ad 45 s.heap.size) 45 6 0 0 (MQ below (gd_Qp D tC ad 45 s.heap.size (fun r w' => r = some (.int (gm_nO (gs_way S T cnt fr goal true))) ∧ gf_r 42 w w' ∧ ∀ en, gs_way S T cnt fr goal true = some en → ∀ i, i < max en 1 → gs_blk w' 42 i 64 (gs_rch S T cnt fr i))) args s 0 0 (gd_A ad 45 s.heap.size)) 92 [(0, .ref 27), (1, .int (nI fr)), (2, .int (nI goal)), (3, .int 1), (4, .int (nI n)), (5, .int (nI c0))] [] w2 := by
          intro i
          induction i with
          | zero =>
            intro c0 w2 hc hj
            refine gd_r E K 2 (pc' := 96) (lv' := [(0, .ref 27), (1, .int (nI fr)), (2, .int (nI goal)), (3, .int 1), (4, .int (nI n)), (5, .int (nI c0))]) (st' := [.int 64, .int (nI c0)]) (w' := w2) rfl ?_
            refine gd_r E K 1 (pc' := if 64 ≤ (nI c0) then 145 else 99) (lv' := [(0, .ref 27), (1, .int (nI fr)), (2, .int (nI goal)), (3, .int 1), (4, .int (nI n)), (5, .int (nI c0))]) (st' := []) (w' := w2) rfl ?_
            refine gd_it (nI_le (show 64 ≤ c0 by omega) (by omega)) ?_
            refine gd_r E K 2 (pc' := 58) (lv' := [(0, .ref 27), (1, .int (nI fr)), (2, .int (nI goal)), (3, .int 1), (4, .int ((nI n) + 1)), (5, .int (nI c0))]) (st' := []) (w' := w2) rfl ?_
            refine gd_lvp [0, 1, 2, 3, 4] (lv' := [(0, .ref 27), (1, .int (nI fr)), (2, .int (nI goal)), (3, .int 1), (4, .int ((nI n) + 1))]) rfl ?_
            exact gd_cg (ih (n + 1) w2 (by omega) (by omega) (gs_rj_end (by rw [show (64 : Nat) = c0 by omega]; exact hj)) (by rw [hres, gs_fst, if_neg (by rw [hnx]; simp)])) (by rw [nI_1]) rfl rfl
          | succ i ih2 =>
            intro c0 w2 hc hj
            have hK2 := hj.1.1.KK (by decide) hK
            have hT2 := hj.1.1.tab (by decide) (by decide) hT
            have hR2 : gs_rch S T cnt fr n c0 = (gs_any (fun k => gs_atO (gs_rch S T cnt fr (n - 1)) (gm_mv c0 k)) 5 && gs_be S T cnt c0 n) := by
              obtain ⟨n0, rfl⟩ : ∃ n0, n = n0 + 1 := ⟨n - 1, by omega⟩
              rfl
            refine gd_r E K 2 (pc' := 96) (lv' := [(0, .ref 27), (1, .int (nI fr)), (2, .int (nI goal)), (3, .int 1), (4, .int (nI n)), (5, .int (nI c0))]) (st' := [.int 64, .int (nI c0)]) (w' := w2) rfl ?_
            refine gd_r E K 1 (pc' := if 64 ≤ (nI c0) then 145 else 99) (lv' := [(0, .ref 27), (1, .int (nI fr)), (2, .int (nI goal)), (3, .int 1), (4, .int (nI n)), (5, .int (nI c0))]) (st' := []) (w' := w2) rfl ?_
            refine gd_if (nI_ge (show c0 < 64 by omega) (by decide)) ?_
            refine gd_r E K 10 (pc' := 116) (lv' := [(0, .ref 27), (1, .int (nI fr)), (2, .int (nI goal)), (3, .int 1), (4, .int (nI n)), (5, .int (nI c0))]) (st' := [.int (nI n), .int (nI c0), .ref 27, .int ((64 * (nI n)) + (nI c0)), .ref 42]) (w' := w2) rfl ?_
            refine gd_cV E hA (av := [.int (nI c0), .int (nI n)]) (rest := [.int ((64 * (nI n)) + (nI c0)), .ref 42]) (c2_isNext hinj w2 (gs_rch S T cnt fr (n - 1)) c0 n (by omega) h1 (by omega) (hj.1.2 (n - 1) (by omega))) (K.1 116 (.invokevirtual 105, 0) rfl).1 ml_M_105 cv_M_isNext (by decide) (rfl) ⟨Nat.le_of_ble_eq_true rfl, Nat.le_of_ble_eq_true rfl⟩ ⟨Nat.zero_le _, Nat.zero_le _⟩ rfl (Nat.le_of_ble_eq_true rfl) ?_
            cases hx : gs_any (fun k => gs_atO (gs_rch S T cnt fr (n - 1)) (gm_mv c0 k)) 5 with
            | true =>
              refine gd_r E K 1 (pc' := if (gs_b (true)) = 0 then 137 else 122) (lv' := [(0, .ref 27), (1, .int (nI fr)), (2, .int (nI goal)), (3, .int 1), (4, .int (nI n)), (5, .int (nI c0))]) (st' := [.int ((64 * (nI n)) + (nI c0)), .ref 42]) (w' := w2) rfl ?_
              refine gd_if (by decide) ?_
              refine gd_r E K 3 (pc' := 127) (lv' := [(0, .ref 27), (1, .int (nI fr)), (2, .int (nI goal)), (3, .int 1), (4, .int (nI n)), (5, .int (nI c0))]) (st' := [.int (nI n), .int (nI c0), .ref 27, .int ((64 * (nI n)) + (nI c0)), .ref 42]) (w' := w2) rfl ?_
              refine gd_cV E hA (av := [.int (nI c0), .int (nI n)]) (rest := [.int ((64 * (nI n)) + (nI c0)), .ref 42]) (c2_canBe hinj w2 hK2 hT2 c0 n (by omega) h1 (by omega)) (K.1 127 (.invokevirtual 108, 0) rfl).1 ml_M_108 cv_M_canBe (by decide) (rfl) ⟨Nat.le_of_ble_eq_true rfl, Nat.le_of_ble_eq_true rfl⟩ ⟨Nat.zero_le _, Nat.zero_le _⟩ rfl (Nat.le_of_ble_eq_true rfl) ?_
              cases hb2 : gs_be S T cnt c0 n with
              | true =>
                refine gd_r E K 1 (pc' := if (gs_b (true)) = 0 then 137 else 133) (lv' := [(0, .ref 27), (1, .int (nI fr)), (2, .int (nI goal)), (3, .int 1), (4, .int (nI n)), (5, .int (nI c0))]) (st' := [.int ((64 * (nI n)) + (nI c0)), .ref 42]) (w' := w2) rfl ?_
                refine gd_if (by decide) ?_
                refine gd_r E K 2 (pc' := 138) (lv' := [(0, .ref 27), (1, .int (nI fr)), (2, .int (nI goal)), (3, .int 1), (4, .int (nI n)), (5, .int (nI c0))]) (st' := [.int 1, .int ((64 * (nI n)) + (nI c0)), .ref 42]) (w' := w2) rfl ?_
                refine gd_zast E (K.1 138 (.bastore, 0) rfl).1 (j := 64 * n + c0) (by decide) (rfl) (by rw [show (64 : Int32) = nI 64 from rfl, pk_mul, nI_add]) (by omega) (by decide) (by decide) ?_
                refine gd_r E K 2 (pc' := 92) (lv' := [(0, .ref 27), (1, .int (nI fr)), (2, .int (nI goal)), (3, .int 1), (4, .int (nI n)), (5, .int ((nI c0) + 1))]) (st' := []) (w' := gd_rI w2 42 (upd (w2.1 42) (64 * n + c0) 1)) rfl ?_
                exact gd_cg (ih2 (c0 + 1) _ (by omega) (gs_rj_step hj (by omega) (by rw [hR2, hx, hb2]; rfl))) (by rw [nI_1]) rfl rfl
              | false =>
                refine gd_r E K 1 (pc' := if (gs_b (false)) = 0 then 137 else 133) (lv' := [(0, .ref 27), (1, .int (nI fr)), (2, .int (nI goal)), (3, .int 1), (4, .int (nI n)), (5, .int (nI c0))]) (st' := [.int ((64 * (nI n)) + (nI c0)), .ref 42]) (w' := w2) rfl ?_
                refine gd_it (by decide) ?_
                refine gd_r E K 1 (pc' := 138) (lv' := [(0, .ref 27), (1, .int (nI fr)), (2, .int (nI goal)), (3, .int 1), (4, .int (nI n)), (5, .int (nI c0))]) (st' := [.int 0, .int ((64 * (nI n)) + (nI c0)), .ref 42]) (w' := w2) rfl ?_
                refine gd_zast E (K.1 138 (.bastore, 0) rfl).1 (j := 64 * n + c0) (by decide) (rfl) (by rw [show (64 : Int32) = nI 64 from rfl, pk_mul, nI_add]) (by omega) (by decide) (by decide) ?_
                refine gd_r E K 2 (pc' := 92) (lv' := [(0, .ref 27), (1, .int (nI fr)), (2, .int (nI goal)), (3, .int 1), (4, .int (nI n)), (5, .int ((nI c0) + 1))]) (st' := []) (w' := gd_rI w2 42 (upd (w2.1 42) (64 * n + c0) 0)) rfl ?_
                exact gd_cg (ih2 (c0 + 1) _ (by omega) (gs_rj_step hj (by omega) (by rw [hR2, hx, hb2]; rfl))) (by rw [nI_1]) rfl rfl
            | false =>
              refine gd_r E K 1 (pc' := if (gs_b (false)) = 0 then 137 else 122) (lv' := [(0, .ref 27), (1, .int (nI fr)), (2, .int (nI goal)), (3, .int 1), (4, .int (nI n)), (5, .int (nI c0))]) (st' := [.int ((64 * (nI n)) + (nI c0)), .ref 42]) (w' := w2) rfl ?_
              refine gd_it (by decide) ?_
              refine gd_r E K 1 (pc' := 138) (lv' := [(0, .ref 27), (1, .int (nI fr)), (2, .int (nI goal)), (3, .int 1), (4, .int (nI n)), (5, .int (nI c0))]) (st' := [.int 0, .int ((64 * (nI n)) + (nI c0)), .ref 42]) (w' := w2) rfl ?_
              refine gd_zast E (K.1 138 (.bastore, 0) rfl).1 (j := 64 * n + c0) (by decide) (rfl) (by rw [show (64 : Int32) = nI 64 from rfl, pk_mul, nI_add]) (by omega) (by decide) (by decide) ?_
              refine gd_r E K 2 (pc' := 92) (lv' := [(0, .ref 27), (1, .int (nI fr)), (2, .int (nI goal)), (3, .int 1), (4, .int (nI n)), (5, .int ((nI c0) + 1))]) (st' := []) (w' := gd_rI w2 42 (upd (w2.1 42) (64 * n + c0) 0)) rfl ?_
              exact gd_cg (ih2 (c0 + 1) _ (by omega) (gs_rj_step hj (by omega) (by rw [hR2, hx, Bool.false_and]; rfl))) (by rw [nI_1]) rfl rfl
        exact gd_cg (inner 64 0 w1 (by omega) ⟨hi, fun c hc => by omega⟩) rfl rfl rfl
  have zero : ∀ i c0 w1, c0 + i = 64 → gs_rj (gs_rch S T cnt fr) w w1 0 c0 → gd_G p l e (gd_rm 4 95) s m args below meth c D tC ad (gd_A ad 45 s.heap.size) 45 6 0 0 (MQ below (gd_Qp D tC ad 45 s.heap.size (fun r w' => r = some (.int (gm_nO (gs_way S T cnt fr goal true))) ∧ gf_r 42 w w' ∧ ∀ en, gs_way S T cnt fr goal true = some en → ∀ i, i < max en 1 → gs_blk w' 42 i 64 (gs_rch S T cnt fr i))) args s 0 0 (gd_A ad 45 s.heap.size)) 3 [(0, .ref 27), (1, .int (nI fr)), (2, .int (nI goal)), (3, .int 1), (4, .int (nI c0))] [] w1 := by
    intro i
    induction i with
    | zero =>
      intro c0 w1 hc hj
      refine gd_r E K 2 (pc' := 7) (lv' := [(0, .ref 27), (1, .int (nI fr)), (2, .int (nI goal)), (3, .int 1), (4, .int (nI c0))]) (st' := [.int 64, .int (nI c0)]) (w' := w1) rfl ?_
      refine gd_r E K 1 (pc' := if 64 ≤ (nI c0) then 34 else 10) (lv' := [(0, .ref 27), (1, .int (nI fr)), (2, .int (nI goal)), (3, .int 1), (4, .int (nI c0))]) (st' := []) (w' := w1) rfl ?_
      refine gd_it (nI_le (show 64 ≤ c0 by omega) (by omega)) ?_
      have hi : gs_ri (gs_rch S T cnt fr) w w1 1 := gs_rj_end (by rw [show (64 : Nat) = c0 by omega]; exact hj)
      refine gd_r E K 4 (pc' := 58) (lv' := [(0, .ref 27), (1, .int (nI fr)), (2, .int (nI goal)), (3, .int 1), (4, .int 1)]) (st' := []) (w' := w1) rfl ?_
      exact gd_cg (loop 60 1 w1 (by omega) (by omega) hi (by rw [gs_way, if_neg (fun h => by cases h.1)])) rfl rfl rfl
    | succ i ih =>
      intro c0 w1 hc hj
      refine gd_r E K 2 (pc' := 7) (lv' := [(0, .ref 27), (1, .int (nI fr)), (2, .int (nI goal)), (3, .int 1), (4, .int (nI c0))]) (st' := [.int 64, .int (nI c0)]) (w' := w1) rfl ?_
      refine gd_r E K 1 (pc' := if 64 ≤ (nI c0) then 34 else 10) (lv' := [(0, .ref 27), (1, .int (nI fr)), (2, .int (nI goal)), (3, .int 1), (4, .int (nI c0))]) (st' := []) (w' := w1) rfl ?_
      refine gd_if (nI_ge (show c0 < 64 by omega) (by decide)) ?_
      refine gd_r E K 5 (pc' := 19) (lv' := [(0, .ref 27), (1, .int (nI fr)), (2, .int (nI goal)), (3, .int 1), (4, .int (nI c0))]) (st' := [.int (nI fr), .int (nI c0), .int (nI c0), .ref 42]) (w' := w1) rfl ?_
      by_cases hcf : c0 = fr
      · refine gd_r E K 1 (pc' := if (nI c0) = (nI fr) then 22 else 26) (lv' := [(0, .ref 27), (1, .int (nI fr)), (2, .int (nI goal)), (3, .int 1), (4, .int (nI c0))]) (st' := [.int (nI c0), .ref 42]) (w' := w1) rfl ?_
        refine gd_it (by rw [hcf]) ?_
        refine gd_r E K 2 (pc' := 27) (lv' := [(0, .ref 27), (1, .int (nI fr)), (2, .int (nI goal)), (3, .int 1), (4, .int (nI c0))]) (st' := [.int 1, .int (nI c0), .ref 42]) (w' := w1) rfl ?_
        refine gd_zast E (K.1 27 (.bastore, 0) rfl).1 (j := 64 * 0 + c0) (by decide) (rfl) (by rw [show 64 * 0 + c0 = c0 by omega]) (by omega) (by decide) (by decide) ?_
        refine gd_r E K 2 (pc' := 3) (lv' := [(0, .ref 27), (1, .int (nI fr)), (2, .int (nI goal)), (3, .int 1), (4, .int ((nI c0) + 1))]) (st' := []) (w' := gd_rI w1 42 (upd (w1.1 42) (64 * 0 + c0) 1)) rfl ?_
        exact gd_cg (ih (c0 + 1) _ (by omega) (gs_rj_step hj (by omega) (by rw [gs_rch, decide_eq_true hcf]; rfl))) (by rw [nI_1]) rfl rfl
      · refine gd_r E K 1 (pc' := if (nI c0) = (nI fr) then 22 else 26) (lv' := [(0, .ref 27), (1, .int (nI fr)), (2, .int (nI goal)), (3, .int 1), (4, .int (nI c0))]) (st' := [.int (nI c0), .ref 42]) (w' := w1) rfl ?_
        refine gd_if (by rw [nI_eq (by omega) (by omega)]; exact hcf) ?_
        refine gd_r E K 1 (pc' := 27) (lv' := [(0, .ref 27), (1, .int (nI fr)), (2, .int (nI goal)), (3, .int 1), (4, .int (nI c0))]) (st' := [.int 0, .int (nI c0), .ref 42]) (w' := w1) rfl ?_
        refine gd_zast E (K.1 27 (.bastore, 0) rfl).1 (j := 64 * 0 + c0) (by decide) (rfl) (by rw [show 64 * 0 + c0 = c0 by omega]) (by omega) (by decide) (by decide) ?_
        refine gd_r E K 2 (pc' := 3) (lv' := [(0, .ref 27), (1, .int (nI fr)), (2, .int (nI goal)), (3, .int 1), (4, .int ((nI c0) + 1))]) (st' := []) (w' := gd_rI w1 42 (upd (w1.1 42) (64 * 0 + c0) 0)) rfl ?_
        exact gd_cg (ih (c0 + 1) _ (by omega) (gs_rj_step hj (by omega) (by rw [gs_rch, decide_eq_false hcf]; rfl))) (by rw [nI_1]) rfl rfl
  refine gd_r E K 2 (pc' := 3) (lv' := [(0, .ref 27), (1, .int (nI fr)), (2, .int (nI goal)), (3, .int 1), (4, .int 0)]) (st' := []) (w' := w) rfl ?_
  exact gd_cg (zero 64 0 w (by omega) (gs_ri_0 (gf_r.refl 42 w))) rfl rfl rfl
set_option maxRecDepth 100000 in
theorem c2_spreadS {l : Launch} {D : va_G} {tC : FieldType → ClassId} {ad : Nat → Nat} (hinj : ∀ i j, ad i = ad j → i = j) {S : gs_T} {cnt : Nat} {T : Nat → Nat → Option Nat} (w : gd_W) (hK : gs_KK w S) (hT : gs_tab w cnt T) (fr goal : Nat) (hf : fr < 64) (hg : goal < 64) : gd_Cp l D tC ad 45 4 95 y_M_spread c_M_spread 6 (some .int) [.ref 27, .int (nI fr), .int (nI goal), .int 0] w (fun r w' => r = some (.int (gm_nO (gs_way S T cnt fr goal false))) ∧ gf_r 42 w w' ∧ ∀ en, gs_way S T cnt fr goal false = some en → ∀ i, i < max en 1 → gs_blk w' 42 i 64 (gs_rch S T cnt fr i)) := by
  refine gd_Cp_of rfl hinj (Nat.le_of_ble_eq_true rfl) ?_
  intro p e s m args below meth c E hr hlk
  have K := k_M_spread
  have hA : ∀ q, gd_A ad 45 s.heap.size q → gd_A ad 45 s.heap.size q := fun _ h => h
  have loop : ∀ j n w1, n + j = 61 → 1 ≤ n → gs_ri (gs_rch S T cnt fr) w w1 n → gs_way S T cnt fr goal false = gs_fst (fun n => gs_nxt (gs_rch S T cnt fr) n goal && gs_end S T cnt goal n false) n j → gd_G p l e (gd_rm 4 95) s m args below meth c D tC ad (gd_A ad 45 s.heap.size) 45 6 0 0 (MQ below (gd_Qp D tC ad 45 s.heap.size (fun r w' => r = some (.int (gm_nO (gs_way S T cnt fr goal false))) ∧ gf_r 42 w w' ∧ ∀ en, gs_way S T cnt fr goal false = some en → ∀ i, i < max en 1 → gs_blk w' 42 i 64 (gs_rch S T cnt fr i))) args s 0 0 (gd_A ad 45 s.heap.size)) 58 [(0, .ref 27), (1, .int (nI fr)), (2, .int (nI goal)), (3, .int 0), (4, .int (nI n))] [] w1 := by
    intro j
    induction j with
    | zero =>
      intro n w1 hn h1 hi hres
      refine gd_r E K 2 (pc' := 62) (lv' := [(0, .ref 27), (1, .int (nI fr)), (2, .int (nI goal)), (3, .int 0), (4, .int (nI n))]) (st' := [.int 60, .int (nI n)]) (w' := w1) rfl ?_
      refine gd_r E K 1 (pc' := if 60 < (nI n) then 151 else 65) (lv' := [(0, .ref 27), (1, .int (nI fr)), (2, .int (nI goal)), (3, .int 0), (4, .int (nI n))]) (st' := []) (w' := w1) rfl ?_
      refine gd_it (nI_lt (show 60 < n by omega) (by omega)) ?_
      refine gd_r E K 1 (pc' := 152) (lv' := [(0, .ref 27), (1, .int (nI fr)), (2, .int (nI goal)), (3, .int 0), (4, .int (nI n))]) (st' := [.int (-1)]) (w' := w1) rfl ?_
      exact gd_iretp E hr hlk (K.1 152 (.ireturn, 0) rfl).1 (⟨by rw [hres]; rfl, hi.1, fun en he => by rw [hres] at he; cases he⟩)
    | succ j ih =>
      intro n w1 hn h1 hi hres
      have hK1 := hi.1.KK (by decide) hK
      have hT1 := hi.1.tab (by decide) (by decide) hT
      refine gd_r E K 2 (pc' := 62) (lv' := [(0, .ref 27), (1, .int (nI fr)), (2, .int (nI goal)), (3, .int 0), (4, .int (nI n))]) (st' := [.int 60, .int (nI n)]) (w' := w1) rfl ?_
      refine gd_r E K 1 (pc' := if 60 < (nI n) then 151 else 65) (lv' := [(0, .ref 27), (1, .int (nI fr)), (2, .int (nI goal)), (3, .int 0), (4, .int (nI n))]) (st' := []) (w' := w1) rfl ?_
      refine gd_if (nI_nlt (show n ≤ 60 by omega) (by decide)) ?_
      refine gd_r E K 3 (pc' := 69) (lv' := [(0, .ref 27), (1, .int (nI fr)), (2, .int (nI goal)), (3, .int 0), (4, .int (nI n))]) (st' := [.int (nI n), .int (nI goal), .ref 27]) (w' := w1) rfl ?_
      refine gd_cV E hA (av := [.int (nI goal), .int (nI n)]) (rest := []) (c2_isNext hinj w1 (gs_rch S T cnt fr (n - 1)) goal n hg h1 (by omega) (hi.2 (n - 1) (by omega))) (K.1 69 (.invokevirtual 105, 0) rfl).1 ml_M_105 cv_M_isNext (by decide) (rfl) ⟨Nat.le_of_ble_eq_true rfl, Nat.le_of_ble_eq_true rfl⟩ ⟨Nat.zero_le _, Nat.zero_le _⟩ rfl (Nat.le_of_ble_eq_true rfl) ?_
      refine gd_cg (lv' := [(0, .ref 27), (1, .int (nI fr)), (2, .int (nI goal)), (3, .int 0), (4, .int (nI n))]) (st' := [.int (gs_b (gs_nxt (gs_rch S T cnt fr) n goal))]) (w' := w1) ?_ (rfl) (rfl) (rfl)
      cases hnx : gs_nxt (gs_rch S T cnt fr) n goal with
      | true =>
        refine gd_r E K 1 (pc' := if (gs_b (true)) = 0 then 89 else 75) (lv' := [(0, .ref 27), (1, .int (nI fr)), (2, .int (nI goal)), (3, .int 0), (4, .int (nI n))]) (st' := []) (w' := w1) rfl ?_
        refine gd_if (by decide) ?_
        refine gd_r E K 4 (pc' := 80) (lv' := [(0, .ref 27), (1, .int (nI fr)), (2, .int (nI goal)), (3, .int 0), (4, .int (nI n))]) (st' := [.int 0, .int (nI n), .int (nI goal), .ref 27]) (w' := w1) rfl ?_
        refine gd_cV E hA (av := [.int (nI goal), .int (nI n), .int 0]) (rest := []) (c2_canEndS hinj w1 hK1 hT1 goal n hg (by omega)) (K.1 80 (.invokevirtual 101, 0) rfl).1 ml_M_101 cv_M_canEnd (by decide) (rfl) ⟨Nat.le_of_ble_eq_true rfl, Nat.le_of_ble_eq_true rfl⟩ ⟨Nat.zero_le _, Nat.zero_le _⟩ rfl (Nat.le_of_ble_eq_true rfl) ?_
        cases hen : gs_end S T cnt goal n false with
        | true =>
          refine gd_r E K 1 (pc' := if (gs_b (true)) = 0 then 89 else 86) (lv' := [(0, .ref 27), (1, .int (nI fr)), (2, .int (nI goal)), (3, .int 0), (4, .int (nI n))]) (st' := []) (w' := w1) rfl ?_
          refine gd_if (by decide) ?_
          refine gd_r E K 1 (pc' := 88) (lv' := [(0, .ref 27), (1, .int (nI fr)), (2, .int (nI goal)), (3, .int 0), (4, .int (nI n))]) (st' := [.int (nI n)]) (w' := w1) rfl ?_
          have hfin : gs_way S T cnt fr goal false = some n := by rw [hres, gs_fst, if_pos (by rw [hnx, hen]; rfl)]
          exact gd_iretp E hr hlk (K.1 88 (.ireturn, 0) rfl).1 (⟨by rw [hfin]; rfl, hi.1, fun en he i hi2 => by rw [hfin] at he; cases he; exact hi.2 i (by omega)⟩)
        | false =>
          refine gd_r E K 1 (pc' := if (gs_b (false)) = 0 then 89 else 86) (lv' := [(0, .ref 27), (1, .int (nI fr)), (2, .int (nI goal)), (3, .int 0), (4, .int (nI n))]) (st' := []) (w' := w1) rfl ?_
          refine gd_it (by decide) ?_
          refine gd_r E K 2 (pc' := 92) (lv' := [(0, .ref 27), (1, .int (nI fr)), (2, .int (nI goal)), (3, .int 0), (4, .int (nI n)), (5, .int 0)]) (st' := []) (w' := w1) rfl ?_
          have inner : ∀ i c0 w2, c0 + i = 64 → gs_rj (gs_rch S T cnt fr) w w2 n c0 → gd_G p l e (gd_rm 4 95) s m args below meth c D tC ad (gd_A ad 45 s.heap.size) 45 6 0 0 (MQ below (gd_Qp D tC ad 45 s.heap.size (fun r w' => r = some (.int (gm_nO (gs_way S T cnt fr goal false))) ∧ gf_r 42 w w' ∧ ∀ en, gs_way S T cnt fr goal false = some en → ∀ i, i < max en 1 → gs_blk w' 42 i 64 (gs_rch S T cnt fr i))) args s 0 0 (gd_A ad 45 s.heap.size)) 92 [(0, .ref 27), (1, .int (nI fr)), (2, .int (nI goal)), (3, .int 0), (4, .int (nI n)), (5, .int (nI c0))] [] w2 := by
            intro i
            induction i with
            | zero =>
              intro c0 w2 hc hj
              refine gd_r E K 2 (pc' := 96) (lv' := [(0, .ref 27), (1, .int (nI fr)), (2, .int (nI goal)), (3, .int 0), (4, .int (nI n)), (5, .int (nI c0))]) (st' := [.int 64, .int (nI c0)]) (w' := w2) rfl ?_
              refine gd_r E K 1 (pc' := if 64 ≤ (nI c0) then 145 else 99) (lv' := [(0, .ref 27), (1, .int (nI fr)), (2, .int (nI goal)), (3, .int 0), (4, .int (nI n)), (5, .int (nI c0))]) (st' := []) (w' := w2) rfl ?_
              refine gd_it (nI_le (show 64 ≤ c0 by omega) (by omega)) ?_
              refine gd_r E K 2 (pc' := 58) (lv' := [(0, .ref 27), (1, .int (nI fr)), (2, .int (nI goal)), (3, .int 0), (4, .int ((nI n) + 1)), (5, .int (nI c0))]) (st' := []) (w' := w2) rfl ?_
              refine gd_lvp [0, 1, 2, 3, 4] (lv' := [(0, .ref 27), (1, .int (nI fr)), (2, .int (nI goal)), (3, .int 0), (4, .int ((nI n) + 1))]) rfl ?_
              exact gd_cg (ih (n + 1) w2 (by omega) (by omega) (gs_rj_end (by rw [show (64 : Nat) = c0 by omega]; exact hj)) (by rw [hres, gs_fst, if_neg (by rw [hnx, hen]; simp)])) (by rw [nI_1]) rfl rfl
            | succ i ih2 =>
              intro c0 w2 hc hj
              have hK2 := hj.1.1.KK (by decide) hK
              have hT2 := hj.1.1.tab (by decide) (by decide) hT
              have hR2 : gs_rch S T cnt fr n c0 = (gs_any (fun k => gs_atO (gs_rch S T cnt fr (n - 1)) (gm_mv c0 k)) 5 && gs_be S T cnt c0 n) := by
                obtain ⟨n0, rfl⟩ : ∃ n0, n = n0 + 1 := ⟨n - 1, by omega⟩
                rfl
              refine gd_r E K 2 (pc' := 96) (lv' := [(0, .ref 27), (1, .int (nI fr)), (2, .int (nI goal)), (3, .int 0), (4, .int (nI n)), (5, .int (nI c0))]) (st' := [.int 64, .int (nI c0)]) (w' := w2) rfl ?_
              refine gd_r E K 1 (pc' := if 64 ≤ (nI c0) then 145 else 99) (lv' := [(0, .ref 27), (1, .int (nI fr)), (2, .int (nI goal)), (3, .int 0), (4, .int (nI n)), (5, .int (nI c0))]) (st' := []) (w' := w2) rfl ?_
              refine gd_if (nI_ge (show c0 < 64 by omega) (by decide)) ?_
              refine gd_r E K 10 (pc' := 116) (lv' := [(0, .ref 27), (1, .int (nI fr)), (2, .int (nI goal)), (3, .int 0), (4, .int (nI n)), (5, .int (nI c0))]) (st' := [.int (nI n), .int (nI c0), .ref 27, .int ((64 * (nI n)) + (nI c0)), .ref 42]) (w' := w2) rfl ?_
              refine gd_cV E hA (av := [.int (nI c0), .int (nI n)]) (rest := [.int ((64 * (nI n)) + (nI c0)), .ref 42]) (c2_isNext hinj w2 (gs_rch S T cnt fr (n - 1)) c0 n (by omega) h1 (by omega) (hj.1.2 (n - 1) (by omega))) (K.1 116 (.invokevirtual 105, 0) rfl).1 ml_M_105 cv_M_isNext (by decide) (rfl) ⟨Nat.le_of_ble_eq_true rfl, Nat.le_of_ble_eq_true rfl⟩ ⟨Nat.zero_le _, Nat.zero_le _⟩ rfl (Nat.le_of_ble_eq_true rfl) ?_
              cases hx : gs_any (fun k => gs_atO (gs_rch S T cnt fr (n - 1)) (gm_mv c0 k)) 5 with
              | true =>
                refine gd_r E K 1 (pc' := if (gs_b (true)) = 0 then 137 else 122) (lv' := [(0, .ref 27), (1, .int (nI fr)), (2, .int (nI goal)), (3, .int 0), (4, .int (nI n)), (5, .int (nI c0))]) (st' := [.int ((64 * (nI n)) + (nI c0)), .ref 42]) (w' := w2) rfl ?_
                refine gd_if (by decide) ?_
                refine gd_r E K 3 (pc' := 127) (lv' := [(0, .ref 27), (1, .int (nI fr)), (2, .int (nI goal)), (3, .int 0), (4, .int (nI n)), (5, .int (nI c0))]) (st' := [.int (nI n), .int (nI c0), .ref 27, .int ((64 * (nI n)) + (nI c0)), .ref 42]) (w' := w2) rfl ?_
                refine gd_cV E hA (av := [.int (nI c0), .int (nI n)]) (rest := [.int ((64 * (nI n)) + (nI c0)), .ref 42]) (c2_canBe hinj w2 hK2 hT2 c0 n (by omega) h1 (by omega)) (K.1 127 (.invokevirtual 108, 0) rfl).1 ml_M_108 cv_M_canBe (by decide) (rfl) ⟨Nat.le_of_ble_eq_true rfl, Nat.le_of_ble_eq_true rfl⟩ ⟨Nat.zero_le _, Nat.zero_le _⟩ rfl (Nat.le_of_ble_eq_true rfl) ?_
                cases hb2 : gs_be S T cnt c0 n with
                | true =>
                  refine gd_r E K 1 (pc' := if (gs_b (true)) = 0 then 137 else 133) (lv' := [(0, .ref 27), (1, .int (nI fr)), (2, .int (nI goal)), (3, .int 0), (4, .int (nI n)), (5, .int (nI c0))]) (st' := [.int ((64 * (nI n)) + (nI c0)), .ref 42]) (w' := w2) rfl ?_
                  refine gd_if (by decide) ?_
                  refine gd_r E K 2 (pc' := 138) (lv' := [(0, .ref 27), (1, .int (nI fr)), (2, .int (nI goal)), (3, .int 0), (4, .int (nI n)), (5, .int (nI c0))]) (st' := [.int 1, .int ((64 * (nI n)) + (nI c0)), .ref 42]) (w' := w2) rfl ?_
                  refine gd_zast E (K.1 138 (.bastore, 0) rfl).1 (j := 64 * n + c0) (by decide) (rfl) (by rw [show (64 : Int32) = nI 64 from rfl, pk_mul, nI_add]) (by omega) (by decide) (by decide) ?_
                  refine gd_r E K 2 (pc' := 92) (lv' := [(0, .ref 27), (1, .int (nI fr)), (2, .int (nI goal)), (3, .int 0), (4, .int (nI n)), (5, .int ((nI c0) + 1))]) (st' := []) (w' := gd_rI w2 42 (upd (w2.1 42) (64 * n + c0) 1)) rfl ?_
                  exact gd_cg (ih2 (c0 + 1) _ (by omega) (gs_rj_step hj (by omega) (by rw [hR2, hx, hb2]; rfl))) (by rw [nI_1]) rfl rfl
                | false =>
                  refine gd_r E K 1 (pc' := if (gs_b (false)) = 0 then 137 else 133) (lv' := [(0, .ref 27), (1, .int (nI fr)), (2, .int (nI goal)), (3, .int 0), (4, .int (nI n)), (5, .int (nI c0))]) (st' := [.int ((64 * (nI n)) + (nI c0)), .ref 42]) (w' := w2) rfl ?_
                  refine gd_it (by decide) ?_
                  refine gd_r E K 1 (pc' := 138) (lv' := [(0, .ref 27), (1, .int (nI fr)), (2, .int (nI goal)), (3, .int 0), (4, .int (nI n)), (5, .int (nI c0))]) (st' := [.int 0, .int ((64 * (nI n)) + (nI c0)), .ref 42]) (w' := w2) rfl ?_
                  refine gd_zast E (K.1 138 (.bastore, 0) rfl).1 (j := 64 * n + c0) (by decide) (rfl) (by rw [show (64 : Int32) = nI 64 from rfl, pk_mul, nI_add]) (by omega) (by decide) (by decide) ?_
                  refine gd_r E K 2 (pc' := 92) (lv' := [(0, .ref 27), (1, .int (nI fr)), (2, .int (nI goal)), (3, .int 0), (4, .int (nI n)), (5, .int ((nI c0) + 1))]) (st' := []) (w' := gd_rI w2 42 (upd (w2.1 42) (64 * n + c0) 0)) rfl ?_
                  exact gd_cg (ih2 (c0 + 1) _ (by omega) (gs_rj_step hj (by omega) (by rw [hR2, hx, hb2]; rfl))) (by rw [nI_1]) rfl rfl
              | false =>
                refine gd_r E K 1 (pc' := if (gs_b (false)) = 0 then 137 else 122) (lv' := [(0, .ref 27), (1, .int (nI fr)), (2, .int (nI goal)), (3, .int 0), (4, .int (nI n)), (5, .int (nI c0))]) (st' := [.int ((64 * (nI n)) + (nI c0)), .ref 42]) (w' := w2) rfl ?_
                refine gd_it (by decide) ?_
                refine gd_r E K 1 (pc' := 138) (lv' := [(0, .ref 27), (1, .int (nI fr)), (2, .int (nI goal)), (3, .int 0), (4, .int (nI n)), (5, .int (nI c0))]) (st' := [.int 0, .int ((64 * (nI n)) + (nI c0)), .ref 42]) (w' := w2) rfl ?_
                refine gd_zast E (K.1 138 (.bastore, 0) rfl).1 (j := 64 * n + c0) (by decide) (rfl) (by rw [show (64 : Int32) = nI 64 from rfl, pk_mul, nI_add]) (by omega) (by decide) (by decide) ?_
                refine gd_r E K 2 (pc' := 92) (lv' := [(0, .ref 27), (1, .int (nI fr)), (2, .int (nI goal)), (3, .int 0), (4, .int (nI n)), (5, .int ((nI c0) + 1))]) (st' := []) (w' := gd_rI w2 42 (upd (w2.1 42) (64 * n + c0) 0)) rfl ?_
                exact gd_cg (ih2 (c0 + 1) _ (by omega) (gs_rj_step hj (by omega) (by rw [hR2, hx, Bool.false_and]; rfl))) (by rw [nI_1]) rfl rfl
          exact gd_cg (inner 64 0 w1 (by omega) ⟨hi, fun c hc => by omega⟩) rfl rfl rfl
      | false =>
        refine gd_r E K 1 (pc' := if (gs_b (false)) = 0 then 89 else 75) (lv' := [(0, .ref 27), (1, .int (nI fr)), (2, .int (nI goal)), (3, .int 0), (4, .int (nI n))]) (st' := []) (w' := w1) rfl ?_
        refine gd_it (by decide) ?_
        refine gd_r E K 2 (pc' := 92) (lv' := [(0, .ref 27), (1, .int (nI fr)), (2, .int (nI goal)), (3, .int 0), (4, .int (nI n)), (5, .int 0)]) (st' := []) (w' := w1) rfl ?_
        have inner : ∀ i c0 w2, c0 + i = 64 → gs_rj (gs_rch S T cnt fr) w w2 n c0 → gd_G p l e (gd_rm 4 95) s m args below meth c D tC ad (gd_A ad 45 s.heap.size) 45 6 0 0 (MQ below (gd_Qp D tC ad 45 s.heap.size (fun r w' => r = some (.int (gm_nO (gs_way S T cnt fr goal false))) ∧ gf_r 42 w w' ∧ ∀ en, gs_way S T cnt fr goal false = some en → ∀ i, i < max en 1 → gs_blk w' 42 i 64 (gs_rch S T cnt fr i))) args s 0 0 (gd_A ad 45 s.heap.size)) 92 [(0, .ref 27), (1, .int (nI fr)), (2, .int (nI goal)), (3, .int 0), (4, .int (nI n)), (5, .int (nI c0))] [] w2 := by
          intro i
          induction i with
          | zero =>
            intro c0 w2 hc hj
            refine gd_r E K 2 (pc' := 96) (lv' := [(0, .ref 27), (1, .int (nI fr)), (2, .int (nI goal)), (3, .int 0), (4, .int (nI n)), (5, .int (nI c0))]) (st' := [.int 64, .int (nI c0)]) (w' := w2) rfl ?_
            refine gd_r E K 1 (pc' := if 64 ≤ (nI c0) then 145 else 99) (lv' := [(0, .ref 27), (1, .int (nI fr)), (2, .int (nI goal)), (3, .int 0), (4, .int (nI n)), (5, .int (nI c0))]) (st' := []) (w' := w2) rfl ?_
            refine gd_it (nI_le (show 64 ≤ c0 by omega) (by omega)) ?_
            refine gd_r E K 2 (pc' := 58) (lv' := [(0, .ref 27), (1, .int (nI fr)), (2, .int (nI goal)), (3, .int 0), (4, .int ((nI n) + 1)), (5, .int (nI c0))]) (st' := []) (w' := w2) rfl ?_
            refine gd_lvp [0, 1, 2, 3, 4] (lv' := [(0, .ref 27), (1, .int (nI fr)), (2, .int (nI goal)), (3, .int 0), (4, .int ((nI n) + 1))]) rfl ?_
            exact gd_cg (ih (n + 1) w2 (by omega) (by omega) (gs_rj_end (by rw [show (64 : Nat) = c0 by omega]; exact hj)) (by rw [hres, gs_fst, if_neg (by rw [hnx]; simp)])) (by rw [nI_1]) rfl rfl
          | succ i ih2 =>
            intro c0 w2 hc hj
            have hK2 := hj.1.1.KK (by decide) hK
            have hT2 := hj.1.1.tab (by decide) (by decide) hT
            have hR2 : gs_rch S T cnt fr n c0 = (gs_any (fun k => gs_atO (gs_rch S T cnt fr (n - 1)) (gm_mv c0 k)) 5 && gs_be S T cnt c0 n) := by
              obtain ⟨n0, rfl⟩ : ∃ n0, n = n0 + 1 := ⟨n - 1, by omega⟩
              rfl
            refine gd_r E K 2 (pc' := 96) (lv' := [(0, .ref 27), (1, .int (nI fr)), (2, .int (nI goal)), (3, .int 0), (4, .int (nI n)), (5, .int (nI c0))]) (st' := [.int 64, .int (nI c0)]) (w' := w2) rfl ?_
            refine gd_r E K 1 (pc' := if 64 ≤ (nI c0) then 145 else 99) (lv' := [(0, .ref 27), (1, .int (nI fr)), (2, .int (nI goal)), (3, .int 0), (4, .int (nI n)), (5, .int (nI c0))]) (st' := []) (w' := w2) rfl ?_
            refine gd_if (nI_ge (show c0 < 64 by omega) (by decide)) ?_
            refine gd_r E K 10 (pc' := 116) (lv' := [(0, .ref 27), (1, .int (nI fr)), (2, .int (nI goal)), (3, .int 0), (4, .int (nI n)), (5, .int (nI c0))]) (st' := [.int (nI n), .int (nI c0), .ref 27, .int ((64 * (nI n)) + (nI c0)), .ref 42]) (w' := w2) rfl ?_
            refine gd_cV E hA (av := [.int (nI c0), .int (nI n)]) (rest := [.int ((64 * (nI n)) + (nI c0)), .ref 42]) (c2_isNext hinj w2 (gs_rch S T cnt fr (n - 1)) c0 n (by omega) h1 (by omega) (hj.1.2 (n - 1) (by omega))) (K.1 116 (.invokevirtual 105, 0) rfl).1 ml_M_105 cv_M_isNext (by decide) (rfl) ⟨Nat.le_of_ble_eq_true rfl, Nat.le_of_ble_eq_true rfl⟩ ⟨Nat.zero_le _, Nat.zero_le _⟩ rfl (Nat.le_of_ble_eq_true rfl) ?_
            cases hx : gs_any (fun k => gs_atO (gs_rch S T cnt fr (n - 1)) (gm_mv c0 k)) 5 with
            | true =>
              refine gd_r E K 1 (pc' := if (gs_b (true)) = 0 then 137 else 122) (lv' := [(0, .ref 27), (1, .int (nI fr)), (2, .int (nI goal)), (3, .int 0), (4, .int (nI n)), (5, .int (nI c0))]) (st' := [.int ((64 * (nI n)) + (nI c0)), .ref 42]) (w' := w2) rfl ?_
              refine gd_if (by decide) ?_
              refine gd_r E K 3 (pc' := 127) (lv' := [(0, .ref 27), (1, .int (nI fr)), (2, .int (nI goal)), (3, .int 0), (4, .int (nI n)), (5, .int (nI c0))]) (st' := [.int (nI n), .int (nI c0), .ref 27, .int ((64 * (nI n)) + (nI c0)), .ref 42]) (w' := w2) rfl ?_
              refine gd_cV E hA (av := [.int (nI c0), .int (nI n)]) (rest := [.int ((64 * (nI n)) + (nI c0)), .ref 42]) (c2_canBe hinj w2 hK2 hT2 c0 n (by omega) h1 (by omega)) (K.1 127 (.invokevirtual 108, 0) rfl).1 ml_M_108 cv_M_canBe (by decide) (rfl) ⟨Nat.le_of_ble_eq_true rfl, Nat.le_of_ble_eq_true rfl⟩ ⟨Nat.zero_le _, Nat.zero_le _⟩ rfl (Nat.le_of_ble_eq_true rfl) ?_
              cases hb2 : gs_be S T cnt c0 n with
              | true =>
                refine gd_r E K 1 (pc' := if (gs_b (true)) = 0 then 137 else 133) (lv' := [(0, .ref 27), (1, .int (nI fr)), (2, .int (nI goal)), (3, .int 0), (4, .int (nI n)), (5, .int (nI c0))]) (st' := [.int ((64 * (nI n)) + (nI c0)), .ref 42]) (w' := w2) rfl ?_
                refine gd_if (by decide) ?_
                refine gd_r E K 2 (pc' := 138) (lv' := [(0, .ref 27), (1, .int (nI fr)), (2, .int (nI goal)), (3, .int 0), (4, .int (nI n)), (5, .int (nI c0))]) (st' := [.int 1, .int ((64 * (nI n)) + (nI c0)), .ref 42]) (w' := w2) rfl ?_
                refine gd_zast E (K.1 138 (.bastore, 0) rfl).1 (j := 64 * n + c0) (by decide) (rfl) (by rw [show (64 : Int32) = nI 64 from rfl, pk_mul, nI_add]) (by omega) (by decide) (by decide) ?_
                refine gd_r E K 2 (pc' := 92) (lv' := [(0, .ref 27), (1, .int (nI fr)), (2, .int (nI goal)), (3, .int 0), (4, .int (nI n)), (5, .int ((nI c0) + 1))]) (st' := []) (w' := gd_rI w2 42 (upd (w2.1 42) (64 * n + c0) 1)) rfl ?_
                exact gd_cg (ih2 (c0 + 1) _ (by omega) (gs_rj_step hj (by omega) (by rw [hR2, hx, hb2]; rfl))) (by rw [nI_1]) rfl rfl
              | false =>
                refine gd_r E K 1 (pc' := if (gs_b (false)) = 0 then 137 else 133) (lv' := [(0, .ref 27), (1, .int (nI fr)), (2, .int (nI goal)), (3, .int 0), (4, .int (nI n)), (5, .int (nI c0))]) (st' := [.int ((64 * (nI n)) + (nI c0)), .ref 42]) (w' := w2) rfl ?_
                refine gd_it (by decide) ?_
                refine gd_r E K 1 (pc' := 138) (lv' := [(0, .ref 27), (1, .int (nI fr)), (2, .int (nI goal)), (3, .int 0), (4, .int (nI n)), (5, .int (nI c0))]) (st' := [.int 0, .int ((64 * (nI n)) + (nI c0)), .ref 42]) (w' := w2) rfl ?_
                refine gd_zast E (K.1 138 (.bastore, 0) rfl).1 (j := 64 * n + c0) (by decide) (rfl) (by rw [show (64 : Int32) = nI 64 from rfl, pk_mul, nI_add]) (by omega) (by decide) (by decide) ?_
                refine gd_r E K 2 (pc' := 92) (lv' := [(0, .ref 27), (1, .int (nI fr)), (2, .int (nI goal)), (3, .int 0), (4, .int (nI n)), (5, .int ((nI c0) + 1))]) (st' := []) (w' := gd_rI w2 42 (upd (w2.1 42) (64 * n + c0) 0)) rfl ?_
                exact gd_cg (ih2 (c0 + 1) _ (by omega) (gs_rj_step hj (by omega) (by rw [hR2, hx, hb2]; rfl))) (by rw [nI_1]) rfl rfl
            | false =>
              refine gd_r E K 1 (pc' := if (gs_b (false)) = 0 then 137 else 122) (lv' := [(0, .ref 27), (1, .int (nI fr)), (2, .int (nI goal)), (3, .int 0), (4, .int (nI n)), (5, .int (nI c0))]) (st' := [.int ((64 * (nI n)) + (nI c0)), .ref 42]) (w' := w2) rfl ?_
              refine gd_it (by decide) ?_
              refine gd_r E K 1 (pc' := 138) (lv' := [(0, .ref 27), (1, .int (nI fr)), (2, .int (nI goal)), (3, .int 0), (4, .int (nI n)), (5, .int (nI c0))]) (st' := [.int 0, .int ((64 * (nI n)) + (nI c0)), .ref 42]) (w' := w2) rfl ?_
              refine gd_zast E (K.1 138 (.bastore, 0) rfl).1 (j := 64 * n + c0) (by decide) (rfl) (by rw [show (64 : Int32) = nI 64 from rfl, pk_mul, nI_add]) (by omega) (by decide) (by decide) ?_
              refine gd_r E K 2 (pc' := 92) (lv' := [(0, .ref 27), (1, .int (nI fr)), (2, .int (nI goal)), (3, .int 0), (4, .int (nI n)), (5, .int ((nI c0) + 1))]) (st' := []) (w' := gd_rI w2 42 (upd (w2.1 42) (64 * n + c0) 0)) rfl ?_
              exact gd_cg (ih2 (c0 + 1) _ (by omega) (gs_rj_step hj (by omega) (by rw [hR2, hx, Bool.false_and]; rfl))) (by rw [nI_1]) rfl rfl
        exact gd_cg (inner 64 0 w1 (by omega) ⟨hi, fun c hc => by omega⟩) rfl rfl rfl
  have zero : ∀ i c0 w1, c0 + i = 64 → gs_rj (gs_rch S T cnt fr) w w1 0 c0 → gd_G p l e (gd_rm 4 95) s m args below meth c D tC ad (gd_A ad 45 s.heap.size) 45 6 0 0 (MQ below (gd_Qp D tC ad 45 s.heap.size (fun r w' => r = some (.int (gm_nO (gs_way S T cnt fr goal false))) ∧ gf_r 42 w w' ∧ ∀ en, gs_way S T cnt fr goal false = some en → ∀ i, i < max en 1 → gs_blk w' 42 i 64 (gs_rch S T cnt fr i))) args s 0 0 (gd_A ad 45 s.heap.size)) 3 [(0, .ref 27), (1, .int (nI fr)), (2, .int (nI goal)), (3, .int 0), (4, .int (nI c0))] [] w1 := by
    intro i
    induction i with
    | zero =>
      intro c0 w1 hc hj
      refine gd_r E K 2 (pc' := 7) (lv' := [(0, .ref 27), (1, .int (nI fr)), (2, .int (nI goal)), (3, .int 0), (4, .int (nI c0))]) (st' := [.int 64, .int (nI c0)]) (w' := w1) rfl ?_
      refine gd_r E K 1 (pc' := if 64 ≤ (nI c0) then 34 else 10) (lv' := [(0, .ref 27), (1, .int (nI fr)), (2, .int (nI goal)), (3, .int 0), (4, .int (nI c0))]) (st' := []) (w' := w1) rfl ?_
      refine gd_it (nI_le (show 64 ≤ c0 by omega) (by omega)) ?_
      have hi : gs_ri (gs_rch S T cnt fr) w w1 1 := gs_rj_end (by rw [show (64 : Nat) = c0 by omega]; exact hj)
      refine gd_r E K 4 (pc' := 40) (lv' := [(0, .ref 27), (1, .int (nI fr)), (2, .int (nI goal)), (3, .int 0), (4, .int (nI c0))]) (st' := [.int (nI goal), .int (nI fr)]) (w' := w1) rfl ?_
      by_cases hfg : fr = goal
      · refine gd_r E K 1 (pc' := if (nI fr) = (nI goal) then 43 else 55) (lv' := [(0, .ref 27), (1, .int (nI fr)), (2, .int (nI goal)), (3, .int 0), (4, .int (nI c0))]) (st' := []) (w' := w1) rfl ?_
        refine gd_it (by rw [hfg]) ?_
        refine gd_r E K 4 (pc' := 47) (lv' := [(0, .ref 27), (1, .int (nI fr)), (2, .int (nI goal)), (3, .int 0), (4, .int (nI c0))]) (st' := [.int 0, .int 0, .int (nI goal), .ref 27]) (w' := w1) rfl ?_
        refine gd_cg (lv' := [(0, .ref 27), (1, .int (nI fr)), (2, .int (nI goal)), (3, .int 0), (4, .int (nI c0))]) (st' := [.int 0, .int (nI 0), .int (nI goal), .ref 27]) (w' := w1) ?_ (rfl) (rfl) (rfl)
        refine gd_cV E hA (av := [.int (nI goal), .int (nI 0), .int 0]) (rest := []) (c2_canEndS hinj w1 (hi.1.KK (by decide) hK) (hi.1.tab (by decide) (by decide) hT) goal 0 hg (by omega)) (K.1 47 (.invokevirtual 101, 0) rfl).1 ml_M_101 cv_M_canEnd (by decide) (rfl) ⟨Nat.le_of_ble_eq_true rfl, Nat.le_of_ble_eq_true rfl⟩ ⟨Nat.zero_le _, Nat.zero_le _⟩ rfl (Nat.le_of_ble_eq_true rfl) ?_
        cases hen : gs_end S T cnt goal 0 false with
        | true =>
          refine gd_r E K 1 (pc' := if (gs_b (true)) = 0 then 55 else 53) (lv' := [(0, .ref 27), (1, .int (nI fr)), (2, .int (nI goal)), (3, .int 0), (4, .int (nI c0))]) (st' := []) (w' := w1) rfl ?_
          refine gd_if (by decide) ?_
          refine gd_r E K 1 (pc' := 54) (lv' := [(0, .ref 27), (1, .int (nI fr)), (2, .int (nI goal)), (3, .int 0), (4, .int (nI c0))]) (st' := [.int 0]) (w' := w1) rfl ?_
          have hfin : gs_way S T cnt fr goal false = some 0 := by rw [gs_way, if_pos ⟨rfl, hfg, hen⟩]
          exact gd_iretp E hr hlk (K.1 54 (.ireturn, 0) rfl).1 (⟨by rw [hfin]; rfl, hi.1, fun en he i hi2 => by rw [hfin] at he; cases he; exact hi.2 i (by omega)⟩)
        | false =>
          refine gd_r E K 1 (pc' := if (gs_b (false)) = 0 then 55 else 53) (lv' := [(0, .ref 27), (1, .int (nI fr)), (2, .int (nI goal)), (3, .int 0), (4, .int (nI c0))]) (st' := []) (w' := w1) rfl ?_
          refine gd_it (by decide) ?_
          refine gd_r E K 2 (pc' := 58) (lv' := [(0, .ref 27), (1, .int (nI fr)), (2, .int (nI goal)), (3, .int 0), (4, .int 1)]) (st' := []) (w' := w1) rfl ?_
          exact gd_cg (loop 60 1 w1 (by omega) (by omega) hi (by rw [gs_way, if_neg (fun h => by rw [hen] at h; cases h.2.2)])) rfl rfl rfl
      · refine gd_r E K 1 (pc' := if (nI fr) = (nI goal) then 43 else 55) (lv' := [(0, .ref 27), (1, .int (nI fr)), (2, .int (nI goal)), (3, .int 0), (4, .int (nI c0))]) (st' := []) (w' := w1) rfl ?_
        refine gd_if (by rw [nI_eq (by omega) (by omega)]; exact hfg) ?_
        refine gd_r E K 2 (pc' := 58) (lv' := [(0, .ref 27), (1, .int (nI fr)), (2, .int (nI goal)), (3, .int 0), (4, .int 1)]) (st' := []) (w' := w1) rfl ?_
        exact gd_cg (loop 60 1 w1 (by omega) (by omega) hi (by rw [gs_way, if_neg (fun h => hfg h.2.1)])) rfl rfl rfl
    | succ i ih =>
      intro c0 w1 hc hj
      refine gd_r E K 2 (pc' := 7) (lv' := [(0, .ref 27), (1, .int (nI fr)), (2, .int (nI goal)), (3, .int 0), (4, .int (nI c0))]) (st' := [.int 64, .int (nI c0)]) (w' := w1) rfl ?_
      refine gd_r E K 1 (pc' := if 64 ≤ (nI c0) then 34 else 10) (lv' := [(0, .ref 27), (1, .int (nI fr)), (2, .int (nI goal)), (3, .int 0), (4, .int (nI c0))]) (st' := []) (w' := w1) rfl ?_
      refine gd_if (nI_ge (show c0 < 64 by omega) (by decide)) ?_
      refine gd_r E K 5 (pc' := 19) (lv' := [(0, .ref 27), (1, .int (nI fr)), (2, .int (nI goal)), (3, .int 0), (4, .int (nI c0))]) (st' := [.int (nI fr), .int (nI c0), .int (nI c0), .ref 42]) (w' := w1) rfl ?_
      by_cases hcf : c0 = fr
      · refine gd_r E K 1 (pc' := if (nI c0) = (nI fr) then 22 else 26) (lv' := [(0, .ref 27), (1, .int (nI fr)), (2, .int (nI goal)), (3, .int 0), (4, .int (nI c0))]) (st' := [.int (nI c0), .ref 42]) (w' := w1) rfl ?_
        refine gd_it (by rw [hcf]) ?_
        refine gd_r E K 2 (pc' := 27) (lv' := [(0, .ref 27), (1, .int (nI fr)), (2, .int (nI goal)), (3, .int 0), (4, .int (nI c0))]) (st' := [.int 1, .int (nI c0), .ref 42]) (w' := w1) rfl ?_
        refine gd_zast E (K.1 27 (.bastore, 0) rfl).1 (j := 64 * 0 + c0) (by decide) (rfl) (by rw [show 64 * 0 + c0 = c0 by omega]) (by omega) (by decide) (by decide) ?_
        refine gd_r E K 2 (pc' := 3) (lv' := [(0, .ref 27), (1, .int (nI fr)), (2, .int (nI goal)), (3, .int 0), (4, .int ((nI c0) + 1))]) (st' := []) (w' := gd_rI w1 42 (upd (w1.1 42) (64 * 0 + c0) 1)) rfl ?_
        exact gd_cg (ih (c0 + 1) _ (by omega) (gs_rj_step hj (by omega) (by rw [gs_rch, decide_eq_true hcf]; rfl))) (by rw [nI_1]) rfl rfl
      · refine gd_r E K 1 (pc' := if (nI c0) = (nI fr) then 22 else 26) (lv' := [(0, .ref 27), (1, .int (nI fr)), (2, .int (nI goal)), (3, .int 0), (4, .int (nI c0))]) (st' := [.int (nI c0), .ref 42]) (w' := w1) rfl ?_
        refine gd_if (by rw [nI_eq (by omega) (by omega)]; exact hcf) ?_
        refine gd_r E K 1 (pc' := 27) (lv' := [(0, .ref 27), (1, .int (nI fr)), (2, .int (nI goal)), (3, .int 0), (4, .int (nI c0))]) (st' := [.int 0, .int (nI c0), .ref 42]) (w' := w1) rfl ?_
        refine gd_zast E (K.1 27 (.bastore, 0) rfl).1 (j := 64 * 0 + c0) (by decide) (rfl) (by rw [show 64 * 0 + c0 = c0 by omega]) (by omega) (by decide) (by decide) ?_
        refine gd_r E K 2 (pc' := 3) (lv' := [(0, .ref 27), (1, .int (nI fr)), (2, .int (nI goal)), (3, .int 0), (4, .int ((nI c0) + 1))]) (st' := []) (w' := gd_rI w1 42 (upd (w1.1 42) (64 * 0 + c0) 0)) rfl ?_
        exact gd_cg (ih (c0 + 1) _ (by omega) (gs_rj_step hj (by omega) (by rw [gs_rch, decide_eq_false hcf]; rfl))) (by rw [nI_1]) rfl rfl
  refine gd_r E K 2 (pc' := 3) (lv' := [(0, .ref 27), (1, .int (nI fr)), (2, .int (nI goal)), (3, .int 0), (4, .int 0)]) (st' := []) (w' := w) rfl ?_
  exact gd_cg (zero 64 0 w (by omega) (gs_ri_0 (gf_r.refl 42 w))) rfl rfl rfl
end
section
/-! Ways: what the search's sets say. -/
theorem gs_any_iff (f : Nat → Bool) : ∀ n, gs_any f n = true ↔ ∃ i, i < n ∧ f i = true
  | 0 => by simp [gs_any]
  | n + 1 => by
    rw [gs_any, Bool.or_eq_true, gs_any_iff f n]
    constructor
    · rintro (⟨i, h1, h2⟩ | h)
      · exact ⟨i, by omega, h2⟩
      · exact ⟨n, by omega, h⟩
    · rintro ⟨i, h1, h2⟩
      by_cases e : i = n
      · subst e; exact Or.inr h2
      · exact Or.inl ⟨i, by omega, h2⟩
theorem gs_atO_iff {r : Nat → Bool} {x : Option Nat} : gs_atO r x = true ↔ ∃ b, x = some b ∧ r b = true := by
  cases x with
  | none => simp [gs_atO]
  | some b => simp [gs_atO]
theorem gm_mv_sym {c m b : Nat} (hc : c < 64) (hm : m < 5) (h : gm_mv c m = some b) : ∃ k, k < 5 ∧ gm_mv b k = some c := by
  rcases (by omega : m = 0 ∨ m = 1 ∨ m = 2 ∨ m = 3 ∨ m = 4) with rfl | rfl | rfl | rfl | rfl
  · rw [gm_mv_0] at h; cases h; exact ⟨0, by omega, rfl⟩
  · rw [gm_mv_1] at h
    split at h
    · cases h; exact ⟨3, by omega, by rw [gm_mv_3, if_pos (by omega)]; congr 1; omega⟩
    · cases h
  · rw [gm_mv_2] at h
    split at h
    · cases h; exact ⟨4, by omega, by rw [gm_mv_4, if_pos (by omega)]; congr 1⟩
    · cases h
  · rw [gm_mv_3] at h
    split at h
    · cases h; exact ⟨1, by omega, by rw [gm_mv_1, if_pos (by omega)]; congr 1⟩
    · cases h
  · rw [gm_mv_4] at h
    split at h
    · cases h; exact ⟨2, by omega, by rw [gm_mv_2, if_pos (by omega)]; congr 1; omega⟩
    · cases h
theorem gs_fst_some (f : Nat → Bool) : ∀ {k n x : Nat}, gs_fst f n k = some x → n ≤ x ∧ x < n + k ∧ f x = true ∧ ∀ y, n ≤ y → y < x → f y = false
  | 0, n, x, h => by cases h
  | k + 1, n, x, h => by
    rw [gs_fst] at h
    split at h
    · rename_i hf
      cases h
      exact ⟨Nat.le_refl _, by omega, hf, fun y h1 h2 => by omega⟩
    · rename_i hf
      obtain ⟨h1, h2, h3, h4⟩ := gs_fst_some f h
      refine ⟨by omega, by omega, h3, fun y hy1 hy2 => ?_⟩
      by_cases e : y = n
      · subst e; simpa using hf
      · exact h4 y (by omega) hy2
theorem gs_fst_none (f : Nat → Bool) : ∀ {k n : Nat}, gs_fst f n k = none → ∀ y, n ≤ y → y < n + k → f y = false
  | 0, n, h => fun y h1 h2 => by omega
  | k + 1, n, h => by
    rw [gs_fst] at h
    split at h
    · cases h
    · rename_i hf
      intro y h1 h2
      by_cases e : y = n
      · subst e; simpa using hf
      · exact gs_fst_none f h y (by omega) (by omega)
/-- the cells from which the goal is reached in the steps that are left -/
def gs_led (R : Nat → Nat → Bool) (goal en : Nat) : Nat → Nat → Bool
  | 0, c => decide (c = goal)
  | k + 1, c => gs_any (fun m => gs_atO (gs_led R goal en k) (gm_mv c m)) 5 && R (en - (k + 1)) c
def gs_lm (f : Nat → Bool) : Nat := if f 0 then 0 else if f 1 then 1 else if f 2 then 2 else if f 3 then 3 else if f 4 then 4 else 0
theorem gs_lm_spec {f : Nat → Bool} (h : ∃ m, m < 5 ∧ f m = true) : gs_lm f < 5 ∧ f (gs_lm f) = true ∧ ∀ m, m < gs_lm f → f m = false := by
  unfold gs_lm
  cases h0 : f 0 with
  | true => exact ⟨by simp, by simp [h0], fun m hm => by simp at hm⟩
  | false =>
    cases h1 : f 1 with
    | true => exact ⟨by simp, by simp [h1], fun m hm => by simp at hm; subst hm; exact h0⟩
    | false =>
      cases h2 : f 2 with
      | true => exact ⟨by simp, by simp [h2], fun m hm => by simp at hm; rcases (by omega : m = 0 ∨ m = 1) with rfl | rfl; exact h0; exact h1⟩
      | false =>
        cases h3 : f 3 with
        | true => exact ⟨by simp, by simp [h3], fun m hm => by simp at hm; rcases (by omega : m = 0 ∨ m = 1 ∨ m = 2) with rfl | rfl | rfl; exact h0; exact h1; exact h2⟩
        | false =>
          cases h4 : f 4 with
          | true => exact ⟨by simp, by simp [h4], fun m hm => by simp at hm; rcases (by omega : m = 0 ∨ m = 1 ∨ m = 2 ∨ m = 3) with rfl | rfl | rfl | rfl; exact h0; exact h1; exact h2; exact h3⟩
          | false =>
            obtain ⟨m, hm, hf⟩ := h
            rcases (by omega : m = 0 ∨ m = 1 ∨ m = 2 ∨ m = 3 ∨ m = 4) with rfl | rfl | rfl | rfl | rfl
            · rw [h0] at hf; cases hf
            · rw [h1] at hf; cases hf
            · rw [h2] at hf; cases hf
            · rw [h3] at hf; cases hf
            · rw [h4] at hf; cases hf
def gs_rtc (L : Nat → Nat → Bool) (en fr : Nat) : Nat → Nat
  | 0 => fr
  | n + 1 => (gm_mv (gs_rtc L en fr n) (gs_lm fun m => gs_atO (L (en - (n + 1))) (gm_mv (gs_rtc L en fr n) m))).getD 0
def gs_rtm (L : Nat → Nat → Bool) (en fr n : Nat) : Nat := gs_lm fun m => gs_atO (L (en - (n + 1))) (gm_mv (gs_rtc L en fr n) m)
theorem gs_rch_prev {S : gs_T} {T : Nat → Nat → Option Nat} {cnt fr n c : Nat} (h : gs_rch S T cnt fr (n + 1) c = true) : ∃ m b, m < 5 ∧ gm_mv c m = some b ∧ gs_rch S T cnt fr n b = true := by
  rw [gs_rch, Bool.and_eq_true] at h
  obtain ⟨m, hm, h1⟩ := (gs_any_iff _ _).mp h.1
  obtain ⟨b, h2, h3⟩ := gs_atO_iff.mp h1
  exact ⟨m, b, hm, h2, h3⟩
theorem gs_led_ex {S : gs_T} {T : Nat → Nat → Option Nat} {cnt fr goal en : Nat} (hg : goal < 64) (h1 : 1 ≤ en) (hn : gs_nxt (gs_rch S T cnt fr) en goal = true) : ∀ k, k ≤ en → ∃ c, c < 64 ∧ gs_led (gs_rch S T cnt fr) goal en k c = true ∧ (1 ≤ k → gs_rch S T cnt fr (en - k) c = true)
  | 0, _ => ⟨goal, hg, by simp [gs_led], fun h => by omega⟩
  | k + 1, hk => by
    obtain ⟨c, hc, hl, hr⟩ := gs_led_ex hg h1 hn k (by omega)
    have key : ∃ m b, m < 5 ∧ gm_mv c m = some b ∧ gs_rch S T cnt fr (en - (k + 1)) b = true := by
      by_cases e : k = 0
      · subst e
        have hcg : c = goal := by simpa [gs_led] using hl
        subst hcg
        obtain ⟨m, hm, h2⟩ := (gs_any_iff _ _).mp hn
        obtain ⟨b, h3, h4⟩ := gs_atO_iff.mp h2
        exact ⟨m, b, hm, h3, h4⟩
      · have h2 := hr (by omega)
        rw [show en - k = (en - (k + 1)) + 1 by omega] at h2
        exact gs_rch_prev h2
    obtain ⟨m, b, hm, h3, h4⟩ := key
    obtain ⟨m2, hm2, h5⟩ := gm_mv_sym hc hm h3
    refine ⟨b, gm_mv_lt hc h3, ?_, fun _ => h4⟩
    rw [gs_led, Bool.and_eq_true]
    exact ⟨(gs_any_iff _ _).mpr ⟨m2, hm2, gs_atO_iff.mpr ⟨c, h5, hl⟩⟩, h4⟩
theorem gs_way_some {S : gs_T} {T : Nat → Nat → Option Nat} {cnt fr goal en : Nat} {joins : Bool} (h : gs_way S T cnt fr goal joins = some en) : (en = 0 ∧ joins = false ∧ fr = goal ∧ gs_end S T cnt goal 0 false = true) ∨ (1 ≤ en ∧ en ≤ 60 ∧ gs_nxt (gs_rch S T cnt fr) en goal = true ∧ gs_end S T cnt goal en joins = true) := by
  unfold gs_way at h
  split at h
  · rename_i hc
    cases h
    exact Or.inl ⟨rfl, hc⟩
  · obtain ⟨h1, h2, h3, -⟩ := gs_fst_some _ h
    rw [Bool.and_eq_true] at h3
    exact Or.inr ⟨h1, by omega, h3⟩
theorem gs_way_le {S : gs_T} {T : Nat → Nat → Option Nat} {cnt fr goal en : Nat} {joins : Bool} (h : gs_way S T cnt fr goal joins = some en) : en ≤ 60 := by
  rcases gs_way_some h with h1 | h1 <;> omega
/-- the start leads to the goal -/
theorem gs_led_fr {S : gs_T} {T : Nat → Nat → Option Nat} {cnt fr goal en : Nat} {joins : Bool} (hg : goal < 64) (h : gs_way S T cnt fr goal joins = some en) : gs_led (gs_rch S T cnt fr) goal en en fr = true := by
  rcases gs_way_some h with ⟨h1, -, h2, -⟩ | ⟨h1, h2, h3, -⟩
  · subst h1; subst h2; simp [gs_led]
  · obtain ⟨c, hc, hl, hr⟩ := gs_led_ex hg h1 h3 en (Nat.le_refl _)
    have h4 := hr h1
    rw [Nat.sub_self, gs_rch] at h4
    have h5 : c = fr := by simpa using h4
    subst h5
    exact hl
theorem gs_rtc_ok {S : gs_T} {T : Nat → Nat → Option Nat} {cnt fr goal en : Nat} {joins : Bool} (hf : fr < 64) (hg : goal < 64) (h : gs_way S T cnt fr goal joins = some en) : ∀ n, n ≤ en → gs_rtc (gs_led (gs_rch S T cnt fr) goal en) en fr n < 64 ∧ gs_led (gs_rch S T cnt fr) goal en (en - n) (gs_rtc (gs_led (gs_rch S T cnt fr) goal en) en fr n) = true
  | 0, _ => ⟨hf, by rw [Nat.sub_zero]; exact gs_led_fr hg h⟩
  | n + 1, hn => by
    obtain ⟨h1, h2⟩ := gs_rtc_ok hf hg h n (by omega)
    rw [show en - n = (en - (n + 1)) + 1 by omega, gs_led, Bool.and_eq_true] at h2
    obtain ⟨m1, m2, -⟩ := gs_lm_spec ((gs_any_iff _ _).mp h2.1)
    obtain ⟨b, h3, h4⟩ := gs_atO_iff.mp m2
    rw [gs_rtc]
    rw [h3]
    exact ⟨gm_mv_lt h1 h3, h4⟩
theorem gs_rtc_mv {S : gs_T} {T : Nat → Nat → Option Nat} {cnt fr goal en : Nat} {joins : Bool} (hf : fr < 64) (hg : goal < 64) (h : gs_way S T cnt fr goal joins = some en) {n : Nat} (hn : n < en) :
    (∃ m, m < 5 ∧ gs_atO (gs_led (gs_rch S T cnt fr) goal en (en - (n + 1))) (gm_mv (gs_rtc (gs_led (gs_rch S T cnt fr) goal en) en fr n) m) = true) ∧ gm_mv (gs_rtc (gs_led (gs_rch S T cnt fr) goal en) en fr n) (gs_rtm (gs_led (gs_rch S T cnt fr) goal en) en fr n) = some (gs_rtc (gs_led (gs_rch S T cnt fr) goal en) en fr (n + 1)) := by
  obtain ⟨h1, h2⟩ := gs_rtc_ok hf hg h n (by omega)
  rw [show en - n = (en - (n + 1)) + 1 by omega, gs_led, Bool.and_eq_true] at h2
  have hex := (gs_any_iff _ _).mp h2.1
  refine ⟨hex, ?_⟩
  obtain ⟨m1, m2, -⟩ := gs_lm_spec hex
  obtain ⟨b, h3, h4⟩ := gs_atO_iff.mp m2
  rw [gs_rtc, gs_rtm]
  rw [h3]
  rfl
def gs_pr (n : Nat) : Int32 := match n with
  | 0 => -1
  | k + 1 => nI k
theorem gs_pr_sub (n : Nat) : nI n - 1 = gs_pr n := by
  cases n with
  | zero => decide
  | succ k => exact nI_pred k
theorem gs_pr_add (n : Nat) : nI n + (-1) = gs_pr n := by
  cases n with
  | zero => decide
  | succ k => exact pk_m1 k
end
section
def gs_li (L : Nat → Nat → Bool) (en : Nat) (w1 w2 : gd_W) (n : Nat) : Prop := gf_r 43 w1 w2 ∧ ∀ i, n ≤ i → i ≤ en → gs_blk w2 43 i 64 (L (en - i))
def gs_lj (L : Nat → Nat → Bool) (en : Nat) (w1 w2 : gd_W) (n c : Nat) : Prop := gs_li L en w1 w2 (n + 1) ∧ gs_blk w2 43 n c (L (en - n))
theorem gs_lj_step {L : Nat → Nat → Bool} {en : Nat} {w1 w2 : gd_W} {n c : Nat} {v : Int32} (h : gs_lj L en w1 w2 n c) (hc : c < 64) (hv : v = gs_b (L (en - n) c)) : gs_lj L en w1 (gd_rI w2 43 (upd (w2.1 43) (64 * n + c) v)) n (c + 1) :=
  ⟨⟨h.1.1.trans (gf_r.upd _ _ _), fun i hi hi2 => gs_blk_keep (h.1.2 i hi hi2) (by omega) (Nat.le_refl _) hc⟩, gs_blk_step h.2 hv⟩
theorem gs_lj_end {L : Nat → Nat → Bool} {en : Nat} {w1 w2 : gd_W} {n : Nat} (h : gs_lj L en w1 w2 n 64) : gs_li L en w1 w2 n :=
  ⟨h.1.1, fun i hi hi2 => by
    by_cases e : i = n
    · subst e; exact h.2
    · exact h.1.2 i (by omega) hi2⟩
/-- the moves of droplet d are laid, the first n of them -/
def gs_lr (w2 w3 : gd_W) (d n : Nat) (mv : Nat → Nat) : Prop := gf_r 33 w2 w3 ∧ (∀ i, i < n → w3.1 33 (60 * d + i) = nI (mv i)) ∧ ∀ j, (j < 60 * d ∨ 60 * d + 60 ≤ j) → w3.1 33 j = w2.1 33 j
theorem gs_lr_step {w2 w3 : gd_W} {d n : Nat} {mv : Nat → Nat} (h : gs_lr w2 w3 d n mv) (hn : n < 60) : gs_lr w2 (gd_rI w3 33 (upd (w3.1 33) (60 * d + n) (nI (mv n)))) d (n + 1) mv := by
  refine ⟨h.1.trans (gf_r.upd _ _ _), fun i hi => ?_, fun j hj => ?_⟩
  · rw [gd_rI_s]
    by_cases e : i = n
    · subst e; rw [gd_u_s]
    · rw [gd_u_n (by omega)]; exact h.2.1 i (by omega)
  · rw [gd_rI_s, gd_u_n (by omega)]
    exact h.2.2 j hj
/-- what laying a way leaves -/
def gs_laid (w w' : gd_W) (d en : Nat) (mv : Nat → Nat) : Prop := (∀ a, a ≠ 33 → a ≠ 34 → a ≠ 35 → a ≠ 42 → a ≠ 43 → w'.1 a = w.1 a) ∧ w'.2 = w.2 ∧ (∀ i, i < en → w'.1 33 (60 * d + i) = nI (mv i)) ∧ (∀ j, (j < 60 * d ∨ 60 * d + 60 ≤ j) → w'.1 33 j = w.1 33 j) ∧ w'.1 34 = upd (w.1 34) d (nI en) ∧ w'.1 35 = upd (w.1 35) d 0
theorem gs_laid_of {w w1 w2 w3 : gd_W} {d en : Nat} {mv : Nat → Nat} (h1 : gf_r 42 w w1) (h2 : gf_r 43 w1 w2) (h3 : gs_lr w2 w3 d en mv) : gs_laid w (gd_rI (gd_rI w3 34 (upd (w3.1 34) d (nI en))) 35 (upd ((gd_rI w3 34 (upd (w3.1 34) d (nI en))).1 35) d 0)) d en mv := by
  obtain ⟨g1, g2, g3⟩ := h3
  have far : ∀ a, a ≠ 33 → a ≠ 42 → a ≠ 43 → w3.1 a = w.1 a := fun a a1 a2 a3 => (g1.1 a a1).trans ((h2.1 a a3).trans (h1.1 a a2))
  refine ⟨fun a a1 a2 a3 a4 a5 => ?_, ?_, fun i hi => ?_, fun j hj => ?_, ?_, ?_⟩
  · rw [gd_rI_n a3, gd_rI_n a2]; exact far a a1 a4 a5
  · show w3.2 = w.2
    exact g1.2.trans (h2.2.trans h1.2)
  · rw [gd_rI_n (by decide), gd_rI_n (by decide)]; exact g2 i hi
  · rw [gd_rI_n (by decide), gd_rI_n (by decide), g3 j hj, h2.1 33 (by decide), h1.1 33 (by decide)]
  · rw [gd_rI_n (by decide), gd_rI_s, far 34 (by decide) (by decide) (by decide)]
  · rw [gd_rI_s, gd_rI_n (by decide), far 35 (by decide) (by decide) (by decide)]
set_option maxRecDepth 100000 in
theorem c2_layJ {l : Launch} {D : va_G} {tC : FieldType → ClassId} {ad : Nat → Nat} (hinj : ∀ i j, ad i = ad j → i = j) {S : gs_T} {cnt : Nat} {T : Nat → Nat → Option Nat} (w : gd_W) (hK : gs_KK w S) (hT : gs_tab w cnt T) (d fr goal : Nat) (hd : d < 60) (hcd : w.1 30 d = nI fr) (hf : fr < 64) (hg : goal < 64) : gd_Cp l D tC ad 45 5 120 y_M_lay c_M_lay 10 (some .int) [.ref 27, .int (nI d), .int (nI goal), .int 1] w (fun r w' => r = some (.int (gm_nO (gs_way S T cnt fr goal true))) ∧ (gs_way S T cnt fr goal true = none → gf_r 42 w w') ∧ ∀ en, gs_way S T cnt fr goal true = some en → gs_laid w w' d en (gs_rtm (gs_led (gs_rch S T cnt fr) goal en) en fr)) := by
  refine gd_Cp_of rfl hinj (Nat.le_of_ble_eq_true rfl) ?_
  intro p e s m args below meth c E hr hlk
  have K := k_M_lay
  have hA : ∀ q, gd_A ad 45 s.heap.size q → gd_A ad 45 s.heap.size q := fun _ h => h
  refine gd_r E K 4 (pc' := 6) (lv' := [(0, .ref 27), (1, .int (nI d)), (2, .int (nI goal)), (3, .int 1)]) (st' := [.int (nI d), .ref 30, .ref 27]) (w' := w) rfl ?_
  refine gd_ialdv E (K.1 6 (.iaload, 0) rfl).1 (j := d) (by decide) (rfl) (rfl) (hd) (by decide) (v := nI fr) (hcd) ?_
  refine gd_r E K 2 (pc' := 9) (lv' := [(0, .ref 27), (1, .int (nI d)), (2, .int (nI goal)), (3, .int 1)]) (st' := [.int 1, .int (nI goal), .int (nI fr), .ref 27]) (w' := w) rfl ?_
  refine gd_cVp E hA (av := [.int (nI fr), .int (nI goal), .int 1]) (rest := []) (c2_spreadJ hinj w hK hT fr goal hf hg) (K.1 9 (.invokevirtual 111, 0) rfl).1 ml_M_111 cv_M_spread (by decide) (rfl) ⟨Nat.le_of_ble_eq_true rfl, Nat.le_of_ble_eq_true rfl⟩ ⟨Nat.zero_le _, Nat.zero_le _⟩ rfl (Nat.le_of_ble_eq_true rfl) (fun r9 w1 h9 => ?_)
  obtain ⟨rfl, hf1, hbl⟩ := h9
  refine gd_r E K 2 (pc' := 16) (lv' := [(0, .ref 27), (1, .int (nI d)), (2, .int (nI goal)), (3, .int 1), (4, .int (gm_nO (gs_way S T cnt fr goal true)))]) (st' := [.int (gm_nO (gs_way S T cnt fr goal true))]) (w' := w1) rfl ?_
  obtain ⟨res, hres⟩ : ∃ x, gs_way S T cnt fr goal true = x := ⟨_, rfl⟩
  cases res with
  | none =>
    refine gd_cg (lv' := [(0, .ref 27), (1, .int (nI d)), (2, .int (nI goal)), (3, .int 1), (4, .int (gm_nO none))]) (st' := [.int (gm_nO none)]) (w' := w1) ?_ (by rw [hres]) (by rw [hres]) (rfl)
    refine gd_r E K 1 (pc' := if 0 ≤ (gm_nO none) then 21 else 19) (lv' := [(0, .ref 27), (1, .int (nI d)), (2, .int (nI goal)), (3, .int 1), (4, .int (gm_nO none))]) (st' := []) (w' := w1) rfl ?_
    refine gd_if (by decide) ?_
    refine gd_r E K 1 (pc' := 20) (lv' := [(0, .ref 27), (1, .int (nI d)), (2, .int (nI goal)), (3, .int 1), (4, .int (gm_nO none))]) (st' := [.int (-1)]) (w' := w1) rfl ?_
    exact gd_iretp E hr hlk (K.1 20 (.ireturn, 0) rfl).1 (⟨by rw [hres]; rfl, fun _ => hf1, fun en he => by rw [hres] at he; cases he⟩)
  | some en =>
    refine gd_cg (lv' := [(0, .ref 27), (1, .int (nI d)), (2, .int (nI goal)), (3, .int 1), (4, .int (gm_nO (some en)))]) (st' := [.int (gm_nO (some en))]) (w' := w1) ?_ (by rw [hres]) (by rw [hres]) (rfl)
    have hen := gs_way_le hres
    have hbl := hbl en hres
    refine gd_r E K 1 (pc' := if 0 ≤ (gm_nO (some en)) then 21 else 19) (lv' := [(0, .ref 27), (1, .int (nI d)), (2, .int (nI goal)), (3, .int 1), (4, .int (gm_nO (some en)))]) (st' := []) (w' := w1) rfl ?_
    refine gd_it (nI_pos' (by omega)) ?_
    refine gd_cg (lv' := [(0, .ref 27), (1, .int (nI d)), (2, .int (nI goal)), (3, .int 1), (4, .int (nI en))]) (st' := []) (w' := w1) ?_ (rfl) (rfl) (rfl)
    have route : ∀ w2, gs_li (gs_led (gs_rch S T cnt fr) goal en) en w1 w2 0 → ∀ j n w3, n + j = en → gs_lr w2 w3 d n (gs_rtm (gs_led (gs_rch S T cnt fr) goal en) en fr) → gd_G p l e (gd_rm 5 120) s m args below meth c D tC ad (gd_A ad 45 s.heap.size) 45 10 0 0 (MQ below (gd_Qp D tC ad 45 s.heap.size (fun r w' => r = some (.int (gm_nO (gs_way S T cnt fr goal true))) ∧ (gs_way S T cnt fr goal true = none → gf_r 42 w w') ∧ ∀ en, gs_way S T cnt fr goal true = some en → gs_laid w w' d en (gs_rtm (gs_led (gs_rch S T cnt fr) goal en) en fr))) args s 0 0 (gd_A ad 45 s.heap.size)) 206 [(0, .ref 27), (1, .int (nI d)), (2, .int (nI goal)), (3, .int 1), (4, .int (nI en)), (5, .int (nI (gs_rtc (gs_led (gs_rch S T cnt fr) goal en) en fr n))), (6, .int (nI n))] [] w3 := by
      intro w2 hli j
      induction j with
      | zero =>
        intro n w3 hn hlr
        refine gd_r E K 2 (pc' := 210) (lv' := [(0, .ref 27), (1, .int (nI d)), (2, .int (nI goal)), (3, .int 1), (4, .int (nI en)), (5, .int (nI (gs_rtc (gs_led (gs_rch S T cnt fr) goal en) en fr n))), (6, .int (nI n))]) (st' := [.int (nI en), .int (nI n)]) (w' := w3) rfl ?_
        refine gd_r E K 1 (pc' := if (nI en) ≤ (nI n) then 287 else 213) (lv' := [(0, .ref 27), (1, .int (nI d)), (2, .int (nI goal)), (3, .int 1), (4, .int (nI en)), (5, .int (nI (gs_rtc (gs_led (gs_rch S T cnt fr) goal en) en fr n))), (6, .int (nI n))]) (st' := []) (w' := w3) rfl ?_
        refine gd_it (nI_le (show en ≤ n by omega) (by omega)) ?_
        refine gd_r E K 4 (pc' := 294) (lv' := [(0, .ref 27), (1, .int (nI d)), (2, .int (nI goal)), (3, .int 1), (4, .int (nI en)), (5, .int (nI (gs_rtc (gs_led (gs_rch S T cnt fr) goal en) en fr n))), (6, .int (nI n))]) (st' := [.int (nI en), .int (nI d), .ref 34]) (w' := w3) rfl ?_
        refine gd_iast E (K.1 294 (.iastore, 0) rfl).1 (j := d) (by decide) (rfl) (rfl) (hd) (by decide) ?_
        refine gd_r E K 4 (pc' := 301) (lv' := [(0, .ref 27), (1, .int (nI d)), (2, .int (nI goal)), (3, .int 1), (4, .int (nI en)), (5, .int (nI (gs_rtc (gs_led (gs_rch S T cnt fr) goal en) en fr n))), (6, .int (nI n))]) (st' := [.int 0, .int (nI d), .ref 35]) (w' := gd_rI w3 34 (upd (w3.1 34) d (nI en))) rfl ?_
        refine gd_iast E (K.1 301 (.iastore, 0) rfl).1 (j := d) (by decide) (rfl) (rfl) (hd) (by decide) ?_
        refine gd_r E K 1 (pc' := 304) (lv' := [(0, .ref 27), (1, .int (nI d)), (2, .int (nI goal)), (3, .int 1), (4, .int (nI en)), (5, .int (nI (gs_rtc (gs_led (gs_rch S T cnt fr) goal en) en fr n))), (6, .int (nI n))]) (st' := [.int (nI en)]) (w' := gd_rI (gd_rI w3 34 (upd (w3.1 34) d (nI en))) 35 (upd ((gd_rI w3 34 (upd (w3.1 34) d (nI en))).1 35) d 0)) rfl ?_
        exact gd_iretp E hr hlk (K.1 304 (.ireturn, 0) rfl).1 (⟨by rw [hres]; rfl, fun h => (by rw [hres] at h; cases h), fun en2 he => by rw [hres] at he; cases he; exact gs_laid_of hf1 hli.1 (by have hne : n = en := (by omega); rw [hne] at hlr; exact hlr)⟩)
      | succ j ih =>
        intro n w3 hn hlr
        refine gd_r E K 2 (pc' := 210) (lv' := [(0, .ref 27), (1, .int (nI d)), (2, .int (nI goal)), (3, .int 1), (4, .int (nI en)), (5, .int (nI (gs_rtc (gs_led (gs_rch S T cnt fr) goal en) en fr n))), (6, .int (nI n))]) (st' := [.int (nI en), .int (nI n)]) (w' := w3) rfl ?_
        refine gd_r E K 1 (pc' := if (nI en) ≤ (nI n) then 287 else 213) (lv' := [(0, .ref 27), (1, .int (nI d)), (2, .int (nI goal)), (3, .int 1), (4, .int (nI en)), (5, .int (nI (gs_rtc (gs_led (gs_rch S T cnt fr) goal en) en fr n))), (6, .int (nI n))]) (st' := []) (w' := w3) rfl ?_
        refine gd_if (nI_ge (show n < en by omega) (by omega)) ?_
        refine gd_r E K 2 (pc' := 216) (lv' := [(0, .ref 27), (1, .int (nI d)), (2, .int (nI goal)), (3, .int 1), (4, .int (nI en)), (5, .int (nI (gs_rtc (gs_led (gs_rch S T cnt fr) goal en) en fr n))), (6, .int (nI n)), (7, .int 0)]) (st' := []) (w' := w3) rfl ?_
        obtain ⟨hex, hmv⟩ := gs_rtc_mv hf hg hres (show n < en by omega)
        obtain ⟨q1, q2, q3⟩ := gs_lm_spec hex
        have hc64 := (gs_rtc_ok hf hg hres n (by omega)).1
        have hrow : gs_blk w3 43 (n + 1) 64 (gs_led (gs_rch S T cnt fr) goal en (en - (n + 1))) := by
          intro c0 hc0
          rw [hlr.1.1 43 (by decide)]
          exact hli.2 (n + 1) (by omega) (by omega) c0 hc0
        have hlm : gs_lm (fun m => gs_atO (gs_led (gs_rch S T cnt fr) goal en (en - (n + 1))) (gm_mv (gs_rtc (gs_led (gs_rch S T cnt fr) goal en) en fr n) m)) = gs_rtm (gs_led (gs_rch S T cnt fr) goal en) en fr n := rfl
        rw [hlm] at q1 q2 q3
        have pick : ∀ i mm, mm + i = gs_rtm (gs_led (gs_rch S T cnt fr) goal en) en fr n → gd_G p l e (gd_rm 5 120) s m args below meth c D tC ad (gd_A ad 45 s.heap.size) 45 10 0 0 (MQ below (gd_Qp D tC ad 45 s.heap.size (fun r w' => r = some (.int (gm_nO (gs_way S T cnt fr goal true))) ∧ (gs_way S T cnt fr goal true = none → gf_r 42 w w') ∧ ∀ en, gs_way S T cnt fr goal true = some en → gs_laid w w' d en (gs_rtm (gs_led (gs_rch S T cnt fr) goal en) en fr))) args s 0 0 (gd_A ad 45 s.heap.size)) 216 [(0, .ref 27), (1, .int (nI d)), (2, .int (nI goal)), (3, .int 1), (4, .int (nI en)), (5, .int (nI (gs_rtc (gs_led (gs_rch S T cnt fr) goal en) en fr n))), (6, .int (nI n)), (7, .int (nI mm))] [] w3 := by
          intro i
          induction i with
          | zero =>
            intro mm hmm
            have hmm2 : mm = gs_rtm (gs_led (gs_rch S T cnt fr) goal en) en fr n := by omega
            obtain ⟨bb, hb1, hb2⟩ := gs_atO_iff.mp q2
            have hb64 := gm_mv_lt hc64 hb1
            have hnb : bb = gs_rtc (gs_led (gs_rch S T cnt fr) goal en) en fr (n + 1) := Option.some.inj (hb1.symm.trans hmv)
            rw [← hmm2] at hb1
            refine gd_r E K 2 (pc' := 220) (lv' := [(0, .ref 27), (1, .int (nI d)), (2, .int (nI goal)), (3, .int 1), (4, .int (nI en)), (5, .int (nI (gs_rtc (gs_led (gs_rch S T cnt fr) goal en) en fr n))), (6, .int (nI n)), (7, .int (nI mm))]) (st' := [.int (nI mm), .int (nI (gs_rtc (gs_led (gs_rch S T cnt fr) goal en) en fr n))]) (w' := w3) rfl ?_
            refine gd_cS E hA (av := [.int (nI (gs_rtc (gs_led (gs_rch S T cnt fr) goal en) en fr n)), .int (nI mm)]) (rest := []) (c2_moved hinj _ mm hc64 (by omega) w3) (K.1 220 (.invokestatic 82, 0) rfl).1 ml_M_82 cv_M_moved ⟨Nat.le_of_ble_eq_true rfl, Nat.le_of_ble_eq_true rfl⟩ ⟨Nat.zero_le _, Nat.zero_le _⟩ rfl (Nat.le_of_ble_eq_true rfl) ?_
            rw [hb1]
            refine gd_r E K 1 (pc' := if (gm_nO (some bb)) < 0 then 249 else 226) (lv' := [(0, .ref 27), (1, .int (nI d)), (2, .int (nI goal)), (3, .int 1), (4, .int (nI en)), (5, .int (nI (gs_rtc (gs_led (gs_rch S T cnt fr) goal en) en fr n))), (6, .int (nI n)), (7, .int (nI mm))]) (st' := []) (w' := w3) rfl ?_
            refine gd_if (gm_nO_some (by omega)) ?_
            refine gd_r E K 9 (pc' := 241) (lv' := [(0, .ref 27), (1, .int (nI d)), (2, .int (nI goal)), (3, .int 1), (4, .int (nI en)), (5, .int (nI (gs_rtc (gs_led (gs_rch S T cnt fr) goal en) en fr n))), (6, .int (nI n)), (7, .int (nI mm))]) (st' := [.int (nI mm), .int (nI (gs_rtc (gs_led (gs_rch S T cnt fr) goal en) en fr n)), .int (64 * ((nI n) + 1)), .ref 43]) (w' := w3) rfl ?_
            refine gd_cS E hA (av := [.int (nI (gs_rtc (gs_led (gs_rch S T cnt fr) goal en) en fr n)), .int (nI mm)]) (rest := [.int (64 * ((nI n) + 1)), .ref 43]) (c2_moved hinj _ mm hc64 (by omega) w3) (K.1 241 (.invokestatic 82, 0) rfl).1 ml_M_82 cv_M_moved ⟨Nat.le_of_ble_eq_true rfl, Nat.le_of_ble_eq_true rfl⟩ ⟨Nat.zero_le _, Nat.zero_le _⟩ rfl (Nat.le_of_ble_eq_true rfl) ?_
            rw [hb1]
            refine gd_r E K 1 (pc' := 245) (lv' := [(0, .ref 27), (1, .int (nI d)), (2, .int (nI goal)), (3, .int 1), (4, .int (nI en)), (5, .int (nI (gs_rtc (gs_led (gs_rch S T cnt fr) goal en) en fr n))), (6, .int (nI n)), (7, .int (nI mm))]) (st' := [.int ((64 * ((nI n) + 1)) + (gm_nO (some bb))), .ref 43]) (w' := w3) rfl ?_
            refine gd_zaldv E (K.1 245 (.baload, 0) rfl).1 (j := 64 * (n + 1) + bb) (by decide) (rfl) (by rw [show (64 : Int32) = nI 64 from rfl, nI_1, pk_mul, gm_nO, nI_add]) (by omega) (by decide) (v := gs_b true) (by rw [hrow bb hb64, hb2]) ?_
            refine gd_r E K 1 (pc' := if (gs_b true) = 0 then 249 else 258) (lv' := [(0, .ref 27), (1, .int (nI d)), (2, .int (nI goal)), (3, .int 1), (4, .int (nI en)), (5, .int (nI (gs_rtc (gs_led (gs_rch S T cnt fr) goal en) en fr n))), (6, .int (nI n)), (7, .int (nI mm))]) (st' := []) (w' := w3) rfl ?_
            refine gd_if (by decide) ?_
            refine gd_r E K 8 (pc' := 271) (lv' := [(0, .ref 27), (1, .int (nI d)), (2, .int (nI goal)), (3, .int 1), (4, .int (nI en)), (5, .int (nI (gs_rtc (gs_led (gs_rch S T cnt fr) goal en) en fr n))), (6, .int (nI n)), (7, .int (nI mm))]) (st' := [.int (nI mm), .int ((60 * (nI d)) + (nI n)), .ref 33]) (w' := w3) rfl ?_
            refine gd_iast E (K.1 271 (.iastore, 0) rfl).1 (j := 60 * d + n) (by decide) (rfl) (by rw [show (60 : Int32) = nI 60 from rfl, pk_mul, nI_add]) (by omega) (by decide) ?_
            refine gd_r E K 2 (pc' := 276) (lv' := [(0, .ref 27), (1, .int (nI d)), (2, .int (nI goal)), (3, .int 1), (4, .int (nI en)), (5, .int (nI (gs_rtc (gs_led (gs_rch S T cnt fr) goal en) en fr n))), (6, .int (nI n)), (7, .int (nI mm))]) (st' := [.int (nI mm), .int (nI (gs_rtc (gs_led (gs_rch S T cnt fr) goal en) en fr n))]) (w' := gd_rI w3 33 (upd (w3.1 33) (60 * d + n) (nI mm))) rfl ?_
            refine gd_cS E hA (av := [.int (nI (gs_rtc (gs_led (gs_rch S T cnt fr) goal en) en fr n)), .int (nI mm)]) (rest := []) (c2_moved hinj _ mm hc64 (by omega) _) (K.1 276 (.invokestatic 82, 0) rfl).1 ml_M_82 cv_M_moved ⟨Nat.le_of_ble_eq_true rfl, Nat.le_of_ble_eq_true rfl⟩ ⟨Nat.zero_le _, Nat.zero_le _⟩ rfl (Nat.le_of_ble_eq_true rfl) ?_
            rw [hb1]
            refine gd_r E K 3 (pc' := 206) (lv' := [(0, .ref 27), (1, .int (nI d)), (2, .int (nI goal)), (3, .int 1), (4, .int (nI en)), (5, .int (gm_nO (some bb))), (6, .int ((nI n) + 1)), (7, .int (nI mm))]) (st' := []) (w' := gd_rI w3 33 (upd (w3.1 33) (60 * d + n) (nI mm))) rfl ?_
            refine gd_lvp [0, 1, 2, 3, 4, 5, 6] (lv' := [(0, .ref 27), (1, .int (nI d)), (2, .int (nI goal)), (3, .int 1), (4, .int (nI en)), (5, .int (gm_nO (some bb))), (6, .int ((nI n) + 1))]) rfl ?_
            exact gd_cg (ih (n + 1) _ (by omega) (gs_lr_step hlr (by omega))) (by rw [nI_1, hnb]; rfl) rfl (by rw [hmm2])
          | succ i ih3 =>
            intro mm hmm
            have hno := q3 mm (by omega)
            refine gd_r E K 2 (pc' := 220) (lv' := [(0, .ref 27), (1, .int (nI d)), (2, .int (nI goal)), (3, .int 1), (4, .int (nI en)), (5, .int (nI (gs_rtc (gs_led (gs_rch S T cnt fr) goal en) en fr n))), (6, .int (nI n)), (7, .int (nI mm))]) (st' := [.int (nI mm), .int (nI (gs_rtc (gs_led (gs_rch S T cnt fr) goal en) en fr n))]) (w' := w3) rfl ?_
            refine gd_cS E hA (av := [.int (nI (gs_rtc (gs_led (gs_rch S T cnt fr) goal en) en fr n)), .int (nI mm)]) (rest := []) (c2_moved hinj _ mm hc64 (by omega) w3) (K.1 220 (.invokestatic 82, 0) rfl).1 ml_M_82 cv_M_moved ⟨Nat.le_of_ble_eq_true rfl, Nat.le_of_ble_eq_true rfl⟩ ⟨Nat.zero_le _, Nat.zero_le _⟩ rfl (Nat.le_of_ble_eq_true rfl) ?_
            cases hb1 : gm_mv (gs_rtc (gs_led (gs_rch S T cnt fr) goal en) en fr n) mm with
            | none =>
              refine gd_r E K 1 (pc' := if (gm_nO (none)) < 0 then 249 else 226) (lv' := [(0, .ref 27), (1, .int (nI d)), (2, .int (nI goal)), (3, .int 1), (4, .int (nI en)), (5, .int (nI (gs_rtc (gs_led (gs_rch S T cnt fr) goal en) en fr n))), (6, .int (nI n)), (7, .int (nI mm))]) (st' := []) (w' := w3) rfl ?_
              refine gd_it (by decide) ?_
              refine gd_r E K 5 (pc' := 216) (lv' := [(0, .ref 27), (1, .int (nI d)), (2, .int (nI goal)), (3, .int 1), (4, .int (nI en)), (5, .int (nI (gs_rtc (gs_led (gs_rch S T cnt fr) goal en) en fr n))), (6, .int (nI n)), (7, .int ((nI mm) + 1))]) (st' := []) (w' := w3) rfl ?_
              exact gd_cg (ih3 (mm + 1) (by omega)) (by rw [nI_1]) rfl rfl
            | some bb =>
              have hb64 := gm_mv_lt hc64 hb1
              have hf0 : gs_led (gs_rch S T cnt fr) goal en (en - (n + 1)) bb = false := by
                have := hno
                rw [hb1] at this
                exact this
              refine gd_r E K 1 (pc' := if (gm_nO (some bb)) < 0 then 249 else 226) (lv' := [(0, .ref 27), (1, .int (nI d)), (2, .int (nI goal)), (3, .int 1), (4, .int (nI en)), (5, .int (nI (gs_rtc (gs_led (gs_rch S T cnt fr) goal en) en fr n))), (6, .int (nI n)), (7, .int (nI mm))]) (st' := []) (w' := w3) rfl ?_
              refine gd_if (gm_nO_some (by omega)) ?_
              refine gd_r E K 9 (pc' := 241) (lv' := [(0, .ref 27), (1, .int (nI d)), (2, .int (nI goal)), (3, .int 1), (4, .int (nI en)), (5, .int (nI (gs_rtc (gs_led (gs_rch S T cnt fr) goal en) en fr n))), (6, .int (nI n)), (7, .int (nI mm))]) (st' := [.int (nI mm), .int (nI (gs_rtc (gs_led (gs_rch S T cnt fr) goal en) en fr n)), .int (64 * ((nI n) + 1)), .ref 43]) (w' := w3) rfl ?_
              refine gd_cS E hA (av := [.int (nI (gs_rtc (gs_led (gs_rch S T cnt fr) goal en) en fr n)), .int (nI mm)]) (rest := [.int (64 * ((nI n) + 1)), .ref 43]) (c2_moved hinj _ mm hc64 (by omega) w3) (K.1 241 (.invokestatic 82, 0) rfl).1 ml_M_82 cv_M_moved ⟨Nat.le_of_ble_eq_true rfl, Nat.le_of_ble_eq_true rfl⟩ ⟨Nat.zero_le _, Nat.zero_le _⟩ rfl (Nat.le_of_ble_eq_true rfl) ?_
              rw [hb1]
              refine gd_r E K 1 (pc' := 245) (lv' := [(0, .ref 27), (1, .int (nI d)), (2, .int (nI goal)), (3, .int 1), (4, .int (nI en)), (5, .int (nI (gs_rtc (gs_led (gs_rch S T cnt fr) goal en) en fr n))), (6, .int (nI n)), (7, .int (nI mm))]) (st' := [.int ((64 * ((nI n) + 1)) + (gm_nO (some bb))), .ref 43]) (w' := w3) rfl ?_
              refine gd_zaldv E (K.1 245 (.baload, 0) rfl).1 (j := 64 * (n + 1) + bb) (by decide) (rfl) (by rw [show (64 : Int32) = nI 64 from rfl, nI_1, pk_mul, gm_nO, nI_add]) (by omega) (by decide) (v := gs_b false) (by rw [hrow bb hb64, hf0]) ?_
              refine gd_r E K 1 (pc' := if (gs_b false) = 0 then 249 else 258) (lv' := [(0, .ref 27), (1, .int (nI d)), (2, .int (nI goal)), (3, .int 1), (4, .int (nI en)), (5, .int (nI (gs_rtc (gs_led (gs_rch S T cnt fr) goal en) en fr n))), (6, .int (nI n)), (7, .int (nI mm))]) (st' := []) (w' := w3) rfl ?_
              refine gd_it (by decide) ?_
              refine gd_r E K 5 (pc' := 216) (lv' := [(0, .ref 27), (1, .int (nI d)), (2, .int (nI goal)), (3, .int 1), (4, .int (nI en)), (5, .int (nI (gs_rtc (gs_led (gs_rch S T cnt fr) goal en) en fr n))), (6, .int (nI n)), (7, .int ((nI mm) + 1))]) (st' := []) (w' := w3) rfl ?_
              exact gd_cg (ih3 (mm + 1) (by omega)) (by rw [nI_1]) rfl rfl
        exact gd_cg (pick (gs_rtm (gs_led (gs_rch S T cnt fr) goal en) en fr n) 0 (by omega)) rfl rfl rfl
    have back : ∀ n w2, n ≤ en → gs_li (gs_led (gs_rch S T cnt fr) goal en) en w1 w2 n → gd_G p l e (gd_rm 5 120) s m args below meth c D tC ad (gd_A ad 45 s.heap.size) 45 10 0 0 (MQ below (gd_Qp D tC ad 45 s.heap.size (fun r w' => r = some (.int (gm_nO (gs_way S T cnt fr goal true))) ∧ (gs_way S T cnt fr goal true = none → gf_r 42 w w') ∧ ∀ en, gs_way S T cnt fr goal true = some en → gs_laid w w' d en (gs_rtm (gs_led (gs_rch S T cnt fr) goal en) en fr))) args s 0 0 (gd_A ad 45 s.heap.size)) 67 [(0, .ref 27), (1, .int (nI d)), (2, .int (nI goal)), (3, .int 1), (4, .int (nI en)), (5, .int (gs_pr n))] [] w2 := by
      intro n
      induction n with
      | zero =>
        intro w2 hn hli
        refine gd_cg (lv' := [(0, .ref 27), (1, .int (nI d)), (2, .int (nI goal)), (3, .int 1), (4, .int (nI en)), (5, .int (-1))]) (st' := []) (w' := w2) ?_ rfl rfl rfl
        refine gd_r E K 1 (pc' := 69) (lv' := [(0, .ref 27), (1, .int (nI d)), (2, .int (nI goal)), (3, .int 1), (4, .int (nI en)), (5, .int (-1))]) (st' := [.int (-1)]) (w' := w2) rfl ?_
        refine gd_r E K 1 (pc' := if (-1) < 0 then 195 else 72) (lv' := [(0, .ref 27), (1, .int (nI d)), (2, .int (nI goal)), (3, .int 1), (4, .int (nI en)), (5, .int (-1))]) (st' := []) (w' := w2) rfl ?_
        refine gd_it (by decide) ?_
        refine gd_r E K 3 (pc' := 200) (lv' := [(0, .ref 27), (1, .int (nI d)), (2, .int (nI goal)), (3, .int 1), (4, .int (nI en)), (5, .int (-1))]) (st' := [.int (nI d), .ref 30]) (w' := w2) rfl ?_
        refine gd_ialdv E (K.1 200 (.iaload, 0) rfl).1 (j := d) (by decide) (rfl) (rfl) (hd) (by decide) (v := nI fr) (by rw [hli.1.1 30 (by decide), hf1.1 30 (by decide)]; exact hcd) ?_
        refine gd_r E K 3 (pc' := 206) (lv' := [(0, .ref 27), (1, .int (nI d)), (2, .int (nI goal)), (3, .int 1), (4, .int (nI en)), (5, .int (nI fr)), (6, .int 0)]) (st' := []) (w' := w2) rfl ?_
        exact gd_cg (route w2 hli en 0 w2 (by omega) ⟨gf_r.refl _ _, fun i hi => by omega, fun _ _ => rfl⟩) rfl rfl rfl
      | succ n ih =>
        intro w2 hn hli
        refine gd_cg (lv' := [(0, .ref 27), (1, .int (nI d)), (2, .int (nI goal)), (3, .int 1), (4, .int (nI en)), (5, .int (nI n))]) (st' := []) (w' := w2) ?_ rfl rfl rfl
        refine gd_r E K 1 (pc' := 69) (lv' := [(0, .ref 27), (1, .int (nI d)), (2, .int (nI goal)), (3, .int 1), (4, .int (nI en)), (5, .int (nI n))]) (st' := [.int (nI n)]) (w' := w2) rfl ?_
        refine gd_r E K 1 (pc' := if (nI n) < 0 then 195 else 72) (lv' := [(0, .ref 27), (1, .int (nI d)), (2, .int (nI goal)), (3, .int 1), (4, .int (nI en)), (5, .int (nI n))]) (st' := []) (w' := w2) rfl ?_
        refine gd_if (nI_pos (by omega)) ?_
        refine gd_r E K 2 (pc' := 75) (lv' := [(0, .ref 27), (1, .int (nI d)), (2, .int (nI goal)), (3, .int 1), (4, .int (nI en)), (5, .int (nI n)), (6, .int 0)]) (st' := []) (w' := w2) rfl ?_
        have cells : ∀ i c0 w3, c0 + i = 64 → gs_lj (gs_led (gs_rch S T cnt fr) goal en) en w1 w3 n c0 → gd_G p l e (gd_rm 5 120) s m args below meth c D tC ad (gd_A ad 45 s.heap.size) 45 10 0 0 (MQ below (gd_Qp D tC ad 45 s.heap.size (fun r w' => r = some (.int (gm_nO (gs_way S T cnt fr goal true))) ∧ (gs_way S T cnt fr goal true = none → gf_r 42 w w') ∧ ∀ en, gs_way S T cnt fr goal true = some en → gs_laid w w' d en (gs_rtm (gs_led (gs_rch S T cnt fr) goal en) en fr))) args s 0 0 (gd_A ad 45 s.heap.size)) 75 [(0, .ref 27), (1, .int (nI d)), (2, .int (nI goal)), (3, .int 1), (4, .int (nI en)), (5, .int (nI n)), (6, .int (nI c0))] [] w3 := by
          intro i
          induction i with
          | zero =>
            intro c0 w3 hc hj
            refine gd_r E K 2 (pc' := 79) (lv' := [(0, .ref 27), (1, .int (nI d)), (2, .int (nI goal)), (3, .int 1), (4, .int (nI en)), (5, .int (nI n)), (6, .int (nI c0))]) (st' := [.int 64, .int (nI c0)]) (w' := w3) rfl ?_
            refine gd_r E K 1 (pc' := if 64 ≤ (nI c0) then 189 else 82) (lv' := [(0, .ref 27), (1, .int (nI d)), (2, .int (nI goal)), (3, .int 1), (4, .int (nI en)), (5, .int (nI n)), (6, .int (nI c0))]) (st' := []) (w' := w3) rfl ?_
            refine gd_it (nI_le (show 64 ≤ c0 by omega) (by omega)) ?_
            refine gd_r E K 2 (pc' := 67) (lv' := [(0, .ref 27), (1, .int (nI d)), (2, .int (nI goal)), (3, .int 1), (4, .int (nI en)), (5, .int ((nI n) + (-1))), (6, .int (nI c0))]) (st' := []) (w' := w3) rfl ?_
            refine gd_lvp [0, 1, 2, 3, 4, 5] (lv' := [(0, .ref 27), (1, .int (nI d)), (2, .int (nI goal)), (3, .int 1), (4, .int (nI en)), (5, .int ((nI n) + (-1)))]) rfl ?_
            exact gd_cg (ih w3 (by omega) (gs_lj_end (by rw [show (64 : Nat) = c0 by omega]; exact hj))) (by rw [gs_pr_add]) rfl rfl
          | succ i ih2 =>
            intro c0 w3 hc hj
            refine gd_r E K 2 (pc' := 79) (lv' := [(0, .ref 27), (1, .int (nI d)), (2, .int (nI goal)), (3, .int 1), (4, .int (nI en)), (5, .int (nI n)), (6, .int (nI c0))]) (st' := [.int 64, .int (nI c0)]) (w' := w3) rfl ?_
            refine gd_r E K 1 (pc' := if 64 ≤ (nI c0) then 189 else 82) (lv' := [(0, .ref 27), (1, .int (nI d)), (2, .int (nI goal)), (3, .int 1), (4, .int (nI en)), (5, .int (nI n)), (6, .int (nI c0))]) (st' := []) (w' := w3) rfl ?_
            refine gd_if (nI_ge (show c0 < 64 by omega) (by decide)) ?_
            refine gd_r E K 4 (pc' := 88) (lv' := [(0, .ref 27), (1, .int (nI d)), (2, .int (nI goal)), (3, .int 1), (4, .int (nI en)), (5, .int (nI n)), (6, .int (nI c0)), (7, .int 0), (8, .int 0)]) (st' := []) (w' := w3) rfl ?_
            have hL : gs_led (gs_rch S T cnt fr) goal en (en - n) c0 = (gs_any (fun m => gs_atO (gs_led (gs_rch S T cnt fr) goal en (en - (n + 1))) (gm_mv c0 m)) 5 && gs_rch S T cnt fr n c0) := by
              rw [show en - n = (en - (n + 1)) + 1 by omega, gs_led, show en - (en - (n + 1) + 1) = n by omega]
            have moves : ∀ i2 mm, mm + i2 = 5 → gd_G p l e (gd_rm 5 120) s m args below meth c D tC ad (gd_A ad 45 s.heap.size) 45 10 0 0 (MQ below (gd_Qp D tC ad 45 s.heap.size (fun r w' => r = some (.int (gm_nO (gs_way S T cnt fr goal true))) ∧ (gs_way S T cnt fr goal true = none → gf_r 42 w w') ∧ ∀ en, gs_way S T cnt fr goal true = some en → gs_laid w w' d en (gs_rtm (gs_led (gs_rch S T cnt fr) goal en) en fr))) args s 0 0 (gd_A ad 45 s.heap.size)) 88 [(0, .ref 27), (1, .int (nI d)), (2, .int (nI goal)), (3, .int 1), (4, .int (nI en)), (5, .int (nI n)), (6, .int (nI c0)), (7, .int (gs_b (gs_any (fun m => gs_atO (gs_led (gs_rch S T cnt fr) goal en (en - (n + 1))) (gm_mv c0 m)) mm))), (8, .int (nI mm))] [] w3 := by
              intro i2
              induction i2 with
              | zero =>
                intro mm hmm
                refine gd_r E K 2 (pc' := 91) (lv' := [(0, .ref 27), (1, .int (nI d)), (2, .int (nI goal)), (3, .int 1), (4, .int (nI en)), (5, .int (nI n)), (6, .int (nI c0)), (7, .int (gs_b (gs_any (fun m => gs_atO (gs_led (gs_rch S T cnt fr) goal en (en - (n + 1))) (gm_mv c0 m)) mm))), (8, .int (nI mm))]) (st' := [.int 5, .int (nI mm)]) (w' := w3) rfl ?_
                refine gd_r E K 1 (pc' := if 5 ≤ (nI mm) then 144 else 94) (lv' := [(0, .ref 27), (1, .int (nI d)), (2, .int (nI goal)), (3, .int 1), (4, .int (nI en)), (5, .int (nI n)), (6, .int (nI c0)), (7, .int (gs_b (gs_any (fun m => gs_atO (gs_led (gs_rch S T cnt fr) goal en (en - (n + 1))) (gm_mv c0 m)) mm))), (8, .int (nI mm))]) (st' := []) (w' := w3) rfl ?_
                refine gd_it (nI_le (show 5 ≤ mm by omega) (by omega)) ?_
                refine gd_r E K 8 (pc' := 158) (lv' := [(0, .ref 27), (1, .int (nI d)), (2, .int (nI goal)), (3, .int 1), (4, .int (nI en)), (5, .int (nI n)), (6, .int (nI c0)), (7, .int (gs_b (gs_any (fun m => gs_atO (gs_led (gs_rch S T cnt fr) goal en (en - (n + 1))) (gm_mv c0 m)) mm))), (8, .int (nI mm))]) (st' := [.int (gs_b (gs_any (fun m => gs_atO (gs_led (gs_rch S T cnt fr) goal en (en - (n + 1))) (gm_mv c0 m)) mm)), .int ((64 * (nI n)) + (nI c0)), .ref 43]) (w' := w3) rfl ?_
                have hm5 : gs_any (fun m => gs_atO (gs_led (gs_rch S T cnt fr) goal en (en - (n + 1))) (gm_mv c0 m)) mm = gs_any (fun m => gs_atO (gs_led (gs_rch S T cnt fr) goal en (en - (n + 1))) (gm_mv c0 m)) 5 := by rw [show mm = 5 by omega]
                cases hb : gs_any (fun m => gs_atO (gs_led (gs_rch S T cnt fr) goal en (en - (n + 1))) (gm_mv c0 m)) mm with
                | true =>
                  refine gd_r E K 1 (pc' := if (gs_b (true)) = 0 then 181 else 161) (lv' := [(0, .ref 27), (1, .int (nI d)), (2, .int (nI goal)), (3, .int 1), (4, .int (nI en)), (5, .int (nI n)), (6, .int (nI c0)), (7, .int (gs_b (true))), (8, .int (nI mm))]) (st' := [.int ((64 * (nI n)) + (nI c0)), .ref 43]) (w' := w3) rfl ?_
                  refine gd_if (by decide) ?_
                  refine gd_r E K 7 (pc' := 173) (lv' := [(0, .ref 27), (1, .int (nI d)), (2, .int (nI goal)), (3, .int 1), (4, .int (nI en)), (5, .int (nI n)), (6, .int (nI c0)), (7, .int (gs_b (true))), (8, .int (nI mm))]) (st' := [.int ((64 * (nI n)) + (nI c0)), .ref 42, .int ((64 * (nI n)) + (nI c0)), .ref 43]) (w' := w3) rfl ?_
                  refine gd_zaldv E (K.1 173 (.baload, 0) rfl).1 (j := 64 * n + c0) (by decide) (rfl) (by rw [show (64 : Int32) = nI 64 from rfl, pk_mul, nI_add]) (by omega) (by decide) (v := gs_b (gs_rch S T cnt fr n c0)) (by rw [hj.1.1.1 42 (by decide)]; exact hbl n (by omega) c0 (by omega)) ?_
                  cases hx : gs_rch S T cnt fr n c0 with
                  | true =>
                    refine gd_r E K 1 (pc' := if (gs_b (true)) = 0 then 181 else 177) (lv' := [(0, .ref 27), (1, .int (nI d)), (2, .int (nI goal)), (3, .int 1), (4, .int (nI en)), (5, .int (nI n)), (6, .int (nI c0)), (7, .int (gs_b (true))), (8, .int (nI mm))]) (st' := [.int ((64 * (nI n)) + (nI c0)), .ref 43]) (w' := w3) rfl ?_
                    refine gd_if (by decide) ?_
                    refine gd_r E K 2 (pc' := 182) (lv' := [(0, .ref 27), (1, .int (nI d)), (2, .int (nI goal)), (3, .int 1), (4, .int (nI en)), (5, .int (nI n)), (6, .int (nI c0)), (7, .int (gs_b (true))), (8, .int (nI mm))]) (st' := [.int 1, .int ((64 * (nI n)) + (nI c0)), .ref 43]) (w' := w3) rfl ?_
                    refine gd_zast E (K.1 182 (.bastore, 0) rfl).1 (j := 64 * n + c0) (by decide) (rfl) (by rw [show (64 : Int32) = nI 64 from rfl, pk_mul, nI_add]) (by omega) (by decide) (by decide) ?_
                    refine gd_r E K 2 (pc' := 75) (lv' := [(0, .ref 27), (1, .int (nI d)), (2, .int (nI goal)), (3, .int 1), (4, .int (nI en)), (5, .int (nI n)), (6, .int ((nI c0) + 1)), (7, .int (gs_b (true))), (8, .int (nI mm))]) (st' := []) (w' := gd_rI w3 43 (upd (w3.1 43) (64 * n + c0) 1)) rfl ?_
                    refine gd_lvp [0, 1, 2, 3, 4, 5, 6] (lv' := [(0, .ref 27), (1, .int (nI d)), (2, .int (nI goal)), (3, .int 1), (4, .int (nI en)), (5, .int (nI n)), (6, .int ((nI c0) + 1))]) rfl ?_
                    exact gd_cg (ih2 (c0 + 1) _ (by omega) (gs_lj_step hj (by omega) (by rw [hL, ← hm5, hb, hx]; rfl))) (by rw [nI_1]) rfl rfl
                  | false =>
                    refine gd_r E K 1 (pc' := if (gs_b (false)) = 0 then 181 else 177) (lv' := [(0, .ref 27), (1, .int (nI d)), (2, .int (nI goal)), (3, .int 1), (4, .int (nI en)), (5, .int (nI n)), (6, .int (nI c0)), (7, .int (gs_b (true))), (8, .int (nI mm))]) (st' := [.int ((64 * (nI n)) + (nI c0)), .ref 43]) (w' := w3) rfl ?_
                    refine gd_it (by decide) ?_
                    refine gd_r E K 1 (pc' := 182) (lv' := [(0, .ref 27), (1, .int (nI d)), (2, .int (nI goal)), (3, .int 1), (4, .int (nI en)), (5, .int (nI n)), (6, .int (nI c0)), (7, .int (gs_b (true))), (8, .int (nI mm))]) (st' := [.int 0, .int ((64 * (nI n)) + (nI c0)), .ref 43]) (w' := w3) rfl ?_
                    refine gd_zast E (K.1 182 (.bastore, 0) rfl).1 (j := 64 * n + c0) (by decide) (rfl) (by rw [show (64 : Int32) = nI 64 from rfl, pk_mul, nI_add]) (by omega) (by decide) (by decide) ?_
                    refine gd_r E K 2 (pc' := 75) (lv' := [(0, .ref 27), (1, .int (nI d)), (2, .int (nI goal)), (3, .int 1), (4, .int (nI en)), (5, .int (nI n)), (6, .int ((nI c0) + 1)), (7, .int (gs_b (true))), (8, .int (nI mm))]) (st' := []) (w' := gd_rI w3 43 (upd (w3.1 43) (64 * n + c0) 0)) rfl ?_
                    refine gd_lvp [0, 1, 2, 3, 4, 5, 6] (lv' := [(0, .ref 27), (1, .int (nI d)), (2, .int (nI goal)), (3, .int 1), (4, .int (nI en)), (5, .int (nI n)), (6, .int ((nI c0) + 1))]) rfl ?_
                    exact gd_cg (ih2 (c0 + 1) _ (by omega) (gs_lj_step hj (by omega) (by rw [hL, ← hm5, hb, hx]; rfl))) (by rw [nI_1]) rfl rfl
                | false =>
                  refine gd_r E K 1 (pc' := if (gs_b (false)) = 0 then 181 else 161) (lv' := [(0, .ref 27), (1, .int (nI d)), (2, .int (nI goal)), (3, .int 1), (4, .int (nI en)), (5, .int (nI n)), (6, .int (nI c0)), (7, .int (gs_b (false))), (8, .int (nI mm))]) (st' := [.int ((64 * (nI n)) + (nI c0)), .ref 43]) (w' := w3) rfl ?_
                  refine gd_it (by decide) ?_
                  refine gd_r E K 1 (pc' := 182) (lv' := [(0, .ref 27), (1, .int (nI d)), (2, .int (nI goal)), (3, .int 1), (4, .int (nI en)), (5, .int (nI n)), (6, .int (nI c0)), (7, .int (gs_b (false))), (8, .int (nI mm))]) (st' := [.int 0, .int ((64 * (nI n)) + (nI c0)), .ref 43]) (w' := w3) rfl ?_
                  refine gd_zast E (K.1 182 (.bastore, 0) rfl).1 (j := 64 * n + c0) (by decide) (rfl) (by rw [show (64 : Int32) = nI 64 from rfl, pk_mul, nI_add]) (by omega) (by decide) (by decide) ?_
                  refine gd_r E K 2 (pc' := 75) (lv' := [(0, .ref 27), (1, .int (nI d)), (2, .int (nI goal)), (3, .int 1), (4, .int (nI en)), (5, .int (nI n)), (6, .int ((nI c0) + 1)), (7, .int (gs_b (false))), (8, .int (nI mm))]) (st' := []) (w' := gd_rI w3 43 (upd (w3.1 43) (64 * n + c0) 0)) rfl ?_
                  refine gd_lvp [0, 1, 2, 3, 4, 5, 6] (lv' := [(0, .ref 27), (1, .int (nI d)), (2, .int (nI goal)), (3, .int 1), (4, .int (nI en)), (5, .int (nI n)), (6, .int ((nI c0) + 1))]) rfl ?_
                  exact gd_cg (ih2 (c0 + 1) _ (by omega) (gs_lj_step hj (by omega) (by rw [hL, ← hm5, hb, Bool.false_and]; rfl))) (by rw [nI_1]) rfl rfl
              | succ i2 ih3 =>
                intro mm hmm
                refine gd_r E K 2 (pc' := 91) (lv' := [(0, .ref 27), (1, .int (nI d)), (2, .int (nI goal)), (3, .int 1), (4, .int (nI en)), (5, .int (nI n)), (6, .int (nI c0)), (7, .int (gs_b (gs_any (fun m => gs_atO (gs_led (gs_rch S T cnt fr) goal en (en - (n + 1))) (gm_mv c0 m)) mm))), (8, .int (nI mm))]) (st' := [.int 5, .int (nI mm)]) (w' := w3) rfl ?_
                refine gd_r E K 1 (pc' := if 5 ≤ (nI mm) then 144 else 94) (lv' := [(0, .ref 27), (1, .int (nI d)), (2, .int (nI goal)), (3, .int 1), (4, .int (nI en)), (5, .int (nI n)), (6, .int (nI c0)), (7, .int (gs_b (gs_any (fun m => gs_atO (gs_led (gs_rch S T cnt fr) goal en (en - (n + 1))) (gm_mv c0 m)) mm))), (8, .int (nI mm))]) (st' := []) (w' := w3) rfl ?_
                refine gd_if (nI_ge (show mm < 5 by omega) (by decide)) ?_
                refine gd_r E K 2 (pc' := 98) (lv' := [(0, .ref 27), (1, .int (nI d)), (2, .int (nI goal)), (3, .int 1), (4, .int (nI en)), (5, .int (nI n)), (6, .int (nI c0)), (7, .int (gs_b (gs_any (fun m => gs_atO (gs_led (gs_rch S T cnt fr) goal en (en - (n + 1))) (gm_mv c0 m)) mm))), (8, .int (nI mm))]) (st' := [.int (nI mm), .int (nI c0)]) (w' := w3) rfl ?_
                refine gd_cS E hA (av := [.int (nI c0), .int (nI mm)]) (rest := []) (c2_moved hinj c0 mm (by omega) (by omega) w3) (K.1 98 (.invokestatic 82, 0) rfl).1 ml_M_82 cv_M_moved ⟨Nat.le_of_ble_eq_true rfl, Nat.le_of_ble_eq_true rfl⟩ ⟨Nat.zero_le _, Nat.zero_le _⟩ rfl (Nat.le_of_ble_eq_true rfl) ?_
                refine gd_r E K 2 (pc' := 105) (lv' := [(0, .ref 27), (1, .int (nI d)), (2, .int (nI goal)), (3, .int 1), (4, .int (nI en)), (5, .int (nI n)), (6, .int (nI c0)), (7, .int (gs_b (gs_any (fun m => gs_atO (gs_led (gs_rch S T cnt fr) goal en (en - (n + 1))) (gm_mv c0 m)) mm))), (8, .int (nI mm)), (9, .int (gm_nO (gm_mv c0 mm)))]) (st' := [.int (gs_b (gs_any (fun m => gs_atO (gs_led (gs_rch S T cnt fr) goal en (en - (n + 1))) (gm_mv c0 m)) mm))]) (w' := w3) rfl ?_
                cases hb : gs_any (fun m => gs_atO (gs_led (gs_rch S T cnt fr) goal en (en - (n + 1))) (gm_mv c0 m)) mm with
                | true =>
                  refine gd_r E K 1 (pc' := if (gs_b (true)) = 0 then 108 else 131) (lv' := [(0, .ref 27), (1, .int (nI d)), (2, .int (nI goal)), (3, .int 1), (4, .int (nI en)), (5, .int (nI n)), (6, .int (nI c0)), (7, .int (gs_b (true))), (8, .int (nI mm)), (9, .int (gm_nO (gm_mv c0 mm)))]) (st' := []) (w' := w3) rfl ?_
                  refine gd_if (by decide) ?_
                  refine gd_r E K 5 (pc' := 88) (lv' := [(0, .ref 27), (1, .int (nI d)), (2, .int (nI goal)), (3, .int 1), (4, .int (nI en)), (5, .int (nI n)), (6, .int (nI c0)), (7, .int 1), (8, .int ((nI mm) + 1)), (9, .int (gm_nO (gm_mv c0 mm)))]) (st' := []) (w' := w3) rfl ?_
                  refine gd_lvp [0, 1, 2, 3, 4, 5, 6, 7, 8] (lv' := [(0, .ref 27), (1, .int (nI d)), (2, .int (nI goal)), (3, .int 1), (4, .int (nI en)), (5, .int (nI n)), (6, .int (nI c0)), (7, .int 1), (8, .int ((nI mm) + 1))]) rfl ?_
                  exact gd_cg (ih3 (mm + 1) (by omega)) (by rw [gs_any_s, hb, Bool.true_or, nI_1]; rfl) rfl rfl
                | false =>
                  refine gd_r E K 1 (pc' := if (gs_b (false)) = 0 then 108 else 131) (lv' := [(0, .ref 27), (1, .int (nI d)), (2, .int (nI goal)), (3, .int 1), (4, .int (nI en)), (5, .int (nI n)), (6, .int (nI c0)), (7, .int (gs_b (false))), (8, .int (nI mm)), (9, .int (gm_nO (gm_mv c0 mm)))]) (st' := []) (w' := w3) rfl ?_
                  refine gd_it (by decide) ?_
                  refine gd_r E K 1 (pc' := 110) (lv' := [(0, .ref 27), (1, .int (nI d)), (2, .int (nI goal)), (3, .int 1), (4, .int (nI en)), (5, .int (nI n)), (6, .int (nI c0)), (7, .int (gs_b (false))), (8, .int (nI mm)), (9, .int (gm_nO (gm_mv c0 mm)))]) (st' := [.int (gm_nO (gm_mv c0 mm))]) (w' := w3) rfl ?_
                  cases ht : gm_mv c0 mm with
                  | none =>
                    refine gd_r E K 1 (pc' := if (gm_nO (none)) < 0 then 135 else 113) (lv' := [(0, .ref 27), (1, .int (nI d)), (2, .int (nI goal)), (3, .int 1), (4, .int (nI en)), (5, .int (nI n)), (6, .int (nI c0)), (7, .int (gs_b (false))), (8, .int (nI mm)), (9, .int (gm_nO (none)))]) (st' := []) (w' := w3) rfl ?_
                    refine gd_it (by decide) ?_
                    refine gd_r E K 4 (pc' := 88) (lv' := [(0, .ref 27), (1, .int (nI d)), (2, .int (nI goal)), (3, .int 1), (4, .int (nI en)), (5, .int (nI n)), (6, .int (nI c0)), (7, .int 0), (8, .int ((nI mm) + 1)), (9, .int (gm_nO (none)))]) (st' := []) (w' := w3) rfl ?_
                    refine gd_lvp [0, 1, 2, 3, 4, 5, 6, 7, 8] (lv' := [(0, .ref 27), (1, .int (nI d)), (2, .int (nI goal)), (3, .int 1), (4, .int (nI en)), (5, .int (nI n)), (6, .int (nI c0)), (7, .int 0), (8, .int ((nI mm) + 1))]) rfl ?_
                    exact gd_cg (ih3 (mm + 1) (by omega)) (by rw [gs_any_s, hb, ht, Bool.false_or, gs_atO, nI_1]; rfl) rfl rfl
                  | some bb =>
                    have hb64 := gm_mv_lt (by omega) ht
                    refine gd_r E K 1 (pc' := if (gm_nO (some bb)) < 0 then 135 else 113) (lv' := [(0, .ref 27), (1, .int (nI d)), (2, .int (nI goal)), (3, .int 1), (4, .int (nI en)), (5, .int (nI n)), (6, .int (nI c0)), (7, .int (gs_b (false))), (8, .int (nI mm)), (9, .int (gm_nO (some bb)))]) (st' := []) (w' := w3) rfl ?_
                    refine gd_if (gm_nO_some (by omega)) ?_
                    refine gd_r E K 9 (pc' := 127) (lv' := [(0, .ref 27), (1, .int (nI d)), (2, .int (nI goal)), (3, .int 1), (4, .int (nI en)), (5, .int (nI n)), (6, .int (nI c0)), (7, .int (gs_b (false))), (8, .int (nI mm)), (9, .int (gm_nO (some bb)))]) (st' := [.int ((64 * ((nI n) + 1)) + (gm_nO (some bb))), .ref 43]) (w' := w3) rfl ?_
                    refine gd_zaldv E (K.1 127 (.baload, 0) rfl).1 (j := 64 * (n + 1) + bb) (by decide) (rfl) (by rw [show (64 : Int32) = nI 64 from rfl, nI_1, pk_mul, gm_nO, nI_add]) (by omega) (by decide) (v := gs_b (gs_led (gs_rch S T cnt fr) goal en (en - (n + 1)) bb)) (hj.1.2 (n + 1) (by omega) (by omega) bb hb64) ?_
                    cases hx : gs_led (gs_rch S T cnt fr) goal en (en - (n + 1)) bb with
                    | true =>
                      refine gd_r E K 1 (pc' := if (gs_b (true)) = 0 then 135 else 131) (lv' := [(0, .ref 27), (1, .int (nI d)), (2, .int (nI goal)), (3, .int 1), (4, .int (nI en)), (5, .int (nI n)), (6, .int (nI c0)), (7, .int (gs_b (false))), (8, .int (nI mm)), (9, .int (gm_nO (some bb)))]) (st' := []) (w' := w3) rfl ?_
                      refine gd_if (by decide) ?_
                      refine gd_r E K 5 (pc' := 88) (lv' := [(0, .ref 27), (1, .int (nI d)), (2, .int (nI goal)), (3, .int 1), (4, .int (nI en)), (5, .int (nI n)), (6, .int (nI c0)), (7, .int 1), (8, .int ((nI mm) + 1)), (9, .int (gm_nO (some bb)))]) (st' := []) (w' := w3) rfl ?_
                      refine gd_lvp [0, 1, 2, 3, 4, 5, 6, 7, 8] (lv' := [(0, .ref 27), (1, .int (nI d)), (2, .int (nI goal)), (3, .int 1), (4, .int (nI en)), (5, .int (nI n)), (6, .int (nI c0)), (7, .int 1), (8, .int ((nI mm) + 1))]) rfl ?_
                      exact gd_cg (ih3 (mm + 1) (by omega)) (by rw [gs_any_s, hb, ht, Bool.false_or, gs_atO, hx, nI_1]; rfl) rfl rfl
                    | false =>
                      refine gd_r E K 1 (pc' := if (gs_b (false)) = 0 then 135 else 131) (lv' := [(0, .ref 27), (1, .int (nI d)), (2, .int (nI goal)), (3, .int 1), (4, .int (nI en)), (5, .int (nI n)), (6, .int (nI c0)), (7, .int (gs_b (false))), (8, .int (nI mm)), (9, .int (gm_nO (some bb)))]) (st' := []) (w' := w3) rfl ?_
                      refine gd_it (by decide) ?_
                      refine gd_r E K 4 (pc' := 88) (lv' := [(0, .ref 27), (1, .int (nI d)), (2, .int (nI goal)), (3, .int 1), (4, .int (nI en)), (5, .int (nI n)), (6, .int (nI c0)), (7, .int 0), (8, .int ((nI mm) + 1)), (9, .int (gm_nO (some bb)))]) (st' := []) (w' := w3) rfl ?_
                      refine gd_lvp [0, 1, 2, 3, 4, 5, 6, 7, 8] (lv' := [(0, .ref 27), (1, .int (nI d)), (2, .int (nI goal)), (3, .int 1), (4, .int (nI en)), (5, .int (nI n)), (6, .int (nI c0)), (7, .int 0), (8, .int ((nI mm) + 1))]) rfl ?_
                      exact gd_cg (ih3 (mm + 1) (by omega)) (by rw [gs_any_s, hb, ht, Bool.false_or, gs_atO, hx, nI_1]; rfl) rfl rfl
            exact gd_cg (moves 5 0 (by omega)) rfl rfl rfl
        exact gd_cg (cells 64 0 w2 (by omega) ⟨hli, fun c hc => by omega⟩) rfl rfl rfl
    have goalrow : ∀ i c0 w2, c0 + i = 64 → gs_lj (gs_led (gs_rch S T cnt fr) goal en) en w1 w2 en c0 → gd_G p l e (gd_rm 5 120) s m args below meth c D tC ad (gd_A ad 45 s.heap.size) 45 10 0 0 (MQ below (gd_Qp D tC ad 45 s.heap.size (fun r w' => r = some (.int (gm_nO (gs_way S T cnt fr goal true))) ∧ (gs_way S T cnt fr goal true = none → gf_r 42 w w') ∧ ∀ en, gs_way S T cnt fr goal true = some en → gs_laid w w' d en (gs_rtm (gs_led (gs_rch S T cnt fr) goal en) en fr))) args s 0 0 (gd_A ad 45 s.heap.size)) 24 [(0, .ref 27), (1, .int (nI d)), (2, .int (nI goal)), (3, .int 1), (4, .int (nI en)), (5, .int (nI c0))] [] w2 := by
      intro i
      induction i with
      | zero =>
        intro c0 w2 hc hj
        refine gd_r E K 2 (pc' := 28) (lv' := [(0, .ref 27), (1, .int (nI d)), (2, .int (nI goal)), (3, .int 1), (4, .int (nI en)), (5, .int (nI c0))]) (st' := [.int 64, .int (nI c0)]) (w' := w2) rfl ?_
        refine gd_r E K 1 (pc' := if 64 ≤ (nI c0) then 61 else 31) (lv' := [(0, .ref 27), (1, .int (nI d)), (2, .int (nI goal)), (3, .int 1), (4, .int (nI en)), (5, .int (nI c0))]) (st' := []) (w' := w2) rfl ?_
        refine gd_it (nI_le (show 64 ≤ c0 by omega) (by omega)) ?_
        refine gd_r E K 4 (pc' := 67) (lv' := [(0, .ref 27), (1, .int (nI d)), (2, .int (nI goal)), (3, .int 1), (4, .int (nI en)), (5, .int ((nI en) - 1))]) (st' := []) (w' := w2) rfl ?_
        exact gd_cg (back en w2 (by omega) (gs_lj_end (by rw [show (64 : Nat) = c0 by omega]; exact hj))) (by rw [gs_pr_sub]) rfl rfl
      | succ i ih =>
        intro c0 w2 hc hj
        refine gd_r E K 2 (pc' := 28) (lv' := [(0, .ref 27), (1, .int (nI d)), (2, .int (nI goal)), (3, .int 1), (4, .int (nI en)), (5, .int (nI c0))]) (st' := [.int 64, .int (nI c0)]) (w' := w2) rfl ?_
        refine gd_r E K 1 (pc' := if 64 ≤ (nI c0) then 61 else 31) (lv' := [(0, .ref 27), (1, .int (nI d)), (2, .int (nI goal)), (3, .int 1), (4, .int (nI en)), (5, .int (nI c0))]) (st' := []) (w' := w2) rfl ?_
        refine gd_if (nI_ge (show c0 < 64 by omega) (by decide)) ?_
        refine gd_r E K 9 (pc' := 46) (lv' := [(0, .ref 27), (1, .int (nI d)), (2, .int (nI goal)), (3, .int 1), (4, .int (nI en)), (5, .int (nI c0))]) (st' := [.int (nI goal), .int (nI c0), .int ((64 * (nI en)) + (nI c0)), .ref 43]) (w' := w2) rfl ?_
        by_cases hcg : c0 = goal
        · refine gd_r E K 1 (pc' := if (nI c0) = (nI goal) then 49 else 53) (lv' := [(0, .ref 27), (1, .int (nI d)), (2, .int (nI goal)), (3, .int 1), (4, .int (nI en)), (5, .int (nI c0))]) (st' := [.int ((64 * (nI en)) + (nI c0)), .ref 43]) (w' := w2) rfl ?_
          refine gd_it (by rw [hcg]) ?_
          refine gd_r E K 2 (pc' := 54) (lv' := [(0, .ref 27), (1, .int (nI d)), (2, .int (nI goal)), (3, .int 1), (4, .int (nI en)), (5, .int (nI c0))]) (st' := [.int 1, .int ((64 * (nI en)) + (nI c0)), .ref 43]) (w' := w2) rfl ?_
          refine gd_zast E (K.1 54 (.bastore, 0) rfl).1 (j := 64 * en + c0) (by decide) (rfl) (by rw [show (64 : Int32) = nI 64 from rfl, pk_mul, nI_add]) (by omega) (by decide) (by decide) ?_
          refine gd_r E K 2 (pc' := 24) (lv' := [(0, .ref 27), (1, .int (nI d)), (2, .int (nI goal)), (3, .int 1), (4, .int (nI en)), (5, .int ((nI c0) + 1))]) (st' := []) (w' := gd_rI w2 43 (upd (w2.1 43) (64 * en + c0) 1)) rfl ?_
          exact gd_cg (ih (c0 + 1) _ (by omega) (gs_lj_step hj (by omega) (by rw [Nat.sub_self, gs_led, decide_eq_true hcg]; rfl))) (by rw [nI_1]) rfl rfl
        · refine gd_r E K 1 (pc' := if (nI c0) = (nI goal) then 49 else 53) (lv' := [(0, .ref 27), (1, .int (nI d)), (2, .int (nI goal)), (3, .int 1), (4, .int (nI en)), (5, .int (nI c0))]) (st' := [.int ((64 * (nI en)) + (nI c0)), .ref 43]) (w' := w2) rfl ?_
          refine gd_if (by rw [nI_eq (by omega) (by omega)]; exact hcg) ?_
          refine gd_r E K 1 (pc' := 54) (lv' := [(0, .ref 27), (1, .int (nI d)), (2, .int (nI goal)), (3, .int 1), (4, .int (nI en)), (5, .int (nI c0))]) (st' := [.int 0, .int ((64 * (nI en)) + (nI c0)), .ref 43]) (w' := w2) rfl ?_
          refine gd_zast E (K.1 54 (.bastore, 0) rfl).1 (j := 64 * en + c0) (by decide) (rfl) (by rw [show (64 : Int32) = nI 64 from rfl, pk_mul, nI_add]) (by omega) (by decide) (by decide) ?_
          refine gd_r E K 2 (pc' := 24) (lv' := [(0, .ref 27), (1, .int (nI d)), (2, .int (nI goal)), (3, .int 1), (4, .int (nI en)), (5, .int ((nI c0) + 1))]) (st' := []) (w' := gd_rI w2 43 (upd (w2.1 43) (64 * en + c0) 0)) rfl ?_
          exact gd_cg (ih (c0 + 1) _ (by omega) (gs_lj_step hj (by omega) (by rw [Nat.sub_self, gs_led, decide_eq_false hcg]; rfl))) (by rw [nI_1]) rfl rfl
    refine gd_r E K 2 (pc' := 24) (lv' := [(0, .ref 27), (1, .int (nI d)), (2, .int (nI goal)), (3, .int 1), (4, .int (nI en)), (5, .int 0)]) (st' := []) (w' := w1) rfl ?_
    exact gd_cg (goalrow 64 0 w1 (by omega) ⟨⟨gf_r.refl _ _, fun i hi hi2 => by omega⟩, fun c hc => by omega⟩) rfl rfl rfl
set_option maxRecDepth 100000 in
theorem c2_layS {l : Launch} {D : va_G} {tC : FieldType → ClassId} {ad : Nat → Nat} (hinj : ∀ i j, ad i = ad j → i = j) {S : gs_T} {cnt : Nat} {T : Nat → Nat → Option Nat} (w : gd_W) (hK : gs_KK w S) (hT : gs_tab w cnt T) (d fr goal : Nat) (hd : d < 60) (hcd : w.1 30 d = nI fr) (hf : fr < 64) (hg : goal < 64) : gd_Cp l D tC ad 45 5 120 y_M_lay c_M_lay 10 (some .int) [.ref 27, .int (nI d), .int (nI goal), .int 0] w (fun r w' => r = some (.int (gm_nO (gs_way S T cnt fr goal false))) ∧ (gs_way S T cnt fr goal false = none → gf_r 42 w w') ∧ ∀ en, gs_way S T cnt fr goal false = some en → gs_laid w w' d en (gs_rtm (gs_led (gs_rch S T cnt fr) goal en) en fr)) := by
  refine gd_Cp_of rfl hinj (Nat.le_of_ble_eq_true rfl) ?_
  intro p e s m args below meth c E hr hlk
  have K := k_M_lay
  have hA : ∀ q, gd_A ad 45 s.heap.size q → gd_A ad 45 s.heap.size q := fun _ h => h
  refine gd_r E K 4 (pc' := 6) (lv' := [(0, .ref 27), (1, .int (nI d)), (2, .int (nI goal)), (3, .int 0)]) (st' := [.int (nI d), .ref 30, .ref 27]) (w' := w) rfl ?_
  refine gd_ialdv E (K.1 6 (.iaload, 0) rfl).1 (j := d) (by decide) (rfl) (rfl) (hd) (by decide) (v := nI fr) (hcd) ?_
  refine gd_r E K 2 (pc' := 9) (lv' := [(0, .ref 27), (1, .int (nI d)), (2, .int (nI goal)), (3, .int 0)]) (st' := [.int 0, .int (nI goal), .int (nI fr), .ref 27]) (w' := w) rfl ?_
  refine gd_cVp E hA (av := [.int (nI fr), .int (nI goal), .int 0]) (rest := []) (c2_spreadS hinj w hK hT fr goal hf hg) (K.1 9 (.invokevirtual 111, 0) rfl).1 ml_M_111 cv_M_spread (by decide) (rfl) ⟨Nat.le_of_ble_eq_true rfl, Nat.le_of_ble_eq_true rfl⟩ ⟨Nat.zero_le _, Nat.zero_le _⟩ rfl (Nat.le_of_ble_eq_true rfl) (fun r9 w1 h9 => ?_)
  obtain ⟨rfl, hf1, hbl⟩ := h9
  refine gd_r E K 2 (pc' := 16) (lv' := [(0, .ref 27), (1, .int (nI d)), (2, .int (nI goal)), (3, .int 0), (4, .int (gm_nO (gs_way S T cnt fr goal false)))]) (st' := [.int (gm_nO (gs_way S T cnt fr goal false))]) (w' := w1) rfl ?_
  obtain ⟨res, hres⟩ : ∃ x, gs_way S T cnt fr goal false = x := ⟨_, rfl⟩
  cases res with
  | none =>
    refine gd_cg (lv' := [(0, .ref 27), (1, .int (nI d)), (2, .int (nI goal)), (3, .int 0), (4, .int (gm_nO none))]) (st' := [.int (gm_nO none)]) (w' := w1) ?_ (by rw [hres]) (by rw [hres]) (rfl)
    refine gd_r E K 1 (pc' := if 0 ≤ (gm_nO none) then 21 else 19) (lv' := [(0, .ref 27), (1, .int (nI d)), (2, .int (nI goal)), (3, .int 0), (4, .int (gm_nO none))]) (st' := []) (w' := w1) rfl ?_
    refine gd_if (by decide) ?_
    refine gd_r E K 1 (pc' := 20) (lv' := [(0, .ref 27), (1, .int (nI d)), (2, .int (nI goal)), (3, .int 0), (4, .int (gm_nO none))]) (st' := [.int (-1)]) (w' := w1) rfl ?_
    exact gd_iretp E hr hlk (K.1 20 (.ireturn, 0) rfl).1 (⟨by rw [hres]; rfl, fun _ => hf1, fun en he => by rw [hres] at he; cases he⟩)
  | some en =>
    refine gd_cg (lv' := [(0, .ref 27), (1, .int (nI d)), (2, .int (nI goal)), (3, .int 0), (4, .int (gm_nO (some en)))]) (st' := [.int (gm_nO (some en))]) (w' := w1) ?_ (by rw [hres]) (by rw [hres]) (rfl)
    have hen := gs_way_le hres
    have hbl := hbl en hres
    refine gd_r E K 1 (pc' := if 0 ≤ (gm_nO (some en)) then 21 else 19) (lv' := [(0, .ref 27), (1, .int (nI d)), (2, .int (nI goal)), (3, .int 0), (4, .int (gm_nO (some en)))]) (st' := []) (w' := w1) rfl ?_
    refine gd_it (nI_pos' (by omega)) ?_
    refine gd_cg (lv' := [(0, .ref 27), (1, .int (nI d)), (2, .int (nI goal)), (3, .int 0), (4, .int (nI en))]) (st' := []) (w' := w1) ?_ (rfl) (rfl) (rfl)
    have route : ∀ w2, gs_li (gs_led (gs_rch S T cnt fr) goal en) en w1 w2 0 → ∀ j n w3, n + j = en → gs_lr w2 w3 d n (gs_rtm (gs_led (gs_rch S T cnt fr) goal en) en fr) → gd_G p l e (gd_rm 5 120) s m args below meth c D tC ad (gd_A ad 45 s.heap.size) 45 10 0 0 (MQ below (gd_Qp D tC ad 45 s.heap.size (fun r w' => r = some (.int (gm_nO (gs_way S T cnt fr goal false))) ∧ (gs_way S T cnt fr goal false = none → gf_r 42 w w') ∧ ∀ en, gs_way S T cnt fr goal false = some en → gs_laid w w' d en (gs_rtm (gs_led (gs_rch S T cnt fr) goal en) en fr))) args s 0 0 (gd_A ad 45 s.heap.size)) 206 [(0, .ref 27), (1, .int (nI d)), (2, .int (nI goal)), (3, .int 0), (4, .int (nI en)), (5, .int (nI (gs_rtc (gs_led (gs_rch S T cnt fr) goal en) en fr n))), (6, .int (nI n))] [] w3 := by
      intro w2 hli j
      induction j with
      | zero =>
        intro n w3 hn hlr
        refine gd_r E K 2 (pc' := 210) (lv' := [(0, .ref 27), (1, .int (nI d)), (2, .int (nI goal)), (3, .int 0), (4, .int (nI en)), (5, .int (nI (gs_rtc (gs_led (gs_rch S T cnt fr) goal en) en fr n))), (6, .int (nI n))]) (st' := [.int (nI en), .int (nI n)]) (w' := w3) rfl ?_
        refine gd_r E K 1 (pc' := if (nI en) ≤ (nI n) then 287 else 213) (lv' := [(0, .ref 27), (1, .int (nI d)), (2, .int (nI goal)), (3, .int 0), (4, .int (nI en)), (5, .int (nI (gs_rtc (gs_led (gs_rch S T cnt fr) goal en) en fr n))), (6, .int (nI n))]) (st' := []) (w' := w3) rfl ?_
        refine gd_it (nI_le (show en ≤ n by omega) (by omega)) ?_
        refine gd_r E K 4 (pc' := 294) (lv' := [(0, .ref 27), (1, .int (nI d)), (2, .int (nI goal)), (3, .int 0), (4, .int (nI en)), (5, .int (nI (gs_rtc (gs_led (gs_rch S T cnt fr) goal en) en fr n))), (6, .int (nI n))]) (st' := [.int (nI en), .int (nI d), .ref 34]) (w' := w3) rfl ?_
        refine gd_iast E (K.1 294 (.iastore, 0) rfl).1 (j := d) (by decide) (rfl) (rfl) (hd) (by decide) ?_
        refine gd_r E K 4 (pc' := 301) (lv' := [(0, .ref 27), (1, .int (nI d)), (2, .int (nI goal)), (3, .int 0), (4, .int (nI en)), (5, .int (nI (gs_rtc (gs_led (gs_rch S T cnt fr) goal en) en fr n))), (6, .int (nI n))]) (st' := [.int 0, .int (nI d), .ref 35]) (w' := gd_rI w3 34 (upd (w3.1 34) d (nI en))) rfl ?_
        refine gd_iast E (K.1 301 (.iastore, 0) rfl).1 (j := d) (by decide) (rfl) (rfl) (hd) (by decide) ?_
        refine gd_r E K 1 (pc' := 304) (lv' := [(0, .ref 27), (1, .int (nI d)), (2, .int (nI goal)), (3, .int 0), (4, .int (nI en)), (5, .int (nI (gs_rtc (gs_led (gs_rch S T cnt fr) goal en) en fr n))), (6, .int (nI n))]) (st' := [.int (nI en)]) (w' := gd_rI (gd_rI w3 34 (upd (w3.1 34) d (nI en))) 35 (upd ((gd_rI w3 34 (upd (w3.1 34) d (nI en))).1 35) d 0)) rfl ?_
        exact gd_iretp E hr hlk (K.1 304 (.ireturn, 0) rfl).1 (⟨by rw [hres]; rfl, fun h => (by rw [hres] at h; cases h), fun en2 he => by rw [hres] at he; cases he; exact gs_laid_of hf1 hli.1 (by have hne : n = en := (by omega); rw [hne] at hlr; exact hlr)⟩)
      | succ j ih =>
        intro n w3 hn hlr
        refine gd_r E K 2 (pc' := 210) (lv' := [(0, .ref 27), (1, .int (nI d)), (2, .int (nI goal)), (3, .int 0), (4, .int (nI en)), (5, .int (nI (gs_rtc (gs_led (gs_rch S T cnt fr) goal en) en fr n))), (6, .int (nI n))]) (st' := [.int (nI en), .int (nI n)]) (w' := w3) rfl ?_
        refine gd_r E K 1 (pc' := if (nI en) ≤ (nI n) then 287 else 213) (lv' := [(0, .ref 27), (1, .int (nI d)), (2, .int (nI goal)), (3, .int 0), (4, .int (nI en)), (5, .int (nI (gs_rtc (gs_led (gs_rch S T cnt fr) goal en) en fr n))), (6, .int (nI n))]) (st' := []) (w' := w3) rfl ?_
        refine gd_if (nI_ge (show n < en by omega) (by omega)) ?_
        refine gd_r E K 2 (pc' := 216) (lv' := [(0, .ref 27), (1, .int (nI d)), (2, .int (nI goal)), (3, .int 0), (4, .int (nI en)), (5, .int (nI (gs_rtc (gs_led (gs_rch S T cnt fr) goal en) en fr n))), (6, .int (nI n)), (7, .int 0)]) (st' := []) (w' := w3) rfl ?_
        obtain ⟨hex, hmv⟩ := gs_rtc_mv hf hg hres (show n < en by omega)
        obtain ⟨q1, q2, q3⟩ := gs_lm_spec hex
        have hc64 := (gs_rtc_ok hf hg hres n (by omega)).1
        have hrow : gs_blk w3 43 (n + 1) 64 (gs_led (gs_rch S T cnt fr) goal en (en - (n + 1))) := by
          intro c0 hc0
          rw [hlr.1.1 43 (by decide)]
          exact hli.2 (n + 1) (by omega) (by omega) c0 hc0
        have hlm : gs_lm (fun m => gs_atO (gs_led (gs_rch S T cnt fr) goal en (en - (n + 1))) (gm_mv (gs_rtc (gs_led (gs_rch S T cnt fr) goal en) en fr n) m)) = gs_rtm (gs_led (gs_rch S T cnt fr) goal en) en fr n := rfl
        rw [hlm] at q1 q2 q3
        have pick : ∀ i mm, mm + i = gs_rtm (gs_led (gs_rch S T cnt fr) goal en) en fr n → gd_G p l e (gd_rm 5 120) s m args below meth c D tC ad (gd_A ad 45 s.heap.size) 45 10 0 0 (MQ below (gd_Qp D tC ad 45 s.heap.size (fun r w' => r = some (.int (gm_nO (gs_way S T cnt fr goal false))) ∧ (gs_way S T cnt fr goal false = none → gf_r 42 w w') ∧ ∀ en, gs_way S T cnt fr goal false = some en → gs_laid w w' d en (gs_rtm (gs_led (gs_rch S T cnt fr) goal en) en fr))) args s 0 0 (gd_A ad 45 s.heap.size)) 216 [(0, .ref 27), (1, .int (nI d)), (2, .int (nI goal)), (3, .int 0), (4, .int (nI en)), (5, .int (nI (gs_rtc (gs_led (gs_rch S T cnt fr) goal en) en fr n))), (6, .int (nI n)), (7, .int (nI mm))] [] w3 := by
          intro i
          induction i with
          | zero =>
            intro mm hmm
            have hmm2 : mm = gs_rtm (gs_led (gs_rch S T cnt fr) goal en) en fr n := by omega
            obtain ⟨bb, hb1, hb2⟩ := gs_atO_iff.mp q2
            have hb64 := gm_mv_lt hc64 hb1
            have hnb : bb = gs_rtc (gs_led (gs_rch S T cnt fr) goal en) en fr (n + 1) := Option.some.inj (hb1.symm.trans hmv)
            rw [← hmm2] at hb1
            refine gd_r E K 2 (pc' := 220) (lv' := [(0, .ref 27), (1, .int (nI d)), (2, .int (nI goal)), (3, .int 0), (4, .int (nI en)), (5, .int (nI (gs_rtc (gs_led (gs_rch S T cnt fr) goal en) en fr n))), (6, .int (nI n)), (7, .int (nI mm))]) (st' := [.int (nI mm), .int (nI (gs_rtc (gs_led (gs_rch S T cnt fr) goal en) en fr n))]) (w' := w3) rfl ?_
            refine gd_cS E hA (av := [.int (nI (gs_rtc (gs_led (gs_rch S T cnt fr) goal en) en fr n)), .int (nI mm)]) (rest := []) (c2_moved hinj _ mm hc64 (by omega) w3) (K.1 220 (.invokestatic 82, 0) rfl).1 ml_M_82 cv_M_moved ⟨Nat.le_of_ble_eq_true rfl, Nat.le_of_ble_eq_true rfl⟩ ⟨Nat.zero_le _, Nat.zero_le _⟩ rfl (Nat.le_of_ble_eq_true rfl) ?_
            rw [hb1]
            refine gd_r E K 1 (pc' := if (gm_nO (some bb)) < 0 then 249 else 226) (lv' := [(0, .ref 27), (1, .int (nI d)), (2, .int (nI goal)), (3, .int 0), (4, .int (nI en)), (5, .int (nI (gs_rtc (gs_led (gs_rch S T cnt fr) goal en) en fr n))), (6, .int (nI n)), (7, .int (nI mm))]) (st' := []) (w' := w3) rfl ?_
            refine gd_if (gm_nO_some (by omega)) ?_
            refine gd_r E K 9 (pc' := 241) (lv' := [(0, .ref 27), (1, .int (nI d)), (2, .int (nI goal)), (3, .int 0), (4, .int (nI en)), (5, .int (nI (gs_rtc (gs_led (gs_rch S T cnt fr) goal en) en fr n))), (6, .int (nI n)), (7, .int (nI mm))]) (st' := [.int (nI mm), .int (nI (gs_rtc (gs_led (gs_rch S T cnt fr) goal en) en fr n)), .int (64 * ((nI n) + 1)), .ref 43]) (w' := w3) rfl ?_
            refine gd_cS E hA (av := [.int (nI (gs_rtc (gs_led (gs_rch S T cnt fr) goal en) en fr n)), .int (nI mm)]) (rest := [.int (64 * ((nI n) + 1)), .ref 43]) (c2_moved hinj _ mm hc64 (by omega) w3) (K.1 241 (.invokestatic 82, 0) rfl).1 ml_M_82 cv_M_moved ⟨Nat.le_of_ble_eq_true rfl, Nat.le_of_ble_eq_true rfl⟩ ⟨Nat.zero_le _, Nat.zero_le _⟩ rfl (Nat.le_of_ble_eq_true rfl) ?_
            rw [hb1]
            refine gd_r E K 1 (pc' := 245) (lv' := [(0, .ref 27), (1, .int (nI d)), (2, .int (nI goal)), (3, .int 0), (4, .int (nI en)), (5, .int (nI (gs_rtc (gs_led (gs_rch S T cnt fr) goal en) en fr n))), (6, .int (nI n)), (7, .int (nI mm))]) (st' := [.int ((64 * ((nI n) + 1)) + (gm_nO (some bb))), .ref 43]) (w' := w3) rfl ?_
            refine gd_zaldv E (K.1 245 (.baload, 0) rfl).1 (j := 64 * (n + 1) + bb) (by decide) (rfl) (by rw [show (64 : Int32) = nI 64 from rfl, nI_1, pk_mul, gm_nO, nI_add]) (by omega) (by decide) (v := gs_b true) (by rw [hrow bb hb64, hb2]) ?_
            refine gd_r E K 1 (pc' := if (gs_b true) = 0 then 249 else 258) (lv' := [(0, .ref 27), (1, .int (nI d)), (2, .int (nI goal)), (3, .int 0), (4, .int (nI en)), (5, .int (nI (gs_rtc (gs_led (gs_rch S T cnt fr) goal en) en fr n))), (6, .int (nI n)), (7, .int (nI mm))]) (st' := []) (w' := w3) rfl ?_
            refine gd_if (by decide) ?_
            refine gd_r E K 8 (pc' := 271) (lv' := [(0, .ref 27), (1, .int (nI d)), (2, .int (nI goal)), (3, .int 0), (4, .int (nI en)), (5, .int (nI (gs_rtc (gs_led (gs_rch S T cnt fr) goal en) en fr n))), (6, .int (nI n)), (7, .int (nI mm))]) (st' := [.int (nI mm), .int ((60 * (nI d)) + (nI n)), .ref 33]) (w' := w3) rfl ?_
            refine gd_iast E (K.1 271 (.iastore, 0) rfl).1 (j := 60 * d + n) (by decide) (rfl) (by rw [show (60 : Int32) = nI 60 from rfl, pk_mul, nI_add]) (by omega) (by decide) ?_
            refine gd_r E K 2 (pc' := 276) (lv' := [(0, .ref 27), (1, .int (nI d)), (2, .int (nI goal)), (3, .int 0), (4, .int (nI en)), (5, .int (nI (gs_rtc (gs_led (gs_rch S T cnt fr) goal en) en fr n))), (6, .int (nI n)), (7, .int (nI mm))]) (st' := [.int (nI mm), .int (nI (gs_rtc (gs_led (gs_rch S T cnt fr) goal en) en fr n))]) (w' := gd_rI w3 33 (upd (w3.1 33) (60 * d + n) (nI mm))) rfl ?_
            refine gd_cS E hA (av := [.int (nI (gs_rtc (gs_led (gs_rch S T cnt fr) goal en) en fr n)), .int (nI mm)]) (rest := []) (c2_moved hinj _ mm hc64 (by omega) _) (K.1 276 (.invokestatic 82, 0) rfl).1 ml_M_82 cv_M_moved ⟨Nat.le_of_ble_eq_true rfl, Nat.le_of_ble_eq_true rfl⟩ ⟨Nat.zero_le _, Nat.zero_le _⟩ rfl (Nat.le_of_ble_eq_true rfl) ?_
            rw [hb1]
            refine gd_r E K 3 (pc' := 206) (lv' := [(0, .ref 27), (1, .int (nI d)), (2, .int (nI goal)), (3, .int 0), (4, .int (nI en)), (5, .int (gm_nO (some bb))), (6, .int ((nI n) + 1)), (7, .int (nI mm))]) (st' := []) (w' := gd_rI w3 33 (upd (w3.1 33) (60 * d + n) (nI mm))) rfl ?_
            refine gd_lvp [0, 1, 2, 3, 4, 5, 6] (lv' := [(0, .ref 27), (1, .int (nI d)), (2, .int (nI goal)), (3, .int 0), (4, .int (nI en)), (5, .int (gm_nO (some bb))), (6, .int ((nI n) + 1))]) rfl ?_
            exact gd_cg (ih (n + 1) _ (by omega) (gs_lr_step hlr (by omega))) (by rw [nI_1, hnb]; rfl) rfl (by rw [hmm2])
          | succ i ih3 =>
            intro mm hmm
            have hno := q3 mm (by omega)
            refine gd_r E K 2 (pc' := 220) (lv' := [(0, .ref 27), (1, .int (nI d)), (2, .int (nI goal)), (3, .int 0), (4, .int (nI en)), (5, .int (nI (gs_rtc (gs_led (gs_rch S T cnt fr) goal en) en fr n))), (6, .int (nI n)), (7, .int (nI mm))]) (st' := [.int (nI mm), .int (nI (gs_rtc (gs_led (gs_rch S T cnt fr) goal en) en fr n))]) (w' := w3) rfl ?_
            refine gd_cS E hA (av := [.int (nI (gs_rtc (gs_led (gs_rch S T cnt fr) goal en) en fr n)), .int (nI mm)]) (rest := []) (c2_moved hinj _ mm hc64 (by omega) w3) (K.1 220 (.invokestatic 82, 0) rfl).1 ml_M_82 cv_M_moved ⟨Nat.le_of_ble_eq_true rfl, Nat.le_of_ble_eq_true rfl⟩ ⟨Nat.zero_le _, Nat.zero_le _⟩ rfl (Nat.le_of_ble_eq_true rfl) ?_
            cases hb1 : gm_mv (gs_rtc (gs_led (gs_rch S T cnt fr) goal en) en fr n) mm with
            | none =>
              refine gd_r E K 1 (pc' := if (gm_nO (none)) < 0 then 249 else 226) (lv' := [(0, .ref 27), (1, .int (nI d)), (2, .int (nI goal)), (3, .int 0), (4, .int (nI en)), (5, .int (nI (gs_rtc (gs_led (gs_rch S T cnt fr) goal en) en fr n))), (6, .int (nI n)), (7, .int (nI mm))]) (st' := []) (w' := w3) rfl ?_
              refine gd_it (by decide) ?_
              refine gd_r E K 5 (pc' := 216) (lv' := [(0, .ref 27), (1, .int (nI d)), (2, .int (nI goal)), (3, .int 0), (4, .int (nI en)), (5, .int (nI (gs_rtc (gs_led (gs_rch S T cnt fr) goal en) en fr n))), (6, .int (nI n)), (7, .int ((nI mm) + 1))]) (st' := []) (w' := w3) rfl ?_
              exact gd_cg (ih3 (mm + 1) (by omega)) (by rw [nI_1]) rfl rfl
            | some bb =>
              have hb64 := gm_mv_lt hc64 hb1
              have hf0 : gs_led (gs_rch S T cnt fr) goal en (en - (n + 1)) bb = false := by
                have := hno
                rw [hb1] at this
                exact this
              refine gd_r E K 1 (pc' := if (gm_nO (some bb)) < 0 then 249 else 226) (lv' := [(0, .ref 27), (1, .int (nI d)), (2, .int (nI goal)), (3, .int 0), (4, .int (nI en)), (5, .int (nI (gs_rtc (gs_led (gs_rch S T cnt fr) goal en) en fr n))), (6, .int (nI n)), (7, .int (nI mm))]) (st' := []) (w' := w3) rfl ?_
              refine gd_if (gm_nO_some (by omega)) ?_
              refine gd_r E K 9 (pc' := 241) (lv' := [(0, .ref 27), (1, .int (nI d)), (2, .int (nI goal)), (3, .int 0), (4, .int (nI en)), (5, .int (nI (gs_rtc (gs_led (gs_rch S T cnt fr) goal en) en fr n))), (6, .int (nI n)), (7, .int (nI mm))]) (st' := [.int (nI mm), .int (nI (gs_rtc (gs_led (gs_rch S T cnt fr) goal en) en fr n)), .int (64 * ((nI n) + 1)), .ref 43]) (w' := w3) rfl ?_
              refine gd_cS E hA (av := [.int (nI (gs_rtc (gs_led (gs_rch S T cnt fr) goal en) en fr n)), .int (nI mm)]) (rest := [.int (64 * ((nI n) + 1)), .ref 43]) (c2_moved hinj _ mm hc64 (by omega) w3) (K.1 241 (.invokestatic 82, 0) rfl).1 ml_M_82 cv_M_moved ⟨Nat.le_of_ble_eq_true rfl, Nat.le_of_ble_eq_true rfl⟩ ⟨Nat.zero_le _, Nat.zero_le _⟩ rfl (Nat.le_of_ble_eq_true rfl) ?_
              rw [hb1]
              refine gd_r E K 1 (pc' := 245) (lv' := [(0, .ref 27), (1, .int (nI d)), (2, .int (nI goal)), (3, .int 0), (4, .int (nI en)), (5, .int (nI (gs_rtc (gs_led (gs_rch S T cnt fr) goal en) en fr n))), (6, .int (nI n)), (7, .int (nI mm))]) (st' := [.int ((64 * ((nI n) + 1)) + (gm_nO (some bb))), .ref 43]) (w' := w3) rfl ?_
              refine gd_zaldv E (K.1 245 (.baload, 0) rfl).1 (j := 64 * (n + 1) + bb) (by decide) (rfl) (by rw [show (64 : Int32) = nI 64 from rfl, nI_1, pk_mul, gm_nO, nI_add]) (by omega) (by decide) (v := gs_b false) (by rw [hrow bb hb64, hf0]) ?_
              refine gd_r E K 1 (pc' := if (gs_b false) = 0 then 249 else 258) (lv' := [(0, .ref 27), (1, .int (nI d)), (2, .int (nI goal)), (3, .int 0), (4, .int (nI en)), (5, .int (nI (gs_rtc (gs_led (gs_rch S T cnt fr) goal en) en fr n))), (6, .int (nI n)), (7, .int (nI mm))]) (st' := []) (w' := w3) rfl ?_
              refine gd_it (by decide) ?_
              refine gd_r E K 5 (pc' := 216) (lv' := [(0, .ref 27), (1, .int (nI d)), (2, .int (nI goal)), (3, .int 0), (4, .int (nI en)), (5, .int (nI (gs_rtc (gs_led (gs_rch S T cnt fr) goal en) en fr n))), (6, .int (nI n)), (7, .int ((nI mm) + 1))]) (st' := []) (w' := w3) rfl ?_
              exact gd_cg (ih3 (mm + 1) (by omega)) (by rw [nI_1]) rfl rfl
        exact gd_cg (pick (gs_rtm (gs_led (gs_rch S T cnt fr) goal en) en fr n) 0 (by omega)) rfl rfl rfl
    have back : ∀ n w2, n ≤ en → gs_li (gs_led (gs_rch S T cnt fr) goal en) en w1 w2 n → gd_G p l e (gd_rm 5 120) s m args below meth c D tC ad (gd_A ad 45 s.heap.size) 45 10 0 0 (MQ below (gd_Qp D tC ad 45 s.heap.size (fun r w' => r = some (.int (gm_nO (gs_way S T cnt fr goal false))) ∧ (gs_way S T cnt fr goal false = none → gf_r 42 w w') ∧ ∀ en, gs_way S T cnt fr goal false = some en → gs_laid w w' d en (gs_rtm (gs_led (gs_rch S T cnt fr) goal en) en fr))) args s 0 0 (gd_A ad 45 s.heap.size)) 67 [(0, .ref 27), (1, .int (nI d)), (2, .int (nI goal)), (3, .int 0), (4, .int (nI en)), (5, .int (gs_pr n))] [] w2 := by
      intro n
      induction n with
      | zero =>
        intro w2 hn hli
        refine gd_cg (lv' := [(0, .ref 27), (1, .int (nI d)), (2, .int (nI goal)), (3, .int 0), (4, .int (nI en)), (5, .int (-1))]) (st' := []) (w' := w2) ?_ rfl rfl rfl
        refine gd_r E K 1 (pc' := 69) (lv' := [(0, .ref 27), (1, .int (nI d)), (2, .int (nI goal)), (3, .int 0), (4, .int (nI en)), (5, .int (-1))]) (st' := [.int (-1)]) (w' := w2) rfl ?_
        refine gd_r E K 1 (pc' := if (-1) < 0 then 195 else 72) (lv' := [(0, .ref 27), (1, .int (nI d)), (2, .int (nI goal)), (3, .int 0), (4, .int (nI en)), (5, .int (-1))]) (st' := []) (w' := w2) rfl ?_
        refine gd_it (by decide) ?_
        refine gd_r E K 3 (pc' := 200) (lv' := [(0, .ref 27), (1, .int (nI d)), (2, .int (nI goal)), (3, .int 0), (4, .int (nI en)), (5, .int (-1))]) (st' := [.int (nI d), .ref 30]) (w' := w2) rfl ?_
        refine gd_ialdv E (K.1 200 (.iaload, 0) rfl).1 (j := d) (by decide) (rfl) (rfl) (hd) (by decide) (v := nI fr) (by rw [hli.1.1 30 (by decide), hf1.1 30 (by decide)]; exact hcd) ?_
        refine gd_r E K 3 (pc' := 206) (lv' := [(0, .ref 27), (1, .int (nI d)), (2, .int (nI goal)), (3, .int 0), (4, .int (nI en)), (5, .int (nI fr)), (6, .int 0)]) (st' := []) (w' := w2) rfl ?_
        exact gd_cg (route w2 hli en 0 w2 (by omega) ⟨gf_r.refl _ _, fun i hi => by omega, fun _ _ => rfl⟩) rfl rfl rfl
      | succ n ih =>
        intro w2 hn hli
        refine gd_cg (lv' := [(0, .ref 27), (1, .int (nI d)), (2, .int (nI goal)), (3, .int 0), (4, .int (nI en)), (5, .int (nI n))]) (st' := []) (w' := w2) ?_ rfl rfl rfl
        refine gd_r E K 1 (pc' := 69) (lv' := [(0, .ref 27), (1, .int (nI d)), (2, .int (nI goal)), (3, .int 0), (4, .int (nI en)), (5, .int (nI n))]) (st' := [.int (nI n)]) (w' := w2) rfl ?_
        refine gd_r E K 1 (pc' := if (nI n) < 0 then 195 else 72) (lv' := [(0, .ref 27), (1, .int (nI d)), (2, .int (nI goal)), (3, .int 0), (4, .int (nI en)), (5, .int (nI n))]) (st' := []) (w' := w2) rfl ?_
        refine gd_if (nI_pos (by omega)) ?_
        refine gd_r E K 2 (pc' := 75) (lv' := [(0, .ref 27), (1, .int (nI d)), (2, .int (nI goal)), (3, .int 0), (4, .int (nI en)), (5, .int (nI n)), (6, .int 0)]) (st' := []) (w' := w2) rfl ?_
        have cells : ∀ i c0 w3, c0 + i = 64 → gs_lj (gs_led (gs_rch S T cnt fr) goal en) en w1 w3 n c0 → gd_G p l e (gd_rm 5 120) s m args below meth c D tC ad (gd_A ad 45 s.heap.size) 45 10 0 0 (MQ below (gd_Qp D tC ad 45 s.heap.size (fun r w' => r = some (.int (gm_nO (gs_way S T cnt fr goal false))) ∧ (gs_way S T cnt fr goal false = none → gf_r 42 w w') ∧ ∀ en, gs_way S T cnt fr goal false = some en → gs_laid w w' d en (gs_rtm (gs_led (gs_rch S T cnt fr) goal en) en fr))) args s 0 0 (gd_A ad 45 s.heap.size)) 75 [(0, .ref 27), (1, .int (nI d)), (2, .int (nI goal)), (3, .int 0), (4, .int (nI en)), (5, .int (nI n)), (6, .int (nI c0))] [] w3 := by
          intro i
          induction i with
          | zero =>
            intro c0 w3 hc hj
            refine gd_r E K 2 (pc' := 79) (lv' := [(0, .ref 27), (1, .int (nI d)), (2, .int (nI goal)), (3, .int 0), (4, .int (nI en)), (5, .int (nI n)), (6, .int (nI c0))]) (st' := [.int 64, .int (nI c0)]) (w' := w3) rfl ?_
            refine gd_r E K 1 (pc' := if 64 ≤ (nI c0) then 189 else 82) (lv' := [(0, .ref 27), (1, .int (nI d)), (2, .int (nI goal)), (3, .int 0), (4, .int (nI en)), (5, .int (nI n)), (6, .int (nI c0))]) (st' := []) (w' := w3) rfl ?_
            refine gd_it (nI_le (show 64 ≤ c0 by omega) (by omega)) ?_
            refine gd_r E K 2 (pc' := 67) (lv' := [(0, .ref 27), (1, .int (nI d)), (2, .int (nI goal)), (3, .int 0), (4, .int (nI en)), (5, .int ((nI n) + (-1))), (6, .int (nI c0))]) (st' := []) (w' := w3) rfl ?_
            refine gd_lvp [0, 1, 2, 3, 4, 5] (lv' := [(0, .ref 27), (1, .int (nI d)), (2, .int (nI goal)), (3, .int 0), (4, .int (nI en)), (5, .int ((nI n) + (-1)))]) rfl ?_
            exact gd_cg (ih w3 (by omega) (gs_lj_end (by rw [show (64 : Nat) = c0 by omega]; exact hj))) (by rw [gs_pr_add]) rfl rfl
          | succ i ih2 =>
            intro c0 w3 hc hj
            refine gd_r E K 2 (pc' := 79) (lv' := [(0, .ref 27), (1, .int (nI d)), (2, .int (nI goal)), (3, .int 0), (4, .int (nI en)), (5, .int (nI n)), (6, .int (nI c0))]) (st' := [.int 64, .int (nI c0)]) (w' := w3) rfl ?_
            refine gd_r E K 1 (pc' := if 64 ≤ (nI c0) then 189 else 82) (lv' := [(0, .ref 27), (1, .int (nI d)), (2, .int (nI goal)), (3, .int 0), (4, .int (nI en)), (5, .int (nI n)), (6, .int (nI c0))]) (st' := []) (w' := w3) rfl ?_
            refine gd_if (nI_ge (show c0 < 64 by omega) (by decide)) ?_
            refine gd_r E K 4 (pc' := 88) (lv' := [(0, .ref 27), (1, .int (nI d)), (2, .int (nI goal)), (3, .int 0), (4, .int (nI en)), (5, .int (nI n)), (6, .int (nI c0)), (7, .int 0), (8, .int 0)]) (st' := []) (w' := w3) rfl ?_
            have hL : gs_led (gs_rch S T cnt fr) goal en (en - n) c0 = (gs_any (fun m => gs_atO (gs_led (gs_rch S T cnt fr) goal en (en - (n + 1))) (gm_mv c0 m)) 5 && gs_rch S T cnt fr n c0) := by
              rw [show en - n = (en - (n + 1)) + 1 by omega, gs_led, show en - (en - (n + 1) + 1) = n by omega]
            have moves : ∀ i2 mm, mm + i2 = 5 → gd_G p l e (gd_rm 5 120) s m args below meth c D tC ad (gd_A ad 45 s.heap.size) 45 10 0 0 (MQ below (gd_Qp D tC ad 45 s.heap.size (fun r w' => r = some (.int (gm_nO (gs_way S T cnt fr goal false))) ∧ (gs_way S T cnt fr goal false = none → gf_r 42 w w') ∧ ∀ en, gs_way S T cnt fr goal false = some en → gs_laid w w' d en (gs_rtm (gs_led (gs_rch S T cnt fr) goal en) en fr))) args s 0 0 (gd_A ad 45 s.heap.size)) 88 [(0, .ref 27), (1, .int (nI d)), (2, .int (nI goal)), (3, .int 0), (4, .int (nI en)), (5, .int (nI n)), (6, .int (nI c0)), (7, .int (gs_b (gs_any (fun m => gs_atO (gs_led (gs_rch S T cnt fr) goal en (en - (n + 1))) (gm_mv c0 m)) mm))), (8, .int (nI mm))] [] w3 := by
              intro i2
              induction i2 with
              | zero =>
                intro mm hmm
                refine gd_r E K 2 (pc' := 91) (lv' := [(0, .ref 27), (1, .int (nI d)), (2, .int (nI goal)), (3, .int 0), (4, .int (nI en)), (5, .int (nI n)), (6, .int (nI c0)), (7, .int (gs_b (gs_any (fun m => gs_atO (gs_led (gs_rch S T cnt fr) goal en (en - (n + 1))) (gm_mv c0 m)) mm))), (8, .int (nI mm))]) (st' := [.int 5, .int (nI mm)]) (w' := w3) rfl ?_
                refine gd_r E K 1 (pc' := if 5 ≤ (nI mm) then 144 else 94) (lv' := [(0, .ref 27), (1, .int (nI d)), (2, .int (nI goal)), (3, .int 0), (4, .int (nI en)), (5, .int (nI n)), (6, .int (nI c0)), (7, .int (gs_b (gs_any (fun m => gs_atO (gs_led (gs_rch S T cnt fr) goal en (en - (n + 1))) (gm_mv c0 m)) mm))), (8, .int (nI mm))]) (st' := []) (w' := w3) rfl ?_
                refine gd_it (nI_le (show 5 ≤ mm by omega) (by omega)) ?_
                refine gd_r E K 8 (pc' := 158) (lv' := [(0, .ref 27), (1, .int (nI d)), (2, .int (nI goal)), (3, .int 0), (4, .int (nI en)), (5, .int (nI n)), (6, .int (nI c0)), (7, .int (gs_b (gs_any (fun m => gs_atO (gs_led (gs_rch S T cnt fr) goal en (en - (n + 1))) (gm_mv c0 m)) mm))), (8, .int (nI mm))]) (st' := [.int (gs_b (gs_any (fun m => gs_atO (gs_led (gs_rch S T cnt fr) goal en (en - (n + 1))) (gm_mv c0 m)) mm)), .int ((64 * (nI n)) + (nI c0)), .ref 43]) (w' := w3) rfl ?_
                have hm5 : gs_any (fun m => gs_atO (gs_led (gs_rch S T cnt fr) goal en (en - (n + 1))) (gm_mv c0 m)) mm = gs_any (fun m => gs_atO (gs_led (gs_rch S T cnt fr) goal en (en - (n + 1))) (gm_mv c0 m)) 5 := by rw [show mm = 5 by omega]
                cases hb : gs_any (fun m => gs_atO (gs_led (gs_rch S T cnt fr) goal en (en - (n + 1))) (gm_mv c0 m)) mm with
                | true =>
                  refine gd_r E K 1 (pc' := if (gs_b (true)) = 0 then 181 else 161) (lv' := [(0, .ref 27), (1, .int (nI d)), (2, .int (nI goal)), (3, .int 0), (4, .int (nI en)), (5, .int (nI n)), (6, .int (nI c0)), (7, .int (gs_b (true))), (8, .int (nI mm))]) (st' := [.int ((64 * (nI n)) + (nI c0)), .ref 43]) (w' := w3) rfl ?_
                  refine gd_if (by decide) ?_
                  refine gd_r E K 7 (pc' := 173) (lv' := [(0, .ref 27), (1, .int (nI d)), (2, .int (nI goal)), (3, .int 0), (4, .int (nI en)), (5, .int (nI n)), (6, .int (nI c0)), (7, .int (gs_b (true))), (8, .int (nI mm))]) (st' := [.int ((64 * (nI n)) + (nI c0)), .ref 42, .int ((64 * (nI n)) + (nI c0)), .ref 43]) (w' := w3) rfl ?_
                  refine gd_zaldv E (K.1 173 (.baload, 0) rfl).1 (j := 64 * n + c0) (by decide) (rfl) (by rw [show (64 : Int32) = nI 64 from rfl, pk_mul, nI_add]) (by omega) (by decide) (v := gs_b (gs_rch S T cnt fr n c0)) (by rw [hj.1.1.1 42 (by decide)]; exact hbl n (by omega) c0 (by omega)) ?_
                  cases hx : gs_rch S T cnt fr n c0 with
                  | true =>
                    refine gd_r E K 1 (pc' := if (gs_b (true)) = 0 then 181 else 177) (lv' := [(0, .ref 27), (1, .int (nI d)), (2, .int (nI goal)), (3, .int 0), (4, .int (nI en)), (5, .int (nI n)), (6, .int (nI c0)), (7, .int (gs_b (true))), (8, .int (nI mm))]) (st' := [.int ((64 * (nI n)) + (nI c0)), .ref 43]) (w' := w3) rfl ?_
                    refine gd_if (by decide) ?_
                    refine gd_r E K 2 (pc' := 182) (lv' := [(0, .ref 27), (1, .int (nI d)), (2, .int (nI goal)), (3, .int 0), (4, .int (nI en)), (5, .int (nI n)), (6, .int (nI c0)), (7, .int (gs_b (true))), (8, .int (nI mm))]) (st' := [.int 1, .int ((64 * (nI n)) + (nI c0)), .ref 43]) (w' := w3) rfl ?_
                    refine gd_zast E (K.1 182 (.bastore, 0) rfl).1 (j := 64 * n + c0) (by decide) (rfl) (by rw [show (64 : Int32) = nI 64 from rfl, pk_mul, nI_add]) (by omega) (by decide) (by decide) ?_
                    refine gd_r E K 2 (pc' := 75) (lv' := [(0, .ref 27), (1, .int (nI d)), (2, .int (nI goal)), (3, .int 0), (4, .int (nI en)), (5, .int (nI n)), (6, .int ((nI c0) + 1)), (7, .int (gs_b (true))), (8, .int (nI mm))]) (st' := []) (w' := gd_rI w3 43 (upd (w3.1 43) (64 * n + c0) 1)) rfl ?_
                    refine gd_lvp [0, 1, 2, 3, 4, 5, 6] (lv' := [(0, .ref 27), (1, .int (nI d)), (2, .int (nI goal)), (3, .int 0), (4, .int (nI en)), (5, .int (nI n)), (6, .int ((nI c0) + 1))]) rfl ?_
                    exact gd_cg (ih2 (c0 + 1) _ (by omega) (gs_lj_step hj (by omega) (by rw [hL, ← hm5, hb, hx]; rfl))) (by rw [nI_1]) rfl rfl
                  | false =>
                    refine gd_r E K 1 (pc' := if (gs_b (false)) = 0 then 181 else 177) (lv' := [(0, .ref 27), (1, .int (nI d)), (2, .int (nI goal)), (3, .int 0), (4, .int (nI en)), (5, .int (nI n)), (6, .int (nI c0)), (7, .int (gs_b (true))), (8, .int (nI mm))]) (st' := [.int ((64 * (nI n)) + (nI c0)), .ref 43]) (w' := w3) rfl ?_
                    refine gd_it (by decide) ?_
                    refine gd_r E K 1 (pc' := 182) (lv' := [(0, .ref 27), (1, .int (nI d)), (2, .int (nI goal)), (3, .int 0), (4, .int (nI en)), (5, .int (nI n)), (6, .int (nI c0)), (7, .int (gs_b (true))), (8, .int (nI mm))]) (st' := [.int 0, .int ((64 * (nI n)) + (nI c0)), .ref 43]) (w' := w3) rfl ?_
                    refine gd_zast E (K.1 182 (.bastore, 0) rfl).1 (j := 64 * n + c0) (by decide) (rfl) (by rw [show (64 : Int32) = nI 64 from rfl, pk_mul, nI_add]) (by omega) (by decide) (by decide) ?_
                    refine gd_r E K 2 (pc' := 75) (lv' := [(0, .ref 27), (1, .int (nI d)), (2, .int (nI goal)), (3, .int 0), (4, .int (nI en)), (5, .int (nI n)), (6, .int ((nI c0) + 1)), (7, .int (gs_b (true))), (8, .int (nI mm))]) (st' := []) (w' := gd_rI w3 43 (upd (w3.1 43) (64 * n + c0) 0)) rfl ?_
                    refine gd_lvp [0, 1, 2, 3, 4, 5, 6] (lv' := [(0, .ref 27), (1, .int (nI d)), (2, .int (nI goal)), (3, .int 0), (4, .int (nI en)), (5, .int (nI n)), (6, .int ((nI c0) + 1))]) rfl ?_
                    exact gd_cg (ih2 (c0 + 1) _ (by omega) (gs_lj_step hj (by omega) (by rw [hL, ← hm5, hb, hx]; rfl))) (by rw [nI_1]) rfl rfl
                | false =>
                  refine gd_r E K 1 (pc' := if (gs_b (false)) = 0 then 181 else 161) (lv' := [(0, .ref 27), (1, .int (nI d)), (2, .int (nI goal)), (3, .int 0), (4, .int (nI en)), (5, .int (nI n)), (6, .int (nI c0)), (7, .int (gs_b (false))), (8, .int (nI mm))]) (st' := [.int ((64 * (nI n)) + (nI c0)), .ref 43]) (w' := w3) rfl ?_
                  refine gd_it (by decide) ?_
                  refine gd_r E K 1 (pc' := 182) (lv' := [(0, .ref 27), (1, .int (nI d)), (2, .int (nI goal)), (3, .int 0), (4, .int (nI en)), (5, .int (nI n)), (6, .int (nI c0)), (7, .int (gs_b (false))), (8, .int (nI mm))]) (st' := [.int 0, .int ((64 * (nI n)) + (nI c0)), .ref 43]) (w' := w3) rfl ?_
                  refine gd_zast E (K.1 182 (.bastore, 0) rfl).1 (j := 64 * n + c0) (by decide) (rfl) (by rw [show (64 : Int32) = nI 64 from rfl, pk_mul, nI_add]) (by omega) (by decide) (by decide) ?_
                  refine gd_r E K 2 (pc' := 75) (lv' := [(0, .ref 27), (1, .int (nI d)), (2, .int (nI goal)), (3, .int 0), (4, .int (nI en)), (5, .int (nI n)), (6, .int ((nI c0) + 1)), (7, .int (gs_b (false))), (8, .int (nI mm))]) (st' := []) (w' := gd_rI w3 43 (upd (w3.1 43) (64 * n + c0) 0)) rfl ?_
                  refine gd_lvp [0, 1, 2, 3, 4, 5, 6] (lv' := [(0, .ref 27), (1, .int (nI d)), (2, .int (nI goal)), (3, .int 0), (4, .int (nI en)), (5, .int (nI n)), (6, .int ((nI c0) + 1))]) rfl ?_
                  exact gd_cg (ih2 (c0 + 1) _ (by omega) (gs_lj_step hj (by omega) (by rw [hL, ← hm5, hb, Bool.false_and]; rfl))) (by rw [nI_1]) rfl rfl
              | succ i2 ih3 =>
                intro mm hmm
                refine gd_r E K 2 (pc' := 91) (lv' := [(0, .ref 27), (1, .int (nI d)), (2, .int (nI goal)), (3, .int 0), (4, .int (nI en)), (5, .int (nI n)), (6, .int (nI c0)), (7, .int (gs_b (gs_any (fun m => gs_atO (gs_led (gs_rch S T cnt fr) goal en (en - (n + 1))) (gm_mv c0 m)) mm))), (8, .int (nI mm))]) (st' := [.int 5, .int (nI mm)]) (w' := w3) rfl ?_
                refine gd_r E K 1 (pc' := if 5 ≤ (nI mm) then 144 else 94) (lv' := [(0, .ref 27), (1, .int (nI d)), (2, .int (nI goal)), (3, .int 0), (4, .int (nI en)), (5, .int (nI n)), (6, .int (nI c0)), (7, .int (gs_b (gs_any (fun m => gs_atO (gs_led (gs_rch S T cnt fr) goal en (en - (n + 1))) (gm_mv c0 m)) mm))), (8, .int (nI mm))]) (st' := []) (w' := w3) rfl ?_
                refine gd_if (nI_ge (show mm < 5 by omega) (by decide)) ?_
                refine gd_r E K 2 (pc' := 98) (lv' := [(0, .ref 27), (1, .int (nI d)), (2, .int (nI goal)), (3, .int 0), (4, .int (nI en)), (5, .int (nI n)), (6, .int (nI c0)), (7, .int (gs_b (gs_any (fun m => gs_atO (gs_led (gs_rch S T cnt fr) goal en (en - (n + 1))) (gm_mv c0 m)) mm))), (8, .int (nI mm))]) (st' := [.int (nI mm), .int (nI c0)]) (w' := w3) rfl ?_
                refine gd_cS E hA (av := [.int (nI c0), .int (nI mm)]) (rest := []) (c2_moved hinj c0 mm (by omega) (by omega) w3) (K.1 98 (.invokestatic 82, 0) rfl).1 ml_M_82 cv_M_moved ⟨Nat.le_of_ble_eq_true rfl, Nat.le_of_ble_eq_true rfl⟩ ⟨Nat.zero_le _, Nat.zero_le _⟩ rfl (Nat.le_of_ble_eq_true rfl) ?_
                refine gd_r E K 2 (pc' := 105) (lv' := [(0, .ref 27), (1, .int (nI d)), (2, .int (nI goal)), (3, .int 0), (4, .int (nI en)), (5, .int (nI n)), (6, .int (nI c0)), (7, .int (gs_b (gs_any (fun m => gs_atO (gs_led (gs_rch S T cnt fr) goal en (en - (n + 1))) (gm_mv c0 m)) mm))), (8, .int (nI mm)), (9, .int (gm_nO (gm_mv c0 mm)))]) (st' := [.int (gs_b (gs_any (fun m => gs_atO (gs_led (gs_rch S T cnt fr) goal en (en - (n + 1))) (gm_mv c0 m)) mm))]) (w' := w3) rfl ?_
                cases hb : gs_any (fun m => gs_atO (gs_led (gs_rch S T cnt fr) goal en (en - (n + 1))) (gm_mv c0 m)) mm with
                | true =>
                  refine gd_r E K 1 (pc' := if (gs_b (true)) = 0 then 108 else 131) (lv' := [(0, .ref 27), (1, .int (nI d)), (2, .int (nI goal)), (3, .int 0), (4, .int (nI en)), (5, .int (nI n)), (6, .int (nI c0)), (7, .int (gs_b (true))), (8, .int (nI mm)), (9, .int (gm_nO (gm_mv c0 mm)))]) (st' := []) (w' := w3) rfl ?_
                  refine gd_if (by decide) ?_
                  refine gd_r E K 5 (pc' := 88) (lv' := [(0, .ref 27), (1, .int (nI d)), (2, .int (nI goal)), (3, .int 0), (4, .int (nI en)), (5, .int (nI n)), (6, .int (nI c0)), (7, .int 1), (8, .int ((nI mm) + 1)), (9, .int (gm_nO (gm_mv c0 mm)))]) (st' := []) (w' := w3) rfl ?_
                  refine gd_lvp [0, 1, 2, 3, 4, 5, 6, 7, 8] (lv' := [(0, .ref 27), (1, .int (nI d)), (2, .int (nI goal)), (3, .int 0), (4, .int (nI en)), (5, .int (nI n)), (6, .int (nI c0)), (7, .int 1), (8, .int ((nI mm) + 1))]) rfl ?_
                  exact gd_cg (ih3 (mm + 1) (by omega)) (by rw [gs_any_s, hb, Bool.true_or, nI_1]; rfl) rfl rfl
                | false =>
                  refine gd_r E K 1 (pc' := if (gs_b (false)) = 0 then 108 else 131) (lv' := [(0, .ref 27), (1, .int (nI d)), (2, .int (nI goal)), (3, .int 0), (4, .int (nI en)), (5, .int (nI n)), (6, .int (nI c0)), (7, .int (gs_b (false))), (8, .int (nI mm)), (9, .int (gm_nO (gm_mv c0 mm)))]) (st' := []) (w' := w3) rfl ?_
                  refine gd_it (by decide) ?_
                  refine gd_r E K 1 (pc' := 110) (lv' := [(0, .ref 27), (1, .int (nI d)), (2, .int (nI goal)), (3, .int 0), (4, .int (nI en)), (5, .int (nI n)), (6, .int (nI c0)), (7, .int (gs_b (false))), (8, .int (nI mm)), (9, .int (gm_nO (gm_mv c0 mm)))]) (st' := [.int (gm_nO (gm_mv c0 mm))]) (w' := w3) rfl ?_
                  cases ht : gm_mv c0 mm with
                  | none =>
                    refine gd_r E K 1 (pc' := if (gm_nO (none)) < 0 then 135 else 113) (lv' := [(0, .ref 27), (1, .int (nI d)), (2, .int (nI goal)), (3, .int 0), (4, .int (nI en)), (5, .int (nI n)), (6, .int (nI c0)), (7, .int (gs_b (false))), (8, .int (nI mm)), (9, .int (gm_nO (none)))]) (st' := []) (w' := w3) rfl ?_
                    refine gd_it (by decide) ?_
                    refine gd_r E K 4 (pc' := 88) (lv' := [(0, .ref 27), (1, .int (nI d)), (2, .int (nI goal)), (3, .int 0), (4, .int (nI en)), (5, .int (nI n)), (6, .int (nI c0)), (7, .int 0), (8, .int ((nI mm) + 1)), (9, .int (gm_nO (none)))]) (st' := []) (w' := w3) rfl ?_
                    refine gd_lvp [0, 1, 2, 3, 4, 5, 6, 7, 8] (lv' := [(0, .ref 27), (1, .int (nI d)), (2, .int (nI goal)), (3, .int 0), (4, .int (nI en)), (5, .int (nI n)), (6, .int (nI c0)), (7, .int 0), (8, .int ((nI mm) + 1))]) rfl ?_
                    exact gd_cg (ih3 (mm + 1) (by omega)) (by rw [gs_any_s, hb, ht, Bool.false_or, gs_atO, nI_1]; rfl) rfl rfl
                  | some bb =>
                    have hb64 := gm_mv_lt (by omega) ht
                    refine gd_r E K 1 (pc' := if (gm_nO (some bb)) < 0 then 135 else 113) (lv' := [(0, .ref 27), (1, .int (nI d)), (2, .int (nI goal)), (3, .int 0), (4, .int (nI en)), (5, .int (nI n)), (6, .int (nI c0)), (7, .int (gs_b (false))), (8, .int (nI mm)), (9, .int (gm_nO (some bb)))]) (st' := []) (w' := w3) rfl ?_
                    refine gd_if (gm_nO_some (by omega)) ?_
                    refine gd_r E K 9 (pc' := 127) (lv' := [(0, .ref 27), (1, .int (nI d)), (2, .int (nI goal)), (3, .int 0), (4, .int (nI en)), (5, .int (nI n)), (6, .int (nI c0)), (7, .int (gs_b (false))), (8, .int (nI mm)), (9, .int (gm_nO (some bb)))]) (st' := [.int ((64 * ((nI n) + 1)) + (gm_nO (some bb))), .ref 43]) (w' := w3) rfl ?_
                    refine gd_zaldv E (K.1 127 (.baload, 0) rfl).1 (j := 64 * (n + 1) + bb) (by decide) (rfl) (by rw [show (64 : Int32) = nI 64 from rfl, nI_1, pk_mul, gm_nO, nI_add]) (by omega) (by decide) (v := gs_b (gs_led (gs_rch S T cnt fr) goal en (en - (n + 1)) bb)) (hj.1.2 (n + 1) (by omega) (by omega) bb hb64) ?_
                    cases hx : gs_led (gs_rch S T cnt fr) goal en (en - (n + 1)) bb with
                    | true =>
                      refine gd_r E K 1 (pc' := if (gs_b (true)) = 0 then 135 else 131) (lv' := [(0, .ref 27), (1, .int (nI d)), (2, .int (nI goal)), (3, .int 0), (4, .int (nI en)), (5, .int (nI n)), (6, .int (nI c0)), (7, .int (gs_b (false))), (8, .int (nI mm)), (9, .int (gm_nO (some bb)))]) (st' := []) (w' := w3) rfl ?_
                      refine gd_if (by decide) ?_
                      refine gd_r E K 5 (pc' := 88) (lv' := [(0, .ref 27), (1, .int (nI d)), (2, .int (nI goal)), (3, .int 0), (4, .int (nI en)), (5, .int (nI n)), (6, .int (nI c0)), (7, .int 1), (8, .int ((nI mm) + 1)), (9, .int (gm_nO (some bb)))]) (st' := []) (w' := w3) rfl ?_
                      refine gd_lvp [0, 1, 2, 3, 4, 5, 6, 7, 8] (lv' := [(0, .ref 27), (1, .int (nI d)), (2, .int (nI goal)), (3, .int 0), (4, .int (nI en)), (5, .int (nI n)), (6, .int (nI c0)), (7, .int 1), (8, .int ((nI mm) + 1))]) rfl ?_
                      exact gd_cg (ih3 (mm + 1) (by omega)) (by rw [gs_any_s, hb, ht, Bool.false_or, gs_atO, hx, nI_1]; rfl) rfl rfl
                    | false =>
                      refine gd_r E K 1 (pc' := if (gs_b (false)) = 0 then 135 else 131) (lv' := [(0, .ref 27), (1, .int (nI d)), (2, .int (nI goal)), (3, .int 0), (4, .int (nI en)), (5, .int (nI n)), (6, .int (nI c0)), (7, .int (gs_b (false))), (8, .int (nI mm)), (9, .int (gm_nO (some bb)))]) (st' := []) (w' := w3) rfl ?_
                      refine gd_it (by decide) ?_
                      refine gd_r E K 4 (pc' := 88) (lv' := [(0, .ref 27), (1, .int (nI d)), (2, .int (nI goal)), (3, .int 0), (4, .int (nI en)), (5, .int (nI n)), (6, .int (nI c0)), (7, .int 0), (8, .int ((nI mm) + 1)), (9, .int (gm_nO (some bb)))]) (st' := []) (w' := w3) rfl ?_
                      refine gd_lvp [0, 1, 2, 3, 4, 5, 6, 7, 8] (lv' := [(0, .ref 27), (1, .int (nI d)), (2, .int (nI goal)), (3, .int 0), (4, .int (nI en)), (5, .int (nI n)), (6, .int (nI c0)), (7, .int 0), (8, .int ((nI mm) + 1))]) rfl ?_
                      exact gd_cg (ih3 (mm + 1) (by omega)) (by rw [gs_any_s, hb, ht, Bool.false_or, gs_atO, hx, nI_1]; rfl) rfl rfl
            exact gd_cg (moves 5 0 (by omega)) rfl rfl rfl
        exact gd_cg (cells 64 0 w2 (by omega) ⟨hli, fun c hc => by omega⟩) rfl rfl rfl
    have goalrow : ∀ i c0 w2, c0 + i = 64 → gs_lj (gs_led (gs_rch S T cnt fr) goal en) en w1 w2 en c0 → gd_G p l e (gd_rm 5 120) s m args below meth c D tC ad (gd_A ad 45 s.heap.size) 45 10 0 0 (MQ below (gd_Qp D tC ad 45 s.heap.size (fun r w' => r = some (.int (gm_nO (gs_way S T cnt fr goal false))) ∧ (gs_way S T cnt fr goal false = none → gf_r 42 w w') ∧ ∀ en, gs_way S T cnt fr goal false = some en → gs_laid w w' d en (gs_rtm (gs_led (gs_rch S T cnt fr) goal en) en fr))) args s 0 0 (gd_A ad 45 s.heap.size)) 24 [(0, .ref 27), (1, .int (nI d)), (2, .int (nI goal)), (3, .int 0), (4, .int (nI en)), (5, .int (nI c0))] [] w2 := by
      intro i
      induction i with
      | zero =>
        intro c0 w2 hc hj
        refine gd_r E K 2 (pc' := 28) (lv' := [(0, .ref 27), (1, .int (nI d)), (2, .int (nI goal)), (3, .int 0), (4, .int (nI en)), (5, .int (nI c0))]) (st' := [.int 64, .int (nI c0)]) (w' := w2) rfl ?_
        refine gd_r E K 1 (pc' := if 64 ≤ (nI c0) then 61 else 31) (lv' := [(0, .ref 27), (1, .int (nI d)), (2, .int (nI goal)), (3, .int 0), (4, .int (nI en)), (5, .int (nI c0))]) (st' := []) (w' := w2) rfl ?_
        refine gd_it (nI_le (show 64 ≤ c0 by omega) (by omega)) ?_
        refine gd_r E K 4 (pc' := 67) (lv' := [(0, .ref 27), (1, .int (nI d)), (2, .int (nI goal)), (3, .int 0), (4, .int (nI en)), (5, .int ((nI en) - 1))]) (st' := []) (w' := w2) rfl ?_
        exact gd_cg (back en w2 (by omega) (gs_lj_end (by rw [show (64 : Nat) = c0 by omega]; exact hj))) (by rw [gs_pr_sub]) rfl rfl
      | succ i ih =>
        intro c0 w2 hc hj
        refine gd_r E K 2 (pc' := 28) (lv' := [(0, .ref 27), (1, .int (nI d)), (2, .int (nI goal)), (3, .int 0), (4, .int (nI en)), (5, .int (nI c0))]) (st' := [.int 64, .int (nI c0)]) (w' := w2) rfl ?_
        refine gd_r E K 1 (pc' := if 64 ≤ (nI c0) then 61 else 31) (lv' := [(0, .ref 27), (1, .int (nI d)), (2, .int (nI goal)), (3, .int 0), (4, .int (nI en)), (5, .int (nI c0))]) (st' := []) (w' := w2) rfl ?_
        refine gd_if (nI_ge (show c0 < 64 by omega) (by decide)) ?_
        refine gd_r E K 9 (pc' := 46) (lv' := [(0, .ref 27), (1, .int (nI d)), (2, .int (nI goal)), (3, .int 0), (4, .int (nI en)), (5, .int (nI c0))]) (st' := [.int (nI goal), .int (nI c0), .int ((64 * (nI en)) + (nI c0)), .ref 43]) (w' := w2) rfl ?_
        by_cases hcg : c0 = goal
        · refine gd_r E K 1 (pc' := if (nI c0) = (nI goal) then 49 else 53) (lv' := [(0, .ref 27), (1, .int (nI d)), (2, .int (nI goal)), (3, .int 0), (4, .int (nI en)), (5, .int (nI c0))]) (st' := [.int ((64 * (nI en)) + (nI c0)), .ref 43]) (w' := w2) rfl ?_
          refine gd_it (by rw [hcg]) ?_
          refine gd_r E K 2 (pc' := 54) (lv' := [(0, .ref 27), (1, .int (nI d)), (2, .int (nI goal)), (3, .int 0), (4, .int (nI en)), (5, .int (nI c0))]) (st' := [.int 1, .int ((64 * (nI en)) + (nI c0)), .ref 43]) (w' := w2) rfl ?_
          refine gd_zast E (K.1 54 (.bastore, 0) rfl).1 (j := 64 * en + c0) (by decide) (rfl) (by rw [show (64 : Int32) = nI 64 from rfl, pk_mul, nI_add]) (by omega) (by decide) (by decide) ?_
          refine gd_r E K 2 (pc' := 24) (lv' := [(0, .ref 27), (1, .int (nI d)), (2, .int (nI goal)), (3, .int 0), (4, .int (nI en)), (5, .int ((nI c0) + 1))]) (st' := []) (w' := gd_rI w2 43 (upd (w2.1 43) (64 * en + c0) 1)) rfl ?_
          exact gd_cg (ih (c0 + 1) _ (by omega) (gs_lj_step hj (by omega) (by rw [Nat.sub_self, gs_led, decide_eq_true hcg]; rfl))) (by rw [nI_1]) rfl rfl
        · refine gd_r E K 1 (pc' := if (nI c0) = (nI goal) then 49 else 53) (lv' := [(0, .ref 27), (1, .int (nI d)), (2, .int (nI goal)), (3, .int 0), (4, .int (nI en)), (5, .int (nI c0))]) (st' := [.int ((64 * (nI en)) + (nI c0)), .ref 43]) (w' := w2) rfl ?_
          refine gd_if (by rw [nI_eq (by omega) (by omega)]; exact hcg) ?_
          refine gd_r E K 1 (pc' := 54) (lv' := [(0, .ref 27), (1, .int (nI d)), (2, .int (nI goal)), (3, .int 0), (4, .int (nI en)), (5, .int (nI c0))]) (st' := [.int 0, .int ((64 * (nI en)) + (nI c0)), .ref 43]) (w' := w2) rfl ?_
          refine gd_zast E (K.1 54 (.bastore, 0) rfl).1 (j := 64 * en + c0) (by decide) (rfl) (by rw [show (64 : Int32) = nI 64 from rfl, pk_mul, nI_add]) (by omega) (by decide) (by decide) ?_
          refine gd_r E K 2 (pc' := 24) (lv' := [(0, .ref 27), (1, .int (nI d)), (2, .int (nI goal)), (3, .int 0), (4, .int (nI en)), (5, .int ((nI c0) + 1))]) (st' := []) (w' := gd_rI w2 43 (upd (w2.1 43) (64 * en + c0) 0)) rfl ?_
          exact gd_cg (ih (c0 + 1) _ (by omega) (gs_lj_step hj (by omega) (by rw [Nat.sub_self, gs_led, decide_eq_false hcg]; rfl))) (by rw [nI_1]) rfl rfl
    refine gd_r E K 2 (pc' := 24) (lv' := [(0, .ref 27), (1, .int (nI d)), (2, .int (nI goal)), (3, .int 0), (4, .int (nI en)), (5, .int 0)]) (st' := []) (w' := w1) rfl ?_
    exact gd_cg (goalrow 64 0 w1 (by omega) ⟨⟨gf_r.refl _ _, fun i hi hi2 => by omega⟩, fun c hc => by omega⟩) rfl rfl rfl
end
section
/-- the class's cells and the law's are as they were -/
def gf_m (w w' : gd_W) : Prop := (∀ a, (a < 27 ∨ a = 44) → w'.1 a = w.1 a ∧ w'.2.1 a = w.2.1 a) ∧ w'.2.2 = w.2.2
theorem gf_m.refl (w : gd_W) : gf_m w w := ⟨fun _ _ => ⟨rfl, rfl⟩, rfl⟩
theorem gf_m.trans {a b c : gd_W} (h : gf_m a b) (k : gf_m b c) : gf_m a c := ⟨fun x hx => ⟨(k.1 x hx).1.trans (h.1 x hx).1, (k.1 x hx).2.trans (h.1 x hx).2⟩, k.2.trans h.2⟩
theorem gf_m.I (w : gd_W) {k : Nat} (hk : 27 ≤ k ∧ k ≠ 44) (f : Nat → Int32) : gf_m w (gd_rI w k f) := ⟨fun a ha => ⟨gd_rI_n (by omega), rfl⟩, rfl⟩
theorem gf_m.L (w : gd_W) {k : Nat} (hk : 27 ≤ k ∧ k ≠ 44) (f : Nat → Int64) : gf_m w (gd_rL w k f) := ⟨fun a ha => ⟨rfl, gd_rL_n (by omega)⟩, rfl⟩
theorem gf_fs.m {w w' : gd_W} (h : gf_fs w w') : gf_m w w' := ⟨fun a ha => ⟨h.1 a (by omega) (by omega), by rw [h.2.2]⟩, by rw [h.2.2]⟩
theorem gf_r.m {k : Nat} {w w' : gd_W} (h : gf_r k w w') (hk : 27 ≤ k ∧ k ≠ 44) : gf_m w w' := ⟨fun a ha => ⟨h.1 a (by omega), by rw [h.2]⟩, by rw [h.2]⟩
theorem gr_M.code {w : gd_W} {S : gs_T} {G : Nat → Nat} (k : gr_M w S G) (x : Int32) : gr_M (gd_rI w 27 (upd (w.1 27) 0 x)) S G := by
  unfold gr_M at k ⊢
  simp only [gd_rI_s, gd_rI_L, gd_rI_n (w := w) (k := 27) (f := upd (w.1 27) 0 x) (show (28 : Nat) ≠ 27 by decide), gd_rI_n (w := w) (k := 27) (f := upd (w.1 27) 0 x) (show (29 : Nat) ≠ 27 by decide), gd_rI_n (w := w) (k := 27) (f := upd (w.1 27) 0 x) (show (30 : Nat) ≠ 27 by decide), gd_rI_n (w := w) (k := 27) (f := upd (w.1 27) 0 x) (show (32 : Nat) ≠ 27 by decide), gd_rI_n (w := w) (k := 27) (f := upd (w.1 27) 0 x) (show (33 : Nat) ≠ 27 by decide), gd_rI_n (w := w) (k := 27) (f := upd (w.1 27) 0 x) (show (34 : Nat) ≠ 27 by decide), gd_rI_n (w := w) (k := 27) (f := upd (w.1 27) 0 x) (show (35 : Nat) ≠ 27 by decide), gd_rI_n (w := w) (k := 27) (f := upd (w.1 27) 0 x) (show (36 : Nat) ≠ 27 by decide), gd_rI_n (w := w) (k := 27) (f := upd (w.1 27) 0 x) (show (37 : Nat) ≠ 27 by decide), gd_rI_n (w := w) (k := 27) (f := upd (w.1 27) 0 x) (show (38 : Nat) ≠ 27 by decide), gd_rI_n (w := w) (k := 27) (f := upd (w.1 27) 0 x) (show (39 : Nat) ≠ 27 by decide), gd_rI_n (w := w) (k := 27) (f := upd (w.1 27) 0 x) (show (40 : Nat) ≠ 27 by decide),
    gd_u_n (f := w.1 27) (k := 0) (x := x) (show (3 : Nat) ≠ 0 by decide), gd_u_n (f := w.1 27) (k := 0) (x := x) (show (1 : Nat) ≠ 0 by decide), gd_u_n (f := w.1 27) (k := 0) (x := x) (show (12 : Nat) ≠ 0 by decide), gd_u_n (f := w.1 27) (k := 0) (x := x) (show (13 : Nat) ≠ 0 by decide), gd_u_n (f := w.1 27) (k := 0) (x := x) (show (14 : Nat) ≠ 0 by decide)]
  exact k
/-- what a call of the reference gives: the answer, the code, the state -/
def gs_mp (S' : gs_T) (code : Nat) (r0 : Value) (w : gd_W) (r : Option Value) (w' : gd_W) : Prop := r = some r0 ∧ w'.1 27 0 = nI code ∧ (∃ G', gr_M w' S' G') ∧ gf_m w w'
theorem gs_mp_code {w : gd_W} {S : gs_T} {G : Nat → Nat} (k : gr_M w S G) (n : Nat) {x : Int32} (hx : x = nI n) {r0 r1 : Value} (hr : r1 = r0) : gs_mp S n r0 w (some r1) (gd_rI w 27 (upd (w.1 27) 0 x)) := ⟨by rw [hr], by rw [gd_rI_s, gd_u_s, hx], ⟨G, k.code x⟩, gf_m.I w (by decide) _⟩
def gs_isd (S : gs_T) (d : Int32) : Bool := decide (0 ≤ d ∧ d < nI (gs_made S) ∧ 0 < gs_u S d.toNatClampNeg)
theorem gs_isd_t {S : gs_T} {d : Int32} (hN : gs_made S ≤ 60) (h : gs_isd S d = true) : ∃ k, k < gs_made S ∧ d = nI k ∧ 0 < gs_u S k := by
  obtain ⟨h1, h2, h3⟩ := of_decide_eq_true h
  obtain ⟨k, hk, rfl⟩ := nI_of (Int32.not_lt.mpr h1)
  rw [nI_clamp hk] at h3
  exact ⟨k, (nI_ltI hk (by omega)).mp h2, rfl, h3⟩
set_option maxRecDepth 100000 in
theorem c2_isD {l : Launch} {D : va_G} {tC : FieldType → ClassId} {ad : Nat → Nat} (hinj : ∀ i j, ad i = ad j → i = j) {S : gs_T} {G : Nat → Nat} (w : gd_W) (hR : gr_M w S G) (d : Int32) : gd_Ct l D tC ad 45 0 0 y_M_isDrop c_M_isDrop 2 (some .boolean) [.ref 27, .int d] w (some (.int (gs_b (gs_isd S d)))) w := c2_isDrop hinj w hR.U d
set_option maxRecDepth 100000 in
theorem c2_thrown {l : Launch} {D : va_G} {tC : FieldType → ClassId} {ad : Nat → Nat} (hinj : ∀ i j, ad i = ad j → i = j) (w : gd_W) : gd_Ct l D tC ad 45 0 0 y_M_thrown c_M_thrown 1 (some .int) [.ref 27] w (some (.int (w.1 27 0))) w := by
  refine gd_Ct_of rfl hinj (Nat.le_of_ble_eq_true rfl) ?_
  intro p e s m args below meth c E hr hlk
  have K := k_M_thrown
  have hA : ∀ q, gd_A ad 45 s.heap.size q → gd_A ad 45 s.heap.size q := fun _ h => h
  refine gd_r E K 2 (pc' := 4) (lv' := [(0, .ref 27)]) (st' := [.int (w.1 27 0)]) (w' := w) rfl ?_
  exact gd_iretq E hr hlk (K.1 4 (.ireturn, 0) rfl).1 (rfl) (rfl)
set_option maxRecDepth 100000 in
theorem c2_Mtime {l : Launch} {D : va_G} {tC : FieldType → ClassId} {ad : Nat → Nat} (hinj : ∀ i j, ad i = ad j → i = j) {S : gs_T} {G : Nat → Nat} (w : gd_W) (hR : gr_M w S G) : gd_Cp l D tC ad 45 0 0 y_M_time c_M_time 1 (some .int) [.ref 27] w (gs_mp S 0 (.int (gs_time S)) w) := by
  refine gd_Cp_of rfl hinj (Nat.le_of_ble_eq_true rfl) ?_
  intro p e s m args below meth c E hr hlk
  have K := k_M_time
  have hA : ∀ q, gd_A ad 45 s.heap.size q → gd_A ad 45 s.heap.size q := fun _ h => h
  refine gd_r E K 5 (pc' := 9) (lv' := [(0, .ref 27)]) (st' := [.int (w.1 27 1)]) (w' := gd_rI w 27 (upd (w.1 27) 0 0)) rfl ?_
  exact gd_iretp E hr hlk (K.1 9 (.ireturn, 0) rfl).1 (gs_mp_code hR 0 rfl (by rw [hR.2.2.2.2.2.2.2.2.2.1]))
set_option maxRecDepth 100000 in
theorem c2_Mdroplets {l : Launch} {D : va_G} {tC : FieldType → ClassId} {ad : Nat → Nat} (hinj : ∀ i j, ad i = ad j → i = j) {S : gs_T} {G : Nat → Nat} (w : gd_W) (hR : gr_M w S G) : gd_Cp l D tC ad 45 1 22 y_M_droplets c_M_droplets 1 (some .int) [.ref 27] w (gs_mp S 0 (.int (nI (gs_cnt (gs_u S) (gs_made S)))) w) := by
  refine gd_Cp_of rfl hinj (Nat.le_of_ble_eq_true rfl) ?_
  intro p e s m args below meth c E hr hlk
  have K := k_M_droplets
  have hA : ∀ q, gd_A ad 45 s.heap.size q → gd_A ad 45 s.heap.size q := fun _ h => h
  refine gd_r E K 4 (pc' := 6) (lv' := [(0, .ref 27)]) (st' := [.ref 27]) (w' := gd_rI w 27 (upd (w.1 27) 0 0)) rfl ?_
  refine gd_cV E hA (av := []) (rest := []) (c2_count hinj _ (hR.code 0).U) (K.1 6 (.invokevirtual 71, 0) rfl).1 ml_M_71 cv_M_count (by decide) (rfl) ⟨Nat.le_of_ble_eq_true rfl, Nat.le_of_ble_eq_true rfl⟩ ⟨Nat.zero_le _, Nat.zero_le _⟩ rfl (Nat.le_of_ble_eq_true rfl) ?_
  exact gd_iretp E hr hlk (K.1 9 (.ireturn, 0) rfl).1 (gs_mp_code hR 0 rfl rfl)
theorem gm_has_1 {x y : Int32} (h : gm_has x y ≠ 0) : ∃ a b, a < 8 ∧ b < 8 ∧ x = nI a ∧ y = nI b := by
  unfold gm_has at h
  split at h
  · exact absurd rfl h
  · rename_i h1
    split at h
    · exact absurd rfl h
    · rename_i h2
      split at h
      · exact absurd rfl h
      · rename_i h3
        split at h
        · exact absurd rfl h
        · rename_i h4
          obtain ⟨a, ha, rfl⟩ := nI_of h1
          obtain ⟨b, hb, rfl⟩ := nI_of h3
          refine ⟨a, b, ?_, ?_, rfl, rfl⟩
          · rw [show (8 : Int32) = nI 8 from rfl, nI_leI (by decide) ha] at h2; omega
          · rw [show (8 : Int32) = nI 8 from rfl, nI_leI (by decide) hb] at h4; omega
theorem gm_at_eq (a b : Nat) : 8 * nI b + nI a = nI (8 * b + a) := by rw [show (8 : Int32) = nI 8 from rfl, pk_mul, nI_add]
def gs_kindv (S : gs_T) (x y : Int32) : Int32 := if gm_has x y = 0 then -1 else nI (gs_k S (8 * y + x).toNatClampNeg)
set_option maxRecDepth 100000 in
theorem c2_Mkind {l : Launch} {D : va_G} {tC : FieldType → ClassId} {ad : Nat → Nat} (hinj : ∀ i j, ad i = ad j → i = j) {S : gs_T} {G : Nat → Nat} (w : gd_W) (hR : gr_M w S G) (x y : Int32) : gd_Cp l D tC ad 45 1 21 y_M_kind c_M_kind 3 (some .int) [.ref 27, .int x, .int y] w (gs_mp S 0 (.int (gs_kindv S x y)) w) := by
  refine gd_Cp_of rfl hinj (Nat.le_of_ble_eq_true rfl) ?_
  intro p e s m args below meth c E hr hlk
  have K := k_M_kind
  have hA : ∀ q, gd_A ad 45 s.heap.size q → gd_A ad 45 s.heap.size q := fun _ h => h
  refine gd_r E K 5 (pc' := 7) (lv' := [(0, .ref 27), (1, .int x), (2, .int y)]) (st' := [.int y, .int x]) (w' := gd_rI w 27 (upd (w.1 27) 0 0)) rfl ?_
  refine gd_cS E hA (av := [.int x, .int y]) (rest := []) (c2_isCell hinj x y _) (K.1 7 (.invokestatic 64, 0) rfl).1 ml_M_64 cv_M_isCell ⟨Nat.le_of_ble_eq_true rfl, Nat.le_of_ble_eq_true rfl⟩ ⟨Nat.zero_le _, Nat.zero_le _⟩ rfl (Nat.le_of_ble_eq_true rfl) ?_
  refine gd_r E K 1 (pc' := if (gm_has x y) = 0 then 27 else 13) (lv' := [(0, .ref 27), (1, .int x), (2, .int y)]) (st' := []) (w' := gd_rI w 27 (upd (w.1 27) 0 0)) rfl ?_
  refine gd_ite (fun h1 => ?_) (fun h1 => ?_)
  · refine gd_r E K 1 (pc' := 28) (lv' := [(0, .ref 27), (1, .int x), (2, .int y)]) (st' := [.int (-1)]) (w' := gd_rI w 27 (upd (w.1 27) 0 0)) rfl ?_
    exact gd_iretp E hr hlk (K.1 28 (.ireturn, 0) rfl).1 (gs_mp_code hR 0 rfl (by rw [gs_kindv, if_pos h1]))
  · obtain ⟨a, b, ha, hb, rfl, rfl⟩ := gm_has_1 h1
    refine gd_r E K 7 (pc' := 23) (lv' := [(0, .ref 27), (1, .int (nI a)), (2, .int (nI b))]) (st' := [.int ((8 * (nI b)) + (nI a)), .ref 28]) (w' := gd_rI w 27 (upd (w.1 27) 0 0)) rfl ?_
    refine gd_ialdv E (K.1 23 (.iaload, 0) rfl).1 (j := 8 * b + a) (by decide) (rfl) (gm_at_eq a b) (by omega) (by decide) (v := nI (gs_k S (8 * b + a))) (((hR.code 0).2.2.2.2.2.2.1 (8 * b + a) (by omega)).1) ?_
    refine gd_r E K 1 (pc' := 28) (lv' := [(0, .ref 27), (1, .int (nI a)), (2, .int (nI b))]) (st' := [.int (nI (gs_k S (8 * b + a)))]) (w' := gd_rI w 27 (upd (w.1 27) 0 0)) rfl ?_
    exact gd_iretp E hr hlk (K.1 28 (.ireturn, 0) rfl).1 (gs_mp_code hR 0 rfl (by rw [gs_kindv, if_neg h1, gm_at_eq, nI_clamp (by omega)]))
def gs_aheadv (S : gs_T) (d n : Int32) : Int32 := if gs_isd S d = true ∧ ¬ n < 0 then gm_nO (gs_pos S d.toNatClampNeg n.toNatClampNeg) else -1
set_option maxRecDepth 100000 in
theorem c2_Mahead {l : Launch} {D : va_G} {tC : FieldType → ClassId} {ad : Nat → Nat} (hinj : ∀ i j, ad i = ad j → i = j) {S : gs_T} {G : Nat → Nat} (w : gd_W) (hR : gr_M w S G) (hv : ∀ k, gs_alive S k → gv_way S k) (d n : Int32) : gd_Cp l D tC ad 45 3 68 y_M_ahead c_M_ahead 3 (some .int) [.ref 27, .int d, .int n] w (gs_mp S 0 (.int (gs_aheadv S d n)) w) := by
  refine gd_Cp_of rfl hinj (Nat.le_of_ble_eq_true rfl) ?_
  intro p e s m args below meth c E hr hlk
  have K := k_M_ahead
  have hA : ∀ q, gd_A ad 45 s.heap.size q → gd_A ad 45 s.heap.size q := fun _ h => h
  have hN := hR.1.2
  refine gd_r E K 5 (pc' := 7) (lv' := [(0, .ref 27), (1, .int d), (2, .int n)]) (st' := [.int d, .ref 27]) (w' := gd_rI w 27 (upd (w.1 27) 0 0)) rfl ?_
  refine gd_cV E hA (av := [.int d]) (rest := []) (c2_isD hinj _ (hR.code 0) d) (K.1 7 (.invokevirtual 125, 0) rfl).1 ml_M_125 cv_M_isDrop (by decide) (rfl) ⟨Nat.le_of_ble_eq_true rfl, Nat.le_of_ble_eq_true rfl⟩ ⟨Nat.zero_le _, Nat.zero_le _⟩ rfl (Nat.le_of_ble_eq_true rfl) ?_
  cases hb : gs_isd S d with
  | true =>
    refine gd_r E K 1 (pc' := if (gs_b (true)) = 0 then 26 else 13) (lv' := [(0, .ref 27), (1, .int d), (2, .int n)]) (st' := []) (w' := gd_rI w 27 (upd (w.1 27) 0 0)) rfl ?_
    refine gd_if (by decide) ?_
    refine gd_r E K 1 (pc' := 14) (lv' := [(0, .ref 27), (1, .int d), (2, .int n)]) (st' := [.int n]) (w' := gd_rI w 27 (upd (w.1 27) 0 0)) rfl ?_
    refine gd_r E K 1 (pc' := if n < 0 then 26 else 17) (lv' := [(0, .ref 27), (1, .int d), (2, .int n)]) (st' := []) (w' := gd_rI w 27 (upd (w.1 27) 0 0)) rfl ?_
    refine gd_ite (fun h1 => ?_) (fun h1 => ?_)
    · refine gd_r E K 1 (pc' := 27) (lv' := [(0, .ref 27), (1, .int d), (2, .int n)]) (st' := [.int (-1)]) (w' := gd_rI w 27 (upd (w.1 27) 0 0)) rfl ?_
      exact gd_iretp E hr hlk (K.1 27 (.ireturn, 0) rfl).1 (gs_mp_code hR 0 rfl (by rw [gs_aheadv, if_neg (fun z => z.2 h1)]))
    · obtain ⟨k, hk, rfl, hu⟩ := gs_isd_t hN hb
      obtain ⟨j, hj, rfl⟩ := nI_of h1
      refine gd_r E K 3 (pc' := 20) (lv' := [(0, .ref 27), (1, .int (nI k)), (2, .int (nI j))]) (st' := [.int (nI j), .int (nI k), .ref 27]) (w' := gd_rI w 27 (upd (w.1 27) 0 0)) rfl ?_
      refine gd_cV E hA (av := [.int (nI k), .int (nI j)]) (rest := []) (c2_placeAfter hinj _ (hR.code 0) k hk (hv k ⟨hk, hu⟩) j hj) (K.1 20 (.invokevirtual 89, 0) rfl).1 ml_M_89 cv_M_placeAfter (by decide) (rfl) ⟨Nat.le_of_ble_eq_true rfl, Nat.le_of_ble_eq_true rfl⟩ ⟨Nat.zero_le _, Nat.zero_le _⟩ rfl (Nat.le_of_ble_eq_true rfl) ?_
      refine gd_r E K 1 (pc' := 27) (lv' := [(0, .ref 27), (1, .int (nI k)), (2, .int (nI j))]) (st' := [.int (gm_nO (gs_pos S k j))]) (w' := gd_rI w 27 (upd (w.1 27) 0 0)) rfl ?_
      exact gd_iretp E hr hlk (K.1 27 (.ireturn, 0) rfl).1 (gs_mp_code hR 0 rfl (by rw [gs_aheadv, if_pos ⟨hb, h1⟩, nI_clamp (by omega), nI_clamp hj]))
  | false =>
    refine gd_r E K 1 (pc' := if (gs_b (false)) = 0 then 26 else 13) (lv' := [(0, .ref 27), (1, .int d), (2, .int n)]) (st' := []) (w' := gd_rI w 27 (upd (w.1 27) 0 0)) rfl ?_
    refine gd_it (by decide) ?_
    refine gd_r E K 1 (pc' := 27) (lv' := [(0, .ref 27), (1, .int d), (2, .int n)]) (st' := [.int (-1)]) (w' := gd_rI w 27 (upd (w.1 27) 0 0)) rfl ?_
    exact gd_iretp E hr hlk (K.1 27 (.ireturn, 0) rfl).1 (gs_mp_code hR 0 rfl (by rw [gs_aheadv, if_neg (fun z => by rw [hb] at z; cases z.1)]))
def gs_lookc (S : gs_T) (d what : Int32) : Nat := if gs_isd S d = true ∧ ¬ what < 0 ∧ ¬ 4 < what then 0 else 1
def gs_lookv (S : gs_T) (d what : Int32) : Int32 := if gs_isd S d = true ∧ ¬ what < 0 ∧ ¬ 4 < what then
  (if what = 0 then nI (gs_c S d.toNatClampNeg) else if what = 1 then nI (gs_u S d.toNatClampNeg) else if what = 2 then nI (gs_l S d.toNatClampNeg) else if what = 3 then nI (gs_i S d.toNatClampNeg) - 1 else gm_nO (gs_com (gs_u S) (gs_i S) d.toNatClampNeg (gs_made S))) else 0
def gs_sharev (S : gs_T) (d what : Int32) : Int64 := if gs_isd S d = true ∧ ¬ what < 0 ∧ ¬ 4 < what then (if what = 4 then (nI (gs_p S d.toNatClampNeg)).toInt64 else gs_sh S d.toNatClampNeg what.toNatClampNeg) else 0
def gs_readc (S : gs_T) (i what : Int32) : Nat := if ¬ i < 0 ∧ ¬ nI (gs_rd S).length ≤ i ∧ ¬ what < 0 ∧ ¬ 3 < what then 0 else 1
def gs_readv (S : gs_T) (i what : Int32) : Int32 := if ¬ i < 0 ∧ ¬ nI (gs_rd S).length ≤ i ∧ ¬ what < 0 ∧ ¬ 3 < what then
  (let r := (gs_rd S).getD i.toNatClampNeg (0, 0, 0, 0); if what = 0 then nI r.1 else if what = 1 then r.2.1 else if what = 2 then nI r.2.2.1 else nI r.2.2.2) else 0
set_option maxRecDepth 100000 in
theorem c2_Mlook {l : Launch} {D : va_G} {tC : FieldType → ClassId} {ad : Nat → Nat} (hinj : ∀ i j, ad i = ad j → i = j) {S : gs_T} {G : Nat → Nat} (w : gd_W) (hR : gr_M w S G) (d what : Int32) : gd_Cp l D tC ad 45 1 23 y_M_look c_M_look 3 (some .int) [.ref 27, .int d, .int what] w (gs_mp S (gs_lookc S d what) (.int (gs_lookv S d what)) w) := by
  refine gd_Cp_of rfl hinj (Nat.le_of_ble_eq_true rfl) ?_
  intro p e s m args below meth c E hr hlk
  have K := k_M_look
  have hA : ∀ q, gd_A ad 45 s.heap.size q → gd_A ad 45 s.heap.size q := fun _ h => h
  have hN := hR.1.2
  refine gd_r E K 3 (pc' := 3) (lv' := [(0, .ref 27), (1, .int d), (2, .int what)]) (st' := [.int d, .ref 27, .ref 27]) (w' := w) rfl ?_
  refine gd_cV E hA (av := [.int d]) (rest := [.ref 27]) (c2_isD hinj _ hR d) (K.1 3 (.invokevirtual 125, 0) rfl).1 ml_M_125 cv_M_isDrop (by decide) (rfl) ⟨Nat.le_of_ble_eq_true rfl, Nat.le_of_ble_eq_true rfl⟩ ⟨Nat.zero_le _, Nat.zero_le _⟩ rfl (Nat.le_of_ble_eq_true rfl) ?_
  cases hb : gs_isd S d with
  | true =>
    refine gd_r E K 1 (pc' := if (gs_b (true)) = 0 then 22 else 9) (lv' := [(0, .ref 27), (1, .int d), (2, .int what)]) (st' := [.ref 27]) (w' := w) rfl ?_
    refine gd_if (by decide) ?_
    refine gd_r E K 1 (pc' := 10) (lv' := [(0, .ref 27), (1, .int d), (2, .int what)]) (st' := [.int what, .ref 27]) (w' := w) rfl ?_
    refine gd_r E K 1 (pc' := if what < 0 then 22 else 13) (lv' := [(0, .ref 27), (1, .int d), (2, .int what)]) (st' := [.ref 27]) (w' := w) rfl ?_
    refine gd_ite (fun h1 => ?_) (fun h1 => ?_)
    · refine gd_r E K 6 (pc' := 34) (lv' := [(0, .ref 27), (1, .int d), (2, .int what)]) (st' := [.int 0]) (w' := gd_rI w 27 (upd (w.1 27) 0 1)) rfl ?_
      exact gd_iretp E hr hlk (K.1 34 (.ireturn, 0) rfl).1 (gs_mp_code hR _ (by rw [gs_lookc, if_neg (fun z => z.2.1 h1)]; rfl) (by rw [gs_lookv, if_neg (fun z => z.2.1 h1)]))
    · refine gd_r E K 2 (pc' := 15) (lv' := [(0, .ref 27), (1, .int d), (2, .int what)]) (st' := [.int 4, .int what, .ref 27]) (w' := w) rfl ?_
      refine gd_r E K 1 (pc' := if 4 < what then 22 else 18) (lv' := [(0, .ref 27), (1, .int d), (2, .int what)]) (st' := [.ref 27]) (w' := w) rfl ?_
      refine gd_ite (fun h2 => ?_) (fun h2 => ?_)
      · refine gd_r E K 6 (pc' := 34) (lv' := [(0, .ref 27), (1, .int d), (2, .int what)]) (st' := [.int 0]) (w' := gd_rI w 27 (upd (w.1 27) 0 1)) rfl ?_
        exact gd_iretp E hr hlk (K.1 34 (.ireturn, 0) rfl).1 (gs_mp_code hR _ (by rw [gs_lookc, if_neg (fun z => z.2.2 h2)]; rfl) (by rw [gs_lookv, if_neg (fun z => z.2.2 h2)]))
      · have hcond : gs_isd S d = true ∧ ¬ what < 0 ∧ ¬ 4 < what := ⟨hb, h1, h2⟩
        obtain ⟨k, hk, rfl, hu⟩ := gs_isd_t hN hb
        refine gd_r E K 7 (pc' := 36) (lv' := [(0, .ref 27), (1, .int (nI k)), (2, .int what)]) (st' := [.int what]) (w' := gd_rI w 27 (upd (w.1 27) 0 0)) rfl ?_
        refine gd_r E K 1 (pc' := if what = 0 then 39 else 48) (lv' := [(0, .ref 27), (1, .int (nI k)), (2, .int what)]) (st' := []) (w' := gd_rI w 27 (upd (w.1 27) 0 0)) rfl ?_
        refine gd_ite (fun h3 => ?_) (fun h3 => ?_)
        · refine gd_r E K 3 (pc' := 44) (lv' := [(0, .ref 27), (1, .int (nI k)), (2, .int what)]) (st' := [.int (nI k), .ref 30]) (w' := gd_rI w 27 (upd (w.1 27) 0 0)) rfl ?_
          refine gd_ialdv E (K.1 44 (.iaload, 0) rfl).1 (j := k) (by decide) (rfl) (rfl) (by omega) (by decide) (v := nI (gs_c S k)) (((hR.code 0).2.2.1 k (by omega)).1) ?_
          refine gd_r E K 1 (pc' := 96) (lv' := [(0, .ref 27), (1, .int (nI k)), (2, .int what)]) (st' := [.int (nI (gs_c S k))]) (w' := gd_rI w 27 (upd (w.1 27) 0 0)) rfl ?_
          exact gd_iretp E hr hlk (K.1 96 (.ireturn, 0) rfl).1 (gs_mp_code hR _ (by rw [gs_lookc, if_pos hcond]; rfl) (by rw [gs_lookv, if_pos hcond, nI_clamp (by omega), if_pos h3]))
        · refine gd_r E K 2 (pc' := 50) (lv' := [(0, .ref 27), (1, .int (nI k)), (2, .int what)]) (st' := [.int 1, .int what]) (w' := gd_rI w 27 (upd (w.1 27) 0 0)) rfl ?_
          refine gd_r E K 1 (pc' := if what = 1 then 53 else 62) (lv' := [(0, .ref 27), (1, .int (nI k)), (2, .int what)]) (st' := []) (w' := gd_rI w 27 (upd (w.1 27) 0 0)) rfl ?_
          refine gd_ite (fun h4 => ?_) (fun h4 => ?_)
          · refine gd_r E K 3 (pc' := 58) (lv' := [(0, .ref 27), (1, .int (nI k)), (2, .int what)]) (st' := [.int (nI k), .ref 29]) (w' := gd_rI w 27 (upd (w.1 27) 0 0)) rfl ?_
            refine gd_ialdv E (K.1 58 (.iaload, 0) rfl).1 (j := k) (by decide) (rfl) (rfl) (by omega) (by decide) (v := nI (gs_u S k)) (((hR.code 0).2.1 k (by omega)).1) ?_
            refine gd_r E K 1 (pc' := 96) (lv' := [(0, .ref 27), (1, .int (nI k)), (2, .int what)]) (st' := [.int (nI (gs_u S k))]) (w' := gd_rI w 27 (upd (w.1 27) 0 0)) rfl ?_
            exact gd_iretp E hr hlk (K.1 96 (.ireturn, 0) rfl).1 (gs_mp_code hR _ (by rw [gs_lookc, if_pos hcond]; rfl) (by rw [gs_lookv, if_pos hcond, nI_clamp (by omega), if_neg h3, if_pos h4]))
          · refine gd_r E K 2 (pc' := 64) (lv' := [(0, .ref 27), (1, .int (nI k)), (2, .int what)]) (st' := [.int 2, .int what]) (w' := gd_rI w 27 (upd (w.1 27) 0 0)) rfl ?_
            refine gd_r E K 1 (pc' := if what = 2 then 67 else 75) (lv' := [(0, .ref 27), (1, .int (nI k)), (2, .int what)]) (st' := []) (w' := gd_rI w 27 (upd (w.1 27) 0 0)) rfl ?_
            refine gd_ite (fun h5 => ?_) (fun h5 => ?_)
            · refine gd_r E K 2 (pc' := 69) (lv' := [(0, .ref 27), (1, .int (nI k)), (2, .int what)]) (st' := [.int (nI k), .ref 27]) (w' := gd_rI w 27 (upd (w.1 27) 0 0)) rfl ?_
              refine gd_cV E hA (av := [.int (nI k)]) (rest := []) (c2_left hinj _ (hR.code 0) k hk) (K.1 69 (.invokevirtual 75, 0) rfl).1 ml_M_75 cv_M_left (by decide) (rfl) ⟨Nat.le_of_ble_eq_true rfl, Nat.le_of_ble_eq_true rfl⟩ ⟨Nat.zero_le _, Nat.zero_le _⟩ rfl (Nat.le_of_ble_eq_true rfl) ?_
              refine gd_r E K 1 (pc' := 96) (lv' := [(0, .ref 27), (1, .int (nI k)), (2, .int what)]) (st' := [.int (nI (gs_l S k))]) (w' := gd_rI w 27 (upd (w.1 27) 0 0)) rfl ?_
              exact gd_iretp E hr hlk (K.1 96 (.ireturn, 0) rfl).1 (gs_mp_code hR _ (by rw [gs_lookc, if_pos hcond]; rfl) (by rw [gs_lookv, if_pos hcond, nI_clamp (by omega), if_neg h3, if_neg h4, if_pos h5]))
            · refine gd_r E K 2 (pc' := 77) (lv' := [(0, .ref 27), (1, .int (nI k)), (2, .int what)]) (st' := [.int 3, .int what]) (w' := gd_rI w 27 (upd (w.1 27) 0 0)) rfl ?_
              refine gd_r E K 1 (pc' := if what = 3 then 80 else 91) (lv' := [(0, .ref 27), (1, .int (nI k)), (2, .int what)]) (st' := []) (w' := gd_rI w 27 (upd (w.1 27) 0 0)) rfl ?_
              refine gd_ite (fun h6 => ?_) (fun h6 => ?_)
              · refine gd_r E K 3 (pc' := 85) (lv' := [(0, .ref 27), (1, .int (nI k)), (2, .int what)]) (st' := [.int (nI k), .ref 36]) (w' := gd_rI w 27 (upd (w.1 27) 0 0)) rfl ?_
                refine gd_ialdv E (K.1 85 (.iaload, 0) rfl).1 (j := k) (by decide) (rfl) (rfl) (by omega) (by decide) (v := nI (gs_i S k)) (((hR.code 0).2.2.2.2.2.1 k (by omega)).1) ?_
                refine gd_r E K 3 (pc' := 96) (lv' := [(0, .ref 27), (1, .int (nI k)), (2, .int what)]) (st' := [.int ((nI (gs_i S k)) - 1)]) (w' := gd_rI w 27 (upd (w.1 27) 0 0)) rfl ?_
                exact gd_iretp E hr hlk (K.1 96 (.ireturn, 0) rfl).1 (gs_mp_code hR _ (by rw [gs_lookc, if_pos hcond]; rfl) (by rw [gs_lookv, if_pos hcond, nI_clamp (by omega), if_neg h3, if_neg h4, if_neg h5, if_pos h6]))
              · refine gd_r E K 2 (pc' := 93) (lv' := [(0, .ref 27), (1, .int (nI k)), (2, .int what)]) (st' := [.int (nI k), .ref 27]) (w' := gd_rI w 27 (upd (w.1 27) 0 0)) rfl ?_
                refine gd_cV E hA (av := [.int (nI k)]) (rest := []) (c2_comer hinj _ (hR.code 0).U (hR.code 0).J k (by omega)) (K.1 93 (.invokevirtual 79, 0) rfl).1 ml_M_79 cv_M_comer (by decide) (rfl) ⟨Nat.le_of_ble_eq_true rfl, Nat.le_of_ble_eq_true rfl⟩ ⟨Nat.zero_le _, Nat.zero_le _⟩ rfl (Nat.le_of_ble_eq_true rfl) ?_
                exact gd_iretp E hr hlk (K.1 96 (.ireturn, 0) rfl).1 (gs_mp_code hR _ (by rw [gs_lookc, if_pos hcond]; rfl) (by rw [gs_lookv, if_pos hcond, nI_clamp (by omega), if_neg h3, if_neg h4, if_neg h5, if_neg h6]))
  | false =>
    refine gd_r E K 1 (pc' := if (gs_b (false)) = 0 then 22 else 9) (lv' := [(0, .ref 27), (1, .int d), (2, .int what)]) (st' := [.ref 27]) (w' := w) rfl ?_
    refine gd_it (by decide) ?_
    refine gd_r E K 6 (pc' := 34) (lv' := [(0, .ref 27), (1, .int d), (2, .int what)]) (st' := [.int 0]) (w' := gd_rI w 27 (upd (w.1 27) 0 1)) rfl ?_
    exact gd_iretp E hr hlk (K.1 34 (.ireturn, 0) rfl).1 (gs_mp_code hR _ (by rw [gs_lookc, if_neg (fun z => by rw [hb] at z; cases z.1)]; rfl) (by rw [gs_lookv, if_neg (fun z => by rw [hb] at z; cases z.1)]))
set_option maxRecDepth 100000 in
theorem c2_Mshare {l : Launch} {D : va_G} {tC : FieldType → ClassId} {ad : Nat → Nat} (hinj : ∀ i j, ad i = ad j → i = j) {S : gs_T} {G : Nat → Nat} (w : gd_W) (hR : gr_M w S G) (d what : Int32) : gd_Cp l D tC ad 45 1 21 y_M_share c_M_share 3 (some .long) [.ref 27, .int d, .int what] w (gs_mp S (gs_lookc S d what) (.long (gs_sharev S d what)) w) := by
  refine gd_Cp_of rfl hinj (Nat.le_of_ble_eq_true rfl) ?_
  intro p e s m args below meth c E hr hlk
  have K := k_M_share
  have hA : ∀ q, gd_A ad 45 s.heap.size q → gd_A ad 45 s.heap.size q := fun _ h => h
  have hN := hR.1.2
  refine gd_r E K 3 (pc' := 3) (lv' := [(0, .ref 27), (1, .int d), (2, .int what)]) (st' := [.int d, .ref 27, .ref 27]) (w' := w) rfl ?_
  refine gd_cV E hA (av := [.int d]) (rest := [.ref 27]) (c2_isD hinj _ hR d) (K.1 3 (.invokevirtual 125, 0) rfl).1 ml_M_125 cv_M_isDrop (by decide) (rfl) ⟨Nat.le_of_ble_eq_true rfl, Nat.le_of_ble_eq_true rfl⟩ ⟨Nat.zero_le _, Nat.zero_le _⟩ rfl (Nat.le_of_ble_eq_true rfl) ?_
  cases hb : gs_isd S d with
  | true =>
    refine gd_r E K 1 (pc' := if (gs_b (true)) = 0 then 22 else 9) (lv' := [(0, .ref 27), (1, .int d), (2, .int what)]) (st' := [.ref 27]) (w' := w) rfl ?_
    refine gd_if (by decide) ?_
    refine gd_r E K 1 (pc' := 10) (lv' := [(0, .ref 27), (1, .int d), (2, .int what)]) (st' := [.int what, .ref 27]) (w' := w) rfl ?_
    refine gd_r E K 1 (pc' := if what < 0 then 22 else 13) (lv' := [(0, .ref 27), (1, .int d), (2, .int what)]) (st' := [.ref 27]) (w' := w) rfl ?_
    refine gd_ite (fun h1 => ?_) (fun h1 => ?_)
    · refine gd_r E K 7 (pc' := 62) (lv' := [(0, .ref 27), (1, .int d), (2, .int what)]) (st' := [.long 0]) (w' := gd_rI w 27 (upd (w.1 27) 0 1)) rfl ?_
      exact gd_lretp E hr hlk (K.1 62 (.lreturn, 0) rfl).1 (gs_mp_code hR _ (by rw [gs_lookc, if_neg (fun z => z.2.1 h1)]; rfl) (by rw [gs_sharev, if_neg (fun z => z.2.1 h1)]))
    · refine gd_r E K 2 (pc' := 15) (lv' := [(0, .ref 27), (1, .int d), (2, .int what)]) (st' := [.int 4, .int what, .ref 27]) (w' := w) rfl ?_
      refine gd_r E K 1 (pc' := if 4 < what then 22 else 18) (lv' := [(0, .ref 27), (1, .int d), (2, .int what)]) (st' := [.ref 27]) (w' := w) rfl ?_
      refine gd_ite (fun h2 => ?_) (fun h2 => ?_)
      · refine gd_r E K 7 (pc' := 62) (lv' := [(0, .ref 27), (1, .int d), (2, .int what)]) (st' := [.long 0]) (w' := gd_rI w 27 (upd (w.1 27) 0 1)) rfl ?_
        exact gd_lretp E hr hlk (K.1 62 (.lreturn, 0) rfl).1 (gs_mp_code hR _ (by rw [gs_lookc, if_neg (fun z => z.2.2 h2)]; rfl) (by rw [gs_sharev, if_neg (fun z => z.2.2 h2)]))
      · have hcond : gs_isd S d = true ∧ ¬ what < 0 ∧ ¬ 4 < what := ⟨hb, h1, h2⟩
        obtain ⟨k, hk, rfl, hu⟩ := gs_isd_t hN hb
        refine gd_r E K 8 (pc' := 39) (lv' := [(0, .ref 27), (1, .int (nI k)), (2, .int what)]) (st' := [.int 4, .int what]) (w' := gd_rI w 27 (upd (w.1 27) 0 0)) rfl ?_
        refine gd_r E K 1 (pc' := if what = 4 then 42 else 52) (lv' := [(0, .ref 27), (1, .int (nI k)), (2, .int what)]) (st' := []) (w' := gd_rI w 27 (upd (w.1 27) 0 0)) rfl ?_
        refine gd_ite (fun h3 => ?_) (fun h3 => ?_)
        · refine gd_r E K 3 (pc' := 47) (lv' := [(0, .ref 27), (1, .int (nI k)), (2, .int what)]) (st' := [.int (nI k), .ref 32]) (w' := gd_rI w 27 (upd (w.1 27) 0 0)) rfl ?_
          refine gd_ialdv E (K.1 47 (.iaload, 0) rfl).1 (j := k) (by decide) (rfl) (rfl) (by omega) (by decide) (v := nI (gs_p S k)) (((hR.code 0).2.2.2.2.2.2.2.2.1 k (by omega)).1) ?_
          refine gd_r E K 2 (pc' := 62) (lv' := [(0, .ref 27), (1, .int (nI k)), (2, .int what)]) (st' := [.long ((nI (gs_p S k)).toInt64)]) (w' := gd_rI w 27 (upd (w.1 27) 0 0)) rfl ?_
          exact gd_lretp E hr hlk (K.1 62 (.lreturn, 0) rfl).1 (gs_mp_code hR _ (by rw [gs_lookc, if_pos hcond]; rfl) (by rw [gs_sharev, if_pos hcond, nI_clamp (by omega), if_pos h3]))
        · obtain ⟨j, hj, rfl⟩ := nI_of h1
          have hj4 : j < 4 := by
            have e4 : (4 : Int32) = nI 4 := rfl
            rw [e4, nI_ltI (by decide) hj] at h2
            rw [e4, nI_eq hj (by decide)] at h3
            omega
          refine gd_r E K 7 (pc' := 61) (lv' := [(0, .ref 27), (1, .int (nI k)), (2, .int (nI j))]) (st' := [.int ((4 * (nI k)) + (nI j)), .ref 31]) (w' := gd_rI w 27 (upd (w.1 27) 0 0)) rfl ?_
          refine gd_laldv E (K.1 61 (.laload, 0) rfl).1 (j := 4 * k + j) (by decide) (rfl) (by rw [show (4 : Int32) = nI 4 from rfl, pk_mul, nI_add]) (by omega) (by decide) (v := gs_sh S k j) ((hR.code 0).2.2.2.2.2.2.2.1 k (by omega) j hj4) ?_
          exact gd_lretp E hr hlk (K.1 62 (.lreturn, 0) rfl).1 (gs_mp_code hR _ (by rw [gs_lookc, if_pos hcond]; rfl) (by rw [gs_sharev, if_pos hcond, nI_clamp (by omega), if_neg h3, nI_clamp hj]))
  | false =>
    refine gd_r E K 1 (pc' := if (gs_b (false)) = 0 then 22 else 9) (lv' := [(0, .ref 27), (1, .int d), (2, .int what)]) (st' := [.ref 27]) (w' := w) rfl ?_
    refine gd_it (by decide) ?_
    refine gd_r E K 7 (pc' := 62) (lv' := [(0, .ref 27), (1, .int d), (2, .int what)]) (st' := [.long 0]) (w' := gd_rI w 27 (upd (w.1 27) 0 1)) rfl ?_
    exact gd_lretp E hr hlk (K.1 62 (.lreturn, 0) rfl).1 (gs_mp_code hR _ (by rw [gs_lookc, if_neg (fun z => by rw [hb] at z; cases z.1)]; rfl) (by rw [gs_sharev, if_neg (fun z => by rw [hb] at z; cases z.1)]))
set_option maxRecDepth 100000 in
theorem c2_Mreading {l : Launch} {D : va_G} {tC : FieldType → ClassId} {ad : Nat → Nat} (hinj : ∀ i j, ad i = ad j → i = j) {S : gs_T} {G : Nat → Nat} (w : gd_W) (hR : gr_M w S G) (i what : Int32) : gd_Cp l D tC ad 45 0 0 y_M_reading c_M_reading 3 (some .int) [.ref 27, .int i, .int what] w (gs_mp S (gs_readc S i what) (.int (gs_readv S i what)) w) := by
  refine gd_Cp_of rfl hinj (Nat.le_of_ble_eq_true rfl) ?_
  intro p e s m args below meth c E hr hlk
  have K := k_M_reading
  have hA : ∀ q, gd_A ad 45 s.heap.size q → gd_A ad 45 s.heap.size q := fun _ h => h
  obtain ⟨hrl, hr5⟩ := hR.2.2.2.2.2.2.2.2.2.2.2.2.1
  have hrr := hR.2.2.2.2.2.2.2.2.2.2.2.2.2
  refine gd_r E K 2 (pc' := 2) (lv' := [(0, .ref 27), (1, .int i), (2, .int what)]) (st' := [.int i, .ref 27]) (w' := w) rfl ?_
  refine gd_r E K 1 (pc' := if i < 0 then 26 else 5) (lv' := [(0, .ref 27), (1, .int i), (2, .int what)]) (st' := [.ref 27]) (w' := w) rfl ?_
  refine gd_ite (fun h1 => ?_) (fun h1 => ?_)
  · refine gd_r E K 6 (pc' := 38) (lv' := [(0, .ref 27), (1, .int i), (2, .int what)]) (st' := [.int 0]) (w' := gd_rI w 27 (upd (w.1 27) 0 1)) rfl ?_
    exact gd_iretp E hr hlk (K.1 38 (.ireturn, 0) rfl).1 (gs_mp_code hR _ (by rw [gs_readc, if_neg (fun z => z.1 h1)]; rfl) (by rw [gs_readv, if_neg (fun z => z.1 h1)]))
  · refine gd_r E K 3 (pc' := 10) (lv' := [(0, .ref 27), (1, .int i), (2, .int what)]) (st' := [.int (w.1 27 14), .int i, .ref 27]) (w' := w) rfl ?_
    refine gd_cg (lv' := [(0, .ref 27), (1, .int i), (2, .int what)]) (st' := [.int (nI (gs_rd S).length), .int i, .ref 27]) (w' := w) ?_ (rfl) (by simp only [hrl]) rfl
    refine gd_r E K 1 (pc' := if (nI (gs_rd S).length) ≤ i then 26 else 13) (lv' := [(0, .ref 27), (1, .int i), (2, .int what)]) (st' := [.ref 27]) (w' := w) rfl ?_
    refine gd_ite (fun h2 => ?_) (fun h2 => ?_)
    · refine gd_r E K 6 (pc' := 38) (lv' := [(0, .ref 27), (1, .int i), (2, .int what)]) (st' := [.int 0]) (w' := gd_rI w 27 (upd (w.1 27) 0 1)) rfl ?_
      exact gd_iretp E hr hlk (K.1 38 (.ireturn, 0) rfl).1 (gs_mp_code hR _ (by rw [gs_readc, if_neg (fun z => z.2.1 h2)]; rfl) (by rw [gs_readv, if_neg (fun z => z.2.1 h2)]))
    · refine gd_r E K 1 (pc' := 14) (lv' := [(0, .ref 27), (1, .int i), (2, .int what)]) (st' := [.int what, .ref 27]) (w' := w) rfl ?_
      refine gd_r E K 1 (pc' := if what < 0 then 26 else 17) (lv' := [(0, .ref 27), (1, .int i), (2, .int what)]) (st' := [.ref 27]) (w' := w) rfl ?_
      refine gd_ite (fun h3 => ?_) (fun h3 => ?_)
      · refine gd_r E K 6 (pc' := 38) (lv' := [(0, .ref 27), (1, .int i), (2, .int what)]) (st' := [.int 0]) (w' := gd_rI w 27 (upd (w.1 27) 0 1)) rfl ?_
        exact gd_iretp E hr hlk (K.1 38 (.ireturn, 0) rfl).1 (gs_mp_code hR _ (by rw [gs_readc, if_neg (fun z => z.2.2.1 h3)]; rfl) (by rw [gs_readv, if_neg (fun z => z.2.2.1 h3)]))
      · refine gd_r E K 2 (pc' := 19) (lv' := [(0, .ref 27), (1, .int i), (2, .int what)]) (st' := [.int 3, .int what, .ref 27]) (w' := w) rfl ?_
        refine gd_r E K 1 (pc' := if 3 < what then 26 else 22) (lv' := [(0, .ref 27), (1, .int i), (2, .int what)]) (st' := [.ref 27]) (w' := w) rfl ?_
        refine gd_ite (fun h4 => ?_) (fun h4 => ?_)
        · refine gd_r E K 6 (pc' := 38) (lv' := [(0, .ref 27), (1, .int i), (2, .int what)]) (st' := [.int 0]) (w' := gd_rI w 27 (upd (w.1 27) 0 1)) rfl ?_
          exact gd_iretp E hr hlk (K.1 38 (.ireturn, 0) rfl).1 (gs_mp_code hR _ (by rw [gs_readc, if_neg (fun z => z.2.2.2 h4)]; rfl) (by rw [gs_readv, if_neg (fun z => z.2.2.2 h4)]))
        · have hcond : ¬ i < 0 ∧ ¬ nI (gs_rd S).length ≤ i ∧ ¬ what < 0 ∧ ¬ 3 < what := ⟨h1, h2, h3, h4⟩
          obtain ⟨j, hj, rfl⟩ := nI_of h1
          have hjl : j < (gs_rd S).length := by rw [nI_leI (by omega) hj] at h2; omega
          have hx := List.getElem?_eq_getElem hjl
          obtain ⟨r1, r2, r3, r4⟩ := hrr j _ hx
          have hget : (gs_rd S).getD j (0, 0, 0, 0) = (gs_rd S)[j] := by rw [List.getD_eq_getElem?_getD, hx]; rfl
          refine gd_r E K 7 (pc' := 40) (lv' := [(0, .ref 27), (1, .int (nI j)), (2, .int what)]) (st' := [.int what]) (w' := gd_rI w 27 (upd (w.1 27) 0 0)) rfl ?_
          refine gd_r E K 1 (pc' := if what = 0 then 43 else 52) (lv' := [(0, .ref 27), (1, .int (nI j)), (2, .int what)]) (st' := []) (w' := gd_rI w 27 (upd (w.1 27) 0 0)) rfl ?_
          refine gd_ite (fun h5 => ?_) (fun h5 => ?_)
          · refine gd_r E K 3 (pc' := 48) (lv' := [(0, .ref 27), (1, .int (nI j)), (2, .int what)]) (st' := [.int (nI j), .ref 37]) (w' := gd_rI w 27 (upd (w.1 27) 0 0)) rfl ?_
            refine gd_ialdv E (K.1 48 (.iaload, 0) rfl).1 (j := j) (by decide) (rfl) (rfl) (by omega) (by decide) (v := nI ((gs_rd S)[j]).1) (r1) ?_
            refine gd_r E K 1 (pc' := 86) (lv' := [(0, .ref 27), (1, .int (nI j)), (2, .int what)]) (st' := [.int (nI ((gs_rd S)[j]).1)]) (w' := gd_rI w 27 (upd (w.1 27) 0 0)) rfl ?_
            exact gd_iretp E hr hlk (K.1 86 (.ireturn, 0) rfl).1 (gs_mp_code hR _ (by rw [gs_readc, if_pos hcond]; rfl) (by rw [gs_readv, if_pos hcond, nI_clamp hj, hget]; dsimp only; rw [if_pos h5]))
          · refine gd_r E K 2 (pc' := 54) (lv' := [(0, .ref 27), (1, .int (nI j)), (2, .int what)]) (st' := [.int 1, .int what]) (w' := gd_rI w 27 (upd (w.1 27) 0 0)) rfl ?_
            refine gd_r E K 1 (pc' := if what = 1 then 57 else 66) (lv' := [(0, .ref 27), (1, .int (nI j)), (2, .int what)]) (st' := []) (w' := gd_rI w 27 (upd (w.1 27) 0 0)) rfl ?_
            refine gd_ite (fun h6 => ?_) (fun h6 => ?_)
            · refine gd_r E K 3 (pc' := 62) (lv' := [(0, .ref 27), (1, .int (nI j)), (2, .int what)]) (st' := [.int (nI j), .ref 38]) (w' := gd_rI w 27 (upd (w.1 27) 0 0)) rfl ?_
              refine gd_ialdv E (K.1 62 (.iaload, 0) rfl).1 (j := j) (by decide) (rfl) (rfl) (by omega) (by decide) (v := ((gs_rd S)[j]).2.1) (r2) ?_
              refine gd_r E K 1 (pc' := 86) (lv' := [(0, .ref 27), (1, .int (nI j)), (2, .int what)]) (st' := [.int (((gs_rd S)[j]).2.1)]) (w' := gd_rI w 27 (upd (w.1 27) 0 0)) rfl ?_
              exact gd_iretp E hr hlk (K.1 86 (.ireturn, 0) rfl).1 (gs_mp_code hR _ (by rw [gs_readc, if_pos hcond]; rfl) (by rw [gs_readv, if_pos hcond, nI_clamp hj, hget]; dsimp only; rw [if_neg h5, if_pos h6]))
            · refine gd_r E K 2 (pc' := 68) (lv' := [(0, .ref 27), (1, .int (nI j)), (2, .int what)]) (st' := [.int 2, .int what]) (w' := gd_rI w 27 (upd (w.1 27) 0 0)) rfl ?_
              refine gd_r E K 1 (pc' := if what = 2 then 71 else 80) (lv' := [(0, .ref 27), (1, .int (nI j)), (2, .int what)]) (st' := []) (w' := gd_rI w 27 (upd (w.1 27) 0 0)) rfl ?_
              refine gd_ite (fun h7 => ?_) (fun h7 => ?_)
              · refine gd_r E K 3 (pc' := 76) (lv' := [(0, .ref 27), (1, .int (nI j)), (2, .int what)]) (st' := [.int (nI j), .ref 39]) (w' := gd_rI w 27 (upd (w.1 27) 0 0)) rfl ?_
                refine gd_ialdv E (K.1 76 (.iaload, 0) rfl).1 (j := j) (by decide) (rfl) (rfl) (by omega) (by decide) (v := nI ((gs_rd S)[j]).2.2.1) (r3) ?_
                refine gd_r E K 1 (pc' := 86) (lv' := [(0, .ref 27), (1, .int (nI j)), (2, .int what)]) (st' := [.int (nI ((gs_rd S)[j]).2.2.1)]) (w' := gd_rI w 27 (upd (w.1 27) 0 0)) rfl ?_
                exact gd_iretp E hr hlk (K.1 86 (.ireturn, 0) rfl).1 (gs_mp_code hR _ (by rw [gs_readc, if_pos hcond]; rfl) (by rw [gs_readv, if_pos hcond, nI_clamp hj, hget]; dsimp only; rw [if_neg h5, if_neg h6, if_pos h7]))
              · refine gd_r E K 3 (pc' := 85) (lv' := [(0, .ref 27), (1, .int (nI j)), (2, .int what)]) (st' := [.int (nI j), .ref 40]) (w' := gd_rI w 27 (upd (w.1 27) 0 0)) rfl ?_
                refine gd_ialdv E (K.1 85 (.iaload, 0) rfl).1 (j := j) (by decide) (rfl) (rfl) (by omega) (by decide) (v := nI ((gs_rd S)[j]).2.2.2) (r4) ?_
                exact gd_iretp E hr hlk (K.1 86 (.ireturn, 0) rfl).1 (gs_mp_code hR _ (by rw [gs_readc, if_pos hcond]; rfl) (by rw [gs_readv, if_pos hcond, nI_clamp hj, hget]; dsimp only; rw [if_neg h5, if_neg h6, if_neg h7]))
end
section
/-! The reference's arrays behind a write. -/
def gs_fd (S : gs_T) (f d v : Nat) : gs_T := (S.1, fun a b => if a = f ∧ b = d then v else S.2.1 a b, S.2.2)
def gs_kset (S : gs_T) (c k : Nat) : gs_T := (fun x => if x = c then k else S.1 x, S.2)
def gs_sset (S : gs_T) (d k : Nat) (v : Int64) : gs_T := (S.1, S.2.1, fun a b => if a = d ∧ b = k then v else S.2.2.1 a b, S.2.2.2)
def gs_sc (S : gs_T) (j v : Nat) : gs_T := (S.1, S.2.1, S.2.2.1, fun a => if a = j then v else S.2.2.2.1 a, S.2.2.2.2)
def gs_tm (S : gs_T) (t : Int32) : gs_T := (S.1, S.2.1, S.2.2.1, S.2.2.2.1, t, S.2.2.2.2.2)
def gs_rset (S : gs_T) (r : List (Nat × Int32 × Nat × Nat)) : gs_T := (S.1, S.2.1, S.2.2.1, S.2.2.2.1, S.2.2.2.2.1, r)
/-- a way of en moves for droplet d -/
def gs_route (S : gs_T) (d en : Nat) (mv : Nat → Nat) : gs_T := (S.1, fun a b => if b = d then (if a = 3 then en else if 5 ≤ a then mv (a - 5) else S.2.1 a b) else S.2.1 a b, S.2.2)
/-- a new droplet -/
def gs_add (S : gs_T) (c u : Nat) : gs_T := gs_sc (gs_fd (gs_fd (gs_fd (gs_fd S 0 (gs_made S) u) 1 (gs_made S) c) 3 (gs_made S) 0) 4 (gs_made S) 0) 0 (gs_made S + 1)
def gs_sh4 (S : gs_T) (d : Nat) (f : Nat → Int64) : gs_T := gs_sset (gs_sset (gs_sset (gs_sset S d 0 (f 0)) d 1 (f 1)) d 2 (f 2)) d 3 (f 3)
section UPD
variable {w : gd_W} {S : gs_T} {G : Nat → Nat}
theorem gr_M.f0 (k : gr_M w S G) (d v : Nat) (hv : v ≤ 2) : gr_M (gd_rI w 29 (upd (w.1 29) d (nI v))) (gs_fd S 0 d v) G := by
  obtain ⟨h1, h2, h3, h4, h5, h6, h7, h8, h9, h10, h11, h12, h13, h14⟩ := k
  have h5x : ∀ x, x < 60 → ∀ i, i < gs_l S x → w.1 33 (60 * x + G x + i) = nI (if 5 + i = 0 ∧ x = d then v else S.2.1 (5 + i) x) ∧ (if 5 + i = 0 ∧ x = d then v else S.2.1 (5 + i) x) < 5 := fun x hx i hi => by rw [if_neg (fun z => by omega)]; exact h5 x hx i hi
  refine ⟨h1, fun x hx => ?_, h3, h4, h5x, h6, h7, h8, h9, h10, h11, h12, h13, h14⟩
  show upd (w.1 29) d (nI v) x = nI (if (0 : Nat) = 0 ∧ x = d then v else S.2.1 0 x) ∧ (if (0 : Nat) = 0 ∧ x = d then v else S.2.1 0 x) ≤ 2
  by_cases e : x = d
  · subst e; rw [gd_u_s, if_pos ⟨rfl, rfl⟩]; exact ⟨rfl, hv⟩
  · rw [gd_u_n e, if_neg (fun z => e z.2)]; exact h2 x hx
theorem gr_M.f1 (k : gr_M w S G) (d v : Nat) (hv : v < 64) : gr_M (gd_rI w 30 (upd (w.1 30) d (nI v))) (gs_fd S 1 d v) G := by
  obtain ⟨h1, h2, h3, h4, h5, h6, h7, h8, h9, h10, h11, h12, h13, h14⟩ := k
  have h5x : ∀ x, x < 60 → ∀ i, i < gs_l S x → w.1 33 (60 * x + G x + i) = nI (if 5 + i = 1 ∧ x = d then v else S.2.1 (5 + i) x) ∧ (if 5 + i = 1 ∧ x = d then v else S.2.1 (5 + i) x) < 5 := fun x hx i hi => by rw [if_neg (fun z => by omega)]; exact h5 x hx i hi
  refine ⟨h1, h2, fun x hx => ?_, h4, h5x, h6, h7, h8, h9, h10, h11, h12, h13, h14⟩
  show upd (w.1 30) d (nI v) x = nI (if (1 : Nat) = 1 ∧ x = d then v else S.2.1 1 x) ∧ (if (1 : Nat) = 1 ∧ x = d then v else S.2.1 1 x) < 64
  by_cases e : x = d
  · subst e; rw [gd_u_s, if_pos ⟨rfl, rfl⟩]; exact ⟨rfl, hv⟩
  · rw [gd_u_n e, if_neg (fun z => e z.2)]; exact h3 x hx
theorem gr_M.f2 (k : gr_M w S G) (d v : Nat) (hv : v ≤ 60) : gr_M (gd_rI w 32 (upd (w.1 32) d (nI v))) (gs_fd S 2 d v) G := by
  obtain ⟨h1, h2, h3, h4, h5, h6, h7, h8, h9, h10, h11, h12, h13, h14⟩ := k
  have h5x : ∀ x, x < 60 → ∀ i, i < gs_l S x → w.1 33 (60 * x + G x + i) = nI (if 5 + i = 2 ∧ x = d then v else S.2.1 (5 + i) x) ∧ (if 5 + i = 2 ∧ x = d then v else S.2.1 (5 + i) x) < 5 := fun x hx i hi => by rw [if_neg (fun z => by omega)]; exact h5 x hx i hi
  refine ⟨h1, h2, h3, h4, h5x, h6, h7, h8, fun x hx => ?_, h10, h11, h12, h13, h14⟩
  show upd (w.1 32) d (nI v) x = nI (if (2 : Nat) = 2 ∧ x = d then v else S.2.1 2 x) ∧ (if (2 : Nat) = 2 ∧ x = d then v else S.2.1 2 x) ≤ 60
  by_cases e : x = d
  · subst e; rw [gd_u_s, if_pos ⟨rfl, rfl⟩]; exact ⟨rfl, hv⟩
  · rw [gd_u_n e, if_neg (fun z => e z.2)]; exact h9 x hx
theorem gr_M.f4 (k : gr_M w S G) (d v : Nat) (hv : v ≤ 60) : gr_M (gd_rI w 36 (upd (w.1 36) d (nI v))) (gs_fd S 4 d v) G := by
  obtain ⟨h1, h2, h3, h4, h5, h6, h7, h8, h9, h10, h11, h12, h13, h14⟩ := k
  have h5x : ∀ x, x < 60 → ∀ i, i < gs_l S x → w.1 33 (60 * x + G x + i) = nI (if 5 + i = 4 ∧ x = d then v else S.2.1 (5 + i) x) ∧ (if 5 + i = 4 ∧ x = d then v else S.2.1 (5 + i) x) < 5 := fun x hx i hi => by rw [if_neg (fun z => by omega)]; exact h5 x hx i hi
  refine ⟨h1, h2, h3, h4, h5x, fun x hx => ?_, h7, h8, h9, h10, h11, h12, h13, h14⟩
  show upd (w.1 36) d (nI v) x = nI (if (4 : Nat) = 4 ∧ x = d then v else S.2.1 4 x) ∧ (if (4 : Nat) = 4 ∧ x = d then v else S.2.1 4 x) ≤ 60
  by_cases e : x = d
  · subst e; rw [gd_u_s, if_pos ⟨rfl, rfl⟩]; exact ⟨rfl, hv⟩
  · rw [gd_u_n e, if_neg (fun z => e z.2)]; exact h6 x hx
theorem gr_M.kset (k : gr_M w S G) (c v : Nat) (hv : v < 8) : gr_M (gd_rI w 28 (upd (w.1 28) c (nI v))) (gs_kset S c v) G := by
  obtain ⟨h1, h2, h3, h4, h5, h6, h7, h8, h9, h10, h11, h12, h13, h14⟩ := k
  refine ⟨h1, h2, h3, h4, h5, h6, fun x hx => ?_, h8, h9, h10, h11, h12, h13, h14⟩
  show upd (w.1 28) c (nI v) x = nI (if x = c then v else S.1 x) ∧ (if x = c then v else S.1 x) < 8
  by_cases e : x = c
  · subst e; rw [gd_u_s, if_pos rfl]; exact ⟨rfl, hv⟩
  · rw [gd_u_n e, if_neg e]; exact h7 x hx
theorem gr_M.out (k : gr_M w S G) (v : Nat) (hv : v ≤ 60) : gr_M (gd_rI w 27 (upd (w.1 27) 12 (nI v))) (gs_sc S 1 v) G := by
  obtain ⟨h1, h2, h3, h4, h5, h6, h7, h8, h9, h10, h11, h12, h13, h14⟩ := k
  exact ⟨h1, h2, h3, h4, h5, h6, h7, h8, h9, h10, ⟨rfl, hv⟩, h12, h13, h14⟩
theorem gr_M.thr (k : gr_M w S G) (v : Nat) (hv : v ≤ 60) : gr_M (gd_rI w 27 (upd (w.1 27) 13 (nI v))) (gs_sc S 2 v) G := by
  obtain ⟨h1, h2, h3, h4, h5, h6, h7, h8, h9, h10, h11, h12, h13, h14⟩ := k
  exact ⟨h1, h2, h3, h4, h5, h6, h7, h8, h9, h10, h11, ⟨rfl, hv⟩, h13, h14⟩
theorem gr_M.time (k : gr_M w S G) (v : Int32) : gr_M (gd_rI w 27 (upd (w.1 27) 1 v)) (gs_tm S v) G := by
  obtain ⟨h1, h2, h3, h4, h5, h6, h7, h8, h9, h10, h11, h12, h13, h14⟩ := k
  exact ⟨h1, h2, h3, h4, h5, h6, h7, h8, h9, rfl, h11, h12, h13, h14⟩
theorem gr_M.sset (k : gr_M w S G) (d j : Nat) (v : Int64) (hj : j < 4) : gr_M (gd_rL w 31 (vp_updL (w.2.1 31) (4 * d + j) v)) (gs_sset S d j v) G := by
  obtain ⟨h1, h2, h3, h4, h5, h6, h7, h8, h9, h10, h11, h12, h13, h14⟩ := k
  refine ⟨h1, h2, h3, h4, h5, h6, h7, fun x hx i hi => ?_, h9, h10, h11, h12, h13, h14⟩
  show vp_updL (w.2.1 31) (4 * d + j) v (4 * x + i) = if x = d ∧ i = j then v else S.2.2.1 x i
  by_cases e : x = d ∧ i = j
  · rw [if_pos e, e.1, e.2, gd_ul_s]
  · rw [if_neg e, gd_ul_n (by omega)]; exact h8 x hx i hi
theorem gr_M.laid (k : gr_M w S G) {w' : gd_W} {d en : Nat} {mv : Nat → Nat} (h : gs_laid w w' d en mv) (hen : en ≤ 60) (hmv : ∀ i, i < en → mv i < 5) (hd : d < 60) : gr_M w' (gs_route S d en mv) (fun x => if x = d then 0 else G x) := by
  obtain ⟨q1, q2, q3, q4, q5, q6⟩ := h
  have e27 := q1 27 (by decide) (by decide) (by decide) (by decide) (by decide)
  have e28 := q1 28 (by decide) (by decide) (by decide) (by decide) (by decide)
  have e29 := q1 29 (by decide) (by decide) (by decide) (by decide) (by decide)
  have e30 := q1 30 (by decide) (by decide) (by decide) (by decide) (by decide)
  have e32 := q1 32 (by decide) (by decide) (by decide) (by decide) (by decide)
  have e36 := q1 36 (by decide) (by decide) (by decide) (by decide) (by decide)
  have e37 := q1 37 (by decide) (by decide) (by decide) (by decide) (by decide)
  have e38 := q1 38 (by decide) (by decide) (by decide) (by decide) (by decide)
  have e39 := q1 39 (by decide) (by decide) (by decide) (by decide) (by decide)
  have e40 := q1 40 (by decide) (by decide) (by decide) (by decide) (by decide)
  have fld : ∀ a x, a ≠ 3 → a < 5 → (gs_route S d en mv).2.1 a x = S.2.1 a x := by
    intro a x h1 h2
    show (if x = d then (if a = 3 then en else if 5 ≤ a then mv (a - 5) else S.2.1 a x) else S.2.1 a x) = _
    by_cases e : x = d
    · rw [if_pos e, if_neg h1, if_neg (by omega)]
    · rw [if_neg e]
  obtain ⟨h1, h2, h3, h4, h5, h6, h7, h8, h9, h10, h11, h12, h13, h14⟩ := k
  refine ⟨by rw [e27]; exact h1, fun x hx => ?_, fun x hx => ?_, fun x hx => ?_, fun x hx i hi => ?_, fun x hx => ?_, by rw [e28]; exact h7, by rw [q2]; exact h8, fun x hx => ?_, by rw [e27]; exact h10, by rw [e27]; exact h11, by rw [e27]; exact h12, by rw [e27]; exact h13, by rw [e37, e38, e39, e40]; exact h14⟩
  · rw [e29, gs_u, fld 0 x (by decide) (by decide)]; exact h2 x hx
  · rw [e30, gs_c, fld 1 x (by decide) (by decide)]; exact h3 x hx
  · rw [q5, q6]
    show upd (w.1 34) d (nI en) x = nI ((if x = d then 0 else G x) + (if x = d then (if (3 : Nat) = 3 then en else if 5 ≤ 3 then mv (3 - 5) else S.2.1 3 x) else S.2.1 3 x)) ∧ upd (w.1 35) d 0 x = nI (if x = d then 0 else G x) ∧ (if x = d then 0 else G x) + (if x = d then (if (3 : Nat) = 3 then en else if 5 ≤ 3 then mv (3 - 5) else S.2.1 3 x) else S.2.1 3 x) ≤ 60
    by_cases e : x = d
    · subst e
      rw [gd_u_s, gd_u_s, if_pos rfl, if_pos rfl, if_pos rfl, Nat.zero_add]
      exact ⟨rfl, rfl, hen⟩
    · rw [gd_u_n e, gd_u_n e, if_neg e, if_neg e]
      exact h4 x hx
  · have hi' : i < (if x = d then (if (3 : Nat) = 3 then en else if 5 ≤ 3 then mv (3 - 5) else S.2.1 3 x) else S.2.1 3 x) := hi
    show w'.1 33 (60 * x + (if x = d then 0 else G x) + i) = nI (if x = d then (if 5 + i = 3 then en else if 5 ≤ 5 + i then mv (5 + i - 5) else S.2.1 (5 + i) x) else S.2.1 (5 + i) x) ∧ (if x = d then (if 5 + i = 3 then en else if 5 ≤ 5 + i then mv (5 + i - 5) else S.2.1 (5 + i) x) else S.2.1 (5 + i) x) < 5
    by_cases e : x = d
    · subst e
      rw [if_pos rfl, if_pos rfl] at hi'
      rw [if_pos rfl, if_pos rfl, if_neg (by omega), if_pos (by omega), show 5 + i - 5 = i by omega, Nat.add_zero]
      exact ⟨q3 i hi', hmv i hi'⟩
    · rw [if_neg e] at hi'
      rw [if_neg e, if_neg e]
      have h4x := (h4 x hx).2.2
      have hl : gs_l S x = S.2.1 3 x := rfl
      rw [q4 (60 * x + G x + i) (by omega)]
      exact h5 x hx i hi'
  · rw [e36, gs_i, fld 4 x (by decide) (by decide)]; exact h6 x hx
  · rw [e32, gs_p, fld 2 x (by decide) (by decide)]; exact h9 x hx
theorem gr_M.made (k : gr_M w S G) (v : Nat) (hv : v ≤ 60) : gr_M (gd_rI w 27 (upd (w.1 27) 3 (nI v))) (gs_sc S 0 v) G := by
  obtain ⟨h1, h2, h3, h4, h5, h6, h7, h8, h9, h10, h11, h12, h13, h14⟩ := k
  exact ⟨⟨rfl, hv⟩, h2, h3, h4, h5, h6, h7, h8, h9, h10, h11, h12, h13, h14⟩
theorem gr_M.lg (k : gr_M w S G) (d : Nat) : gr_M (gd_rI (gd_rI w 34 (upd (w.1 34) d 0)) 35 (upd (w.1 35) d 0)) (gs_fd S 3 d 0) (fun x => if x = d then 0 else G x) := by
  obtain ⟨h1, h2, h3, h4, h5, h6, h7, h8, h9, h10, h11, h12, h13, h14⟩ := k
  refine ⟨h1, h2, h3, fun x hx => ?_, fun x hx i hi => ?_, h6, h7, h8, h9, h10, h11, h12, h13, h14⟩
  · show upd (w.1 34) d 0 x = nI ((if x = d then 0 else G x) + (if (3 : Nat) = 3 ∧ x = d then 0 else S.2.1 3 x)) ∧ upd (w.1 35) d 0 x = nI (if x = d then 0 else G x) ∧ (if x = d then 0 else G x) + (if (3 : Nat) = 3 ∧ x = d then 0 else S.2.1 3 x) ≤ 60
    by_cases e : x = d
    · subst e; rw [gd_u_s, gd_u_s, if_pos rfl, if_pos ⟨rfl, rfl⟩]; exact ⟨rfl, rfl, by omega⟩
    · rw [gd_u_n e, gd_u_n e, if_neg e, if_neg (fun z => e z.2)]; exact h4 x hx
  · have hi' : i < (if (3 : Nat) = 3 ∧ x = d then 0 else S.2.1 3 x) := hi
    show w.1 33 (60 * x + (if x = d then 0 else G x) + i) = nI (if 5 + i = 3 ∧ x = d then 0 else S.2.1 (5 + i) x) ∧ (if 5 + i = 3 ∧ x = d then 0 else S.2.1 (5 + i) x) < 5
    by_cases e : x = d
    · subst e; rw [if_pos ⟨rfl, rfl⟩] at hi'; omega
    · rw [if_neg (fun z => e z.2)] at hi'
      rw [if_neg e, if_neg (fun z => e z.2)]
      exact h5 x hx i hi'
end UPD
end
section
def gs_sum (U : Nat → Nat) : Nat → Nat
  | 0 => 0
  | n + 1 => gs_sum U n + U n
def gs_unitv (S : gs_T) (what : Int32) : Int32 := if what = 0 then nI (gs_out S) else if what = 1 then nI (gs_thr S) else nI (gs_sum (gs_u S) (gs_made S))
set_option maxRecDepth 100000 in
theorem c2_Munits {l : Launch} {D : va_G} {tC : FieldType → ClassId} {ad : Nat → Nat} (hinj : ∀ i j, ad i = ad j → i = j) {S : gs_T} {G : Nat → Nat} (w : gd_W) (hR : gr_M w S G) (what : Int32) : gd_Cp l D tC ad 45 0 0 y_M_units c_M_units 4 (some .int) [.ref 27, .int what] w (gs_mp S 0 (.int (gs_unitv S what)) w) := by
  refine gd_Cp_of rfl hinj (Nat.le_of_ble_eq_true rfl) ?_
  intro p e s m args below meth c E hr hlk
  have K := k_M_units
  have hA : ∀ q, gd_A ad 45 s.heap.size q → gd_A ad 45 s.heap.size q := fun _ h => h
  have hN := hR.1.2
  have hm := hR.1.1
  have loop : ∀ j k, k + j = gs_made S → gd_G p l e (gd_rm 0 0) s m args below meth c D tC ad (gd_A ad 45 s.heap.size) 45 4 0 0 (MQ below (gd_Qp D tC ad 45 s.heap.size (gs_mp S 0 (.int (gs_unitv S what)) w)) args s 0 0 (gd_A ad 45 s.heap.size)) 9 [(0, .ref 27), (1, .int what), (2, .int (nI (gs_sum (gs_u S) k))), (3, .int (nI k))] [] (gd_rI w 27 (upd (w.1 27) 0 0)) := by
    intro j
    induction j with
    | zero =>
      intro k hk
      refine gd_r E K 3 (pc' := 14) (lv' := [(0, .ref 27), (1, .int what), (2, .int (nI (gs_sum (gs_u S) k))), (3, .int (nI k))]) (st' := [.int (w.1 27 3), .int (nI k)]) (w' := gd_rI w 27 (upd (w.1 27) 0 0)) rfl ?_
      refine gd_cg (lv' := [(0, .ref 27), (1, .int what), (2, .int (nI (gs_sum (gs_u S) k))), (3, .int (nI k))]) (st' := [.int (nI (gs_made S)), .int (nI k)]) (w' := gd_rI w 27 (upd (w.1 27) 0 0)) ?_ (rfl) (by simp only [hm]) rfl
      refine gd_r E K 1 (pc' := if (nI (gs_made S)) ≤ (nI k) then 32 else 17) (lv' := [(0, .ref 27), (1, .int what), (2, .int (nI (gs_sum (gs_u S) k))), (3, .int (nI k))]) (st' := []) (w' := gd_rI w 27 (upd (w.1 27) 0 0)) rfl ?_
      refine gd_it (nI_le (by omega) (by omega)) ?_
      refine gd_r E K 1 (pc' := 33) (lv' := [(0, .ref 27), (1, .int what), (2, .int (nI (gs_sum (gs_u S) k))), (3, .int (nI k))]) (st' := [.int what]) (w' := gd_rI w 27 (upd (w.1 27) 0 0)) rfl ?_
      refine gd_r E K 1 (pc' := if what = 0 then 36 else 43) (lv' := [(0, .ref 27), (1, .int what), (2, .int (nI (gs_sum (gs_u S) k))), (3, .int (nI k))]) (st' := []) (w' := gd_rI w 27 (upd (w.1 27) 0 0)) rfl ?_
      refine gd_ite (fun h1 => ?_) (fun h1 => ?_)
      · refine gd_r E K 3 (pc' := 56) (lv' := [(0, .ref 27), (1, .int what), (2, .int (nI (gs_sum (gs_u S) k))), (3, .int (nI k))]) (st' := [.int (w.1 27 12)]) (w' := gd_rI w 27 (upd (w.1 27) 0 0)) rfl ?_
        exact gd_iretp E hr hlk (K.1 56 (.ireturn, 0) rfl).1 (gs_mp_code hR 0 rfl (by rw [gs_unitv, if_pos h1, hR.2.2.2.2.2.2.2.2.2.2.1.1]))
      · refine gd_r E K 2 (pc' := 45) (lv' := [(0, .ref 27), (1, .int what), (2, .int (nI (gs_sum (gs_u S) k))), (3, .int (nI k))]) (st' := [.int 1, .int what]) (w' := gd_rI w 27 (upd (w.1 27) 0 0)) rfl ?_
        refine gd_r E K 1 (pc' := if what = 1 then 48 else 55) (lv' := [(0, .ref 27), (1, .int what), (2, .int (nI (gs_sum (gs_u S) k))), (3, .int (nI k))]) (st' := []) (w' := gd_rI w 27 (upd (w.1 27) 0 0)) rfl ?_
        refine gd_ite (fun h2 => ?_) (fun h2 => ?_)
        · refine gd_r E K 3 (pc' := 56) (lv' := [(0, .ref 27), (1, .int what), (2, .int (nI (gs_sum (gs_u S) k))), (3, .int (nI k))]) (st' := [.int (w.1 27 13)]) (w' := gd_rI w 27 (upd (w.1 27) 0 0)) rfl ?_
          exact gd_iretp E hr hlk (K.1 56 (.ireturn, 0) rfl).1 (gs_mp_code hR 0 rfl (by rw [gs_unitv, if_neg h1, if_pos h2, hR.2.2.2.2.2.2.2.2.2.2.2.1.1]))
        · refine gd_r E K 1 (pc' := 56) (lv' := [(0, .ref 27), (1, .int what), (2, .int (nI (gs_sum (gs_u S) k))), (3, .int (nI k))]) (st' := [.int (nI (gs_sum (gs_u S) k))]) (w' := gd_rI w 27 (upd (w.1 27) 0 0)) rfl ?_
          exact gd_iretp E hr hlk (K.1 56 (.ireturn, 0) rfl).1 (gs_mp_code hR 0 rfl (by rw [gs_unitv, if_neg h1, if_neg h2, show k = gs_made S by omega]))
    | succ j ih =>
      intro k hk
      refine gd_r E K 3 (pc' := 14) (lv' := [(0, .ref 27), (1, .int what), (2, .int (nI (gs_sum (gs_u S) k))), (3, .int (nI k))]) (st' := [.int (w.1 27 3), .int (nI k)]) (w' := gd_rI w 27 (upd (w.1 27) 0 0)) rfl ?_
      refine gd_cg (lv' := [(0, .ref 27), (1, .int what), (2, .int (nI (gs_sum (gs_u S) k))), (3, .int (nI k))]) (st' := [.int (nI (gs_made S)), .int (nI k)]) (w' := gd_rI w 27 (upd (w.1 27) 0 0)) ?_ (rfl) (by simp only [hm]) rfl
      refine gd_r E K 1 (pc' := if (nI (gs_made S)) ≤ (nI k) then 32 else 17) (lv' := [(0, .ref 27), (1, .int what), (2, .int (nI (gs_sum (gs_u S) k))), (3, .int (nI k))]) (st' := []) (w' := gd_rI w 27 (upd (w.1 27) 0 0)) rfl ?_
      refine gd_if (nI_ge (by omega) (by omega)) ?_
      refine gd_r E K 4 (pc' := 23) (lv' := [(0, .ref 27), (1, .int what), (2, .int (nI (gs_sum (gs_u S) k))), (3, .int (nI k))]) (st' := [.int (nI k), .ref 29, .int (nI (gs_sum (gs_u S) k))]) (w' := gd_rI w 27 (upd (w.1 27) 0 0)) rfl ?_
      refine gd_ialdv E (K.1 23 (.iaload, 0) rfl).1 (j := k) (by decide) (rfl) (rfl) (by omega) (by decide) (v := nI (gs_u S k)) (((hR.code 0).2.1 k (by omega)).1) ?_
      refine gd_r E K 4 (pc' := 9) (lv' := [(0, .ref 27), (1, .int what), (2, .int ((nI (gs_sum (gs_u S) k)) + (nI (gs_u S k)))), (3, .int ((nI k) + 1))]) (st' := []) (w' := gd_rI w 27 (upd (w.1 27) 0 0)) rfl ?_
      exact gd_cg (ih (k + 1) (by omega)) (by rw [gs_sum, nI_1, nI_add]) rfl rfl
  refine gd_r E K 7 (pc' := 9) (lv' := [(0, .ref 27), (1, .int what), (2, .int 0), (3, .int 0)]) (st' := []) (w' := gd_rI w 27 (upd (w.1 27) 0 0)) rfl ?_
  exact gd_cg (loop (gs_made S) 0 (by omega)) rfl rfl rfl
def gs_cellv (S : gs_T) (x y kind : Int32) : Bool := decide (gm_has x y ≠ 0 ∧ ¬ kind < 0 ∧ ¬ 7 < kind ∧ gs_cnt (gs_u S) (gs_made S) = 0)
def gs_cellS (S : gs_T) (x y kind : Int32) : gs_T := if gs_cellv S x y kind then gs_kset S (8 * y + x).toNatClampNeg kind.toNatClampNeg else S
set_option maxRecDepth 100000 in
theorem c2_Mcell {l : Launch} {D : va_G} {tC : FieldType → ClassId} {ad : Nat → Nat} (hinj : ∀ i j, ad i = ad j → i = j) {S : gs_T} {G : Nat → Nat} (w : gd_W) (hR : gr_M w S G) (x y kind : Int32) : gd_Cp l D tC ad 45 1 22 y_M_cell c_M_cell 4 (some .boolean) [.ref 27, .int x, .int y, .int kind] w (gs_mp (gs_cellS S x y kind) 0 (.int (gs_b (gs_cellv S x y kind))) w) := by
  refine gd_Cp_of rfl hinj (Nat.le_of_ble_eq_true rfl) ?_
  intro p e s m args below meth c E hr hlk
  have K := k_M_cell
  have hA : ∀ q, gd_A ad 45 s.heap.size q → gd_A ad 45 s.heap.size q := fun _ h => h
  have hN := hR.1.2
  have hcl := gs_cnt_le (gs_u S) (gs_made S)
  refine gd_r E K 5 (pc' := 7) (lv' := [(0, .ref 27), (1, .int x), (2, .int y), (3, .int kind)]) (st' := [.int y, .int x]) (w' := gd_rI w 27 (upd (w.1 27) 0 0)) rfl ?_
  refine gd_cS E hA (av := [.int x, .int y]) (rest := []) (c2_isCell hinj x y _) (K.1 7 (.invokestatic 64, 0) rfl).1 ml_M_64 cv_M_isCell ⟨Nat.le_of_ble_eq_true rfl, Nat.le_of_ble_eq_true rfl⟩ ⟨Nat.zero_le _, Nat.zero_le _⟩ rfl (Nat.le_of_ble_eq_true rfl) ?_
  refine gd_r E K 1 (pc' := if (gm_has x y) = 0 then 30 else 13) (lv' := [(0, .ref 27), (1, .int x), (2, .int y), (3, .int kind)]) (st' := []) (w' := gd_rI w 27 (upd (w.1 27) 0 0)) rfl ?_
  refine gd_ite (fun h1 => ?_) (fun h1 => ?_)
  · refine gd_r E K 1 (pc' := 31) (lv' := [(0, .ref 27), (1, .int x), (2, .int y), (3, .int kind)]) (st' := [.int 0]) (w' := gd_rI w 27 (upd (w.1 27) 0 0)) rfl ?_
    have hcv : gs_cellv S x y kind = false := decide_eq_false (fun z => z.1 h1)
    exact gd_zretp E hr hlk (K.1 31 (.ireturn, 0) rfl).1 (by decide) (by rw [gs_cellS, hcv]; exact gs_mp_code hR 0 rfl rfl)
  · refine gd_r E K 1 (pc' := 14) (lv' := [(0, .ref 27), (1, .int x), (2, .int y), (3, .int kind)]) (st' := [.int kind]) (w' := gd_rI w 27 (upd (w.1 27) 0 0)) rfl ?_
    refine gd_r E K 1 (pc' := if kind < 0 then 30 else 17) (lv' := [(0, .ref 27), (1, .int x), (2, .int y), (3, .int kind)]) (st' := []) (w' := gd_rI w 27 (upd (w.1 27) 0 0)) rfl ?_
    refine gd_ite (fun h2 => ?_) (fun h2 => ?_)
    · refine gd_r E K 1 (pc' := 31) (lv' := [(0, .ref 27), (1, .int x), (2, .int y), (3, .int kind)]) (st' := [.int 0]) (w' := gd_rI w 27 (upd (w.1 27) 0 0)) rfl ?_
      have hcv : gs_cellv S x y kind = false := decide_eq_false (fun z => z.2.1 h2)
      exact gd_zretp E hr hlk (K.1 31 (.ireturn, 0) rfl).1 (by decide) (by rw [gs_cellS, hcv]; exact gs_mp_code hR 0 rfl rfl)
    · refine gd_r E K 2 (pc' := 20) (lv' := [(0, .ref 27), (1, .int x), (2, .int y), (3, .int kind)]) (st' := [.int 7, .int kind]) (w' := gd_rI w 27 (upd (w.1 27) 0 0)) rfl ?_
      refine gd_r E K 1 (pc' := if 7 < kind then 30 else 23) (lv' := [(0, .ref 27), (1, .int x), (2, .int y), (3, .int kind)]) (st' := []) (w' := gd_rI w 27 (upd (w.1 27) 0 0)) rfl ?_
      refine gd_ite (fun h3 => ?_) (fun h3 => ?_)
      · refine gd_r E K 1 (pc' := 31) (lv' := [(0, .ref 27), (1, .int x), (2, .int y), (3, .int kind)]) (st' := [.int 0]) (w' := gd_rI w 27 (upd (w.1 27) 0 0)) rfl ?_
        have hcv : gs_cellv S x y kind = false := decide_eq_false (fun z => z.2.2.1 h3)
        exact gd_zretp E hr hlk (K.1 31 (.ireturn, 0) rfl).1 (by decide) (by rw [gs_cellS, hcv]; exact gs_mp_code hR 0 rfl rfl)
      · refine gd_r E K 1 (pc' := 24) (lv' := [(0, .ref 27), (1, .int x), (2, .int y), (3, .int kind)]) (st' := [.ref 27]) (w' := gd_rI w 27 (upd (w.1 27) 0 0)) rfl ?_
        refine gd_cV E hA (av := []) (rest := []) (c2_count hinj _ (hR.code 0).U) (K.1 24 (.invokevirtual 71, 0) rfl).1 ml_M_71 cv_M_count (by decide) (rfl) ⟨Nat.le_of_ble_eq_true rfl, Nat.le_of_ble_eq_true rfl⟩ ⟨Nat.zero_le _, Nat.zero_le _⟩ rfl (Nat.le_of_ble_eq_true rfl) ?_
        by_cases h4 : gs_cnt (gs_u S) (gs_made S) = 0
        · refine gd_r E K 1 (pc' := if (nI (gs_cnt (gs_u S) (gs_made S))) ≤ 0 then 32 else 30) (lv' := [(0, .ref 27), (1, .int x), (2, .int y), (3, .int kind)]) (st' := []) (w' := gd_rI w 27 (upd (w.1 27) 0 0)) rfl ?_
          refine gd_it ((gd_le0 (by omega)).mpr h4) ?_
          have hcv : gs_cellv S x y kind = true := decide_eq_true ⟨h1, h2, h3, h4⟩
          obtain ⟨a, b, ha, hb, rfl, rfl⟩ := gm_has_1 h1
          obtain ⟨k, hk, rfl⟩ := nI_of h2
          have hk8 : k < 8 := by rw [show (7 : Int32) = nI 7 from rfl, nI_ltI (by decide) hk] at h3; omega
          refine gd_r E K 8 (pc' := 43) (lv' := [(0, .ref 27), (1, .int (nI a)), (2, .int (nI b)), (3, .int (nI k))]) (st' := [.int (nI k), .int ((8 * (nI b)) + (nI a)), .ref 28]) (w' := gd_rI w 27 (upd (w.1 27) 0 0)) rfl ?_
          refine gd_iast E (K.1 43 (.iastore, 0) rfl).1 (j := 8 * b + a) (by decide) (rfl) (gm_at_eq a b) (by omega) (by decide) ?_
          refine gd_r E K 1 (pc' := 45) (lv' := [(0, .ref 27), (1, .int (nI a)), (2, .int (nI b)), (3, .int (nI k))]) (st' := [.int 1]) (w' := gd_rI (gd_rI w 27 (upd (w.1 27) 0 0)) 28 (upd ((gd_rI w 27 (upd (w.1 27) 0 0)).1 28) (8 * b + a) (nI k))) rfl ?_
          exact gd_zretp E hr hlk (K.1 45 (.ireturn, 0) rfl).1 (by decide) (by rw [gs_cellS, hcv, if_pos rfl, gm_at_eq, nI_clamp (by omega), nI_clamp hk]; exact ⟨rfl, rfl, ⟨G, (hR.code 0).kset (8 * b + a) k hk8⟩, (gf_m.I w (by decide) _).trans (gf_m.I _ (by decide) _)⟩)
        · refine gd_r E K 1 (pc' := if (nI (gs_cnt (gs_u S) (gs_made S))) ≤ 0 then 32 else 30) (lv' := [(0, .ref 27), (1, .int x), (2, .int y), (3, .int kind)]) (st' := []) (w' := gd_rI w 27 (upd (w.1 27) 0 0)) rfl ?_
          refine gd_if (fun q => absurd ((gd_le0 (by omega)).mp q) h4) ?_
          refine gd_r E K 1 (pc' := 31) (lv' := [(0, .ref 27), (1, .int x), (2, .int y), (3, .int kind)]) (st' := [.int 0]) (w' := gd_rI w 27 (upd (w.1 27) 0 0)) rfl ?_
          have hcv : gs_cellv S x y kind = false := decide_eq_false (fun z => h4 z.2.2.2)
          exact gd_zretp E hr hlk (K.1 31 (.ireturn, 0) rfl).1 (by decide) (by rw [gs_cellS, hcv]; exact gs_mp_code hR 0 rfl rfl)
def gs_discc (S : gs_T) (d : Int32) : Nat := if gs_isd S d = false then 1 else if gs_free S d.toNatClampNeg = true ∧ gs_k S (gs_c S d.toNatClampNeg) = 2 then 0 else 2
def gs_discv (S : gs_T) (d : Int32) : Nat := if gs_discc S d = 0 then gs_u S d.toNatClampNeg else 0
def gs_discS (S : gs_T) (d : Int32) : gs_T := if gs_discc S d = 0 then gs_fd (gs_sc S 2 (gs_thr S + gs_u S d.toNatClampNeg)) 0 d.toNatClampNeg 0 else S
set_option maxRecDepth 100000 in
theorem c2_Mdiscard {l : Launch} {D : va_G} {tC : FieldType → ClassId} {ad : Nat → Nat} (hinj : ∀ i j, ad i = ad j → i = j) {S : gs_T} {G : Nat → Nat} (w : gd_W) (hR : gr_M w S G) (hthr : ∀ d, d < gs_made S → gs_thr S + gs_u S d ≤ 60) (d : Int32) : gd_Cp l D tC ad 45 2 44 y_M_discard c_M_discard 3 (some .int) [.ref 27, .int d] w (gs_mp (gs_discS S d) (gs_discc S d) (.int (nI (gs_discv S d))) w) := by
  refine gd_Cp_of rfl hinj (Nat.le_of_ble_eq_true rfl) ?_
  intro p e s m args below meth c E hr hlk
  have K := k_M_discard
  have hA : ∀ q, gd_A ad 45 s.heap.size q → gd_A ad 45 s.heap.size q := fun _ h => h
  have hN := hR.1.2
  refine gd_r E K 3 (pc' := 3) (lv' := [(0, .ref 27), (1, .int d)]) (st' := [.int d, .ref 27, .ref 27]) (w' := w) rfl ?_
  refine gd_cV E hA (av := [.int d]) (rest := [.ref 27]) (c2_isD hinj _ hR d) (K.1 3 (.invokevirtual 125, 0) rfl).1 ml_M_125 cv_M_isDrop (by decide) (rfl) ⟨Nat.le_of_ble_eq_true rfl, Nat.le_of_ble_eq_true rfl⟩ ⟨Nat.zero_le _, Nat.zero_le _⟩ rfl (Nat.le_of_ble_eq_true rfl) ?_
  cases hb : gs_isd S d with
  | true =>
    refine gd_r E K 1 (pc' := if (gs_b (true)) = 0 then 9 else 13) (lv' := [(0, .ref 27), (1, .int d)]) (st' := [.ref 27]) (w' := w) rfl ?_
    refine gd_if (by decide) ?_
    obtain ⟨k, hk, rfl, hu⟩ := gs_isd_t hN hb
    have hcl : (nI k).toNatClampNeg = k := nI_clamp (by omega)
    refine gd_r E K 2 (pc' := 15) (lv' := [(0, .ref 27), (1, .int (nI k))]) (st' := [.int (nI k), .ref 27, .ref 27]) (w' := w) rfl ?_
    refine gd_cV E hA (av := [.int (nI k)]) (rest := [.ref 27]) (c2_isFree hinj _ hR k hk) (K.1 15 (.invokevirtual 129, 0) rfl).1 ml_M_129 cv_M_isFree (by decide) (rfl) ⟨Nat.le_of_ble_eq_true rfl, Nat.le_of_ble_eq_true rfl⟩ ⟨Nat.zero_le _, Nat.zero_le _⟩ rfl (Nat.le_of_ble_eq_true rfl) ?_
    cases hfr : gs_free S k with
    | true =>
      refine gd_r E K 1 (pc' := if (gs_b (true)) = 0 then 40 else 21) (lv' := [(0, .ref 27), (1, .int (nI k))]) (st' := [.ref 27]) (w' := w) rfl ?_
      refine gd_if (by decide) ?_
      refine gd_r E K 5 (pc' := 30) (lv' := [(0, .ref 27), (1, .int (nI k))]) (st' := [.int (nI k), .ref 30, .ref 28, .ref 27]) (w' := w) rfl ?_
      obtain ⟨c1, c2⟩ := hR.2.2.1 k (by omega)
      obtain ⟨k1, k2⟩ := hR.2.2.2.2.2.2.1 (gs_c S k) c2
      refine gd_ialdv E (K.1 30 (.iaload, 0) rfl).1 (j := k) (by decide) (rfl) (rfl) (by omega) (by decide) (v := nI (gs_c S k)) (c1) ?_
      refine gd_ialdv E (K.1 31 (.iaload, 0) rfl).1 (j := gs_c S k) (by decide) (rfl) (rfl) (c2) (by decide) (v := nI (gs_k S (gs_c S k))) (k1) ?_
      refine gd_r E K 1 (pc' := 33) (lv' := [(0, .ref 27), (1, .int (nI k))]) (st' := [.int 2, .int (nI (gs_k S (gs_c S k))), .ref 27]) (w' := w) rfl ?_
      by_cases h2 : gs_k S (gs_c S k) = 2
      · refine gd_r E K 1 (pc' := if (nI (gs_k S (gs_c S k))) = 2 then 36 else 40) (lv' := [(0, .ref 27), (1, .int (nI k))]) (st' := [.ref 27]) (w' := w) rfl ?_
        refine gd_it (by rw [h2]; rfl) ?_
        refine gd_r E K 9 (pc' := 58) (lv' := [(0, .ref 27), (1, .int (nI k))]) (st' := [.int (nI k), .ref 29]) (w' := gd_rI w 27 (upd (w.1 27) 0 0)) rfl ?_
        have hcv : gs_discc S (nI k) = 0 := by rw [gs_discc, if_neg (by rw [hb]; decide), hcl, if_pos ⟨hfr, h2⟩]
        obtain ⟨u1, u2⟩ := (hR.code 0).2.1 k (by omega)
        have ht := (hR.2.2.2.2.2.2.2.2.2.2.2.1).1
        refine gd_ialdv E (K.1 58 (.iaload, 0) rfl).1 (j := k) (by decide) (rfl) (rfl) (by omega) (by decide) (v := nI (gs_u S k)) (u1) ?_
        refine gd_r E K 6 (pc' := 67) (lv' := [(0, .ref 27), (1, .int (nI k)), (2, .int (nI (gs_u S k)))]) (st' := [.int ((w.1 27 13) + (nI (gs_u S k))), .ref 27]) (w' := gd_rI w 27 (upd (w.1 27) 0 0)) rfl ?_
        refine gd_cg (lv' := [(0, .ref 27), (1, .int (nI k)), (2, .int (nI (gs_u S k)))]) (st' := [.int ((nI (gs_thr S)) + (nI (gs_u S k))), .ref 27]) (w' := gd_rI w 27 (upd (w.1 27) 0 0)) ?_ (rfl) (by simp only [ht]) rfl
        refine gd_cg (lv' := [(0, .ref 27), (1, .int (nI k)), (2, .int (nI (gs_u S k)))]) (st' := [.int (nI (gs_thr S + gs_u S k)), .ref 27]) (w' := gd_rI w 27 (upd (w.1 27) 0 0)) ?_ (rfl) (by rw [nI_add]) (rfl)
        refine gd_r E K 5 (pc' := 76) (lv' := [(0, .ref 27), (1, .int (nI k)), (2, .int (nI (gs_u S k)))]) (st' := [.int 0, .int (nI k), .ref 29]) (w' := gd_rI (gd_rI w 27 (upd (w.1 27) 0 0)) 27 (upd ((gd_rI w 27 (upd (w.1 27) 0 0)).1 27) 13 (nI (gs_thr S + gs_u S k)))) rfl ?_
        refine gd_iast E (K.1 76 (.iastore, 0) rfl).1 (j := k) (by decide) (rfl) (rfl) (by omega) (by decide) ?_
        refine gd_r E K 1 (pc' := 78) (lv' := [(0, .ref 27), (1, .int (nI k)), (2, .int (nI (gs_u S k)))]) (st' := [.int (nI (gs_u S k))]) (w' := gd_rI (gd_rI (gd_rI w 27 (upd (w.1 27) 0 0)) 27 (upd ((gd_rI w 27 (upd (w.1 27) 0 0)).1 27) 13 (nI (gs_thr S + gs_u S k)))) 29 (upd ((gd_rI (gd_rI w 27 (upd (w.1 27) 0 0)) 27 (upd ((gd_rI w 27 (upd (w.1 27) 0 0)).1 27) 13 (nI (gs_thr S + gs_u S k)))).1 29) k 0)) rfl ?_
        exact gd_iretp E hr hlk (K.1 78 (.ireturn, 0) rfl).1 (by rw [gs_discS, gs_discv, hcv, if_pos rfl, if_pos rfl, hcl]; exact ⟨rfl, rfl, ⟨G, ((hR.code 0).thr (gs_thr S + gs_u S k) (hthr k hk)).f0 k 0 (by decide)⟩, (gf_m.I w (by decide) _).trans ((gf_m.I _ (by decide) _).trans (gf_m.I _ (by decide) _))⟩)
      · refine gd_r E K 1 (pc' := if (nI (gs_k S (gs_c S k))) = 2 then 36 else 40) (lv' := [(0, .ref 27), (1, .int (nI k))]) (st' := [.ref 27]) (w' := w) rfl ?_
        refine gd_if (by rw [show (2 : Int32) = nI 2 from rfl, nI_eq (by omega) (by decide)]; exact h2) ?_
        refine gd_r E K 6 (pc' := 52) (lv' := [(0, .ref 27), (1, .int (nI k))]) (st' := [.int 0]) (w' := gd_rI w 27 (upd (w.1 27) 0 2)) rfl ?_
        have hcv : gs_discc S (nI k) = 2 := by rw [gs_discc, if_neg (by rw [hb]; decide), hcl, if_neg (fun z => h2 z.2)]
        exact gd_iretp E hr hlk (K.1 52 (.ireturn, 0) rfl).1 (by rw [gs_discS, gs_discv, hcv]; exact gs_mp_code hR 2 rfl rfl)
    | false =>
      refine gd_r E K 1 (pc' := if (gs_b (false)) = 0 then 40 else 21) (lv' := [(0, .ref 27), (1, .int (nI k))]) (st' := [.ref 27]) (w' := w) rfl ?_
      refine gd_it (by decide) ?_
      refine gd_r E K 6 (pc' := 52) (lv' := [(0, .ref 27), (1, .int (nI k))]) (st' := [.int 0]) (w' := gd_rI w 27 (upd (w.1 27) 0 2)) rfl ?_
      have hcv : gs_discc S (nI k) = 2 := by rw [gs_discc, if_neg (by rw [hb]; decide), hcl, if_neg (fun z => by rw [hfr] at z; cases z.1)]
      exact gd_iretp E hr hlk (K.1 52 (.ireturn, 0) rfl).1 (by rw [gs_discS, gs_discv, hcv]; exact gs_mp_code hR 2 rfl rfl)
  | false =>
    refine gd_r E K 1 (pc' := if (gs_b (false)) = 0 then 9 else 13) (lv' := [(0, .ref 27), (1, .int d)]) (st' := [.ref 27]) (w' := w) rfl ?_
    refine gd_it (by decide) ?_
    refine gd_r E K 7 (pc' := 52) (lv' := [(0, .ref 27), (1, .int d)]) (st' := [.int 0]) (w' := gd_rI w 27 (upd (w.1 27) 0 1)) rfl ?_
    have hcv : gs_discc S d = 1 := by rw [gs_discc, if_pos hb]
    exact gd_iretp E hr hlk (K.1 52 (.ireturn, 0) rfl).1 (by rw [gs_discS, gs_discv, hcv]; exact gs_mp_code hR 1 rfl rfl)
set_option maxRecDepth 100000 in
theorem c2_Madd {l : Launch} {D : va_G} {tC : FieldType → ClassId} {ad : Nat → Nat} (hinj : ∀ i j, ad i = ad j → i = j) {S : gs_T} {G : Nat → Nat} (w : gd_W) (hR : gr_M w S G) (c0 u : Nat) (hc : c0 < 64) (hu : u ≤ 2) (hN : gs_made S < 60) : gd_Cp l D tC ad 45 0 0 y_M_add c_M_add 3 (some .int) [.ref 27, .int (nI c0), .int (nI u)] w (fun r w' => r = some (.int (nI (gs_made S))) ∧ (∃ G', gr_M w' (gs_add S c0 u) G') ∧ gf_m w w' ∧ w'.1 27 0 = w.1 27 0) := by
  refine gd_Cp_of rfl hinj (Nat.le_of_ble_eq_true rfl) ?_
  intro p e s m args below meth c E hr hlk
  have K := k_M_add
  have hA : ∀ q, gd_A ad 45 s.heap.size q → gd_A ad 45 s.heap.size q := fun _ h => h
  have hm := hR.1.1
  refine gd_r E K 5 (pc' := 9) (lv' := [(0, .ref 27), (1, .int (nI c0)), (2, .int (nI u))]) (st' := [.int (nI u), .int (w.1 27 3), .ref 29]) (w' := w) rfl ?_
  refine gd_cg (lv' := [(0, .ref 27), (1, .int (nI c0)), (2, .int (nI u))]) (st' := [.int (nI u), .int (nI (gs_made S)), .ref 29]) (w' := w) ?_ (rfl) (by simp only [hm]) rfl
  refine gd_iast E (K.1 9 (.iastore, 0) rfl).1 (j := gs_made S) (by decide) (rfl) (rfl) (hN) (by decide) ?_
  refine gd_r E K 5 (pc' := 19) (lv' := [(0, .ref 27), (1, .int (nI c0)), (2, .int (nI u))]) (st' := [.int (nI c0), .int (w.1 27 3), .ref 30]) (w' := gd_rI w 29 (upd (w.1 29) (gs_made S) (nI u))) rfl ?_
  refine gd_cg (lv' := [(0, .ref 27), (1, .int (nI c0)), (2, .int (nI u))]) (st' := [.int (nI c0), .int (nI (gs_made S)), .ref 30]) (w' := gd_rI w 29 (upd (w.1 29) (gs_made S) (nI u))) ?_ (rfl) (by simp only [hm]) rfl
  refine gd_iast E (K.1 19 (.iastore, 0) rfl).1 (j := gs_made S) (by decide) (rfl) (rfl) (hN) (by decide) ?_
  refine gd_r E K 5 (pc' := 29) (lv' := [(0, .ref 27), (1, .int (nI c0)), (2, .int (nI u))]) (st' := [.int 0, .int (w.1 27 3), .ref 34]) (w' := gd_rI (gd_rI w 29 (upd (w.1 29) (gs_made S) (nI u))) 30 (upd ((gd_rI w 29 (upd (w.1 29) (gs_made S) (nI u))).1 30) (gs_made S) (nI c0))) rfl ?_
  refine gd_cg (lv' := [(0, .ref 27), (1, .int (nI c0)), (2, .int (nI u))]) (st' := [.int 0, .int (nI (gs_made S)), .ref 34]) (w' := gd_rI (gd_rI w 29 (upd (w.1 29) (gs_made S) (nI u))) 30 (upd ((gd_rI w 29 (upd (w.1 29) (gs_made S) (nI u))).1 30) (gs_made S) (nI c0))) ?_ (rfl) (by simp only [hm]) rfl
  refine gd_iast E (K.1 29 (.iastore, 0) rfl).1 (j := gs_made S) (by decide) (rfl) (rfl) (hN) (by decide) ?_
  refine gd_r E K 5 (pc' := 39) (lv' := [(0, .ref 27), (1, .int (nI c0)), (2, .int (nI u))]) (st' := [.int 0, .int (w.1 27 3), .ref 35]) (w' := gd_rI (gd_rI (gd_rI w 29 (upd (w.1 29) (gs_made S) (nI u))) 30 (upd ((gd_rI w 29 (upd (w.1 29) (gs_made S) (nI u))).1 30) (gs_made S) (nI c0))) 34 (upd ((gd_rI (gd_rI w 29 (upd (w.1 29) (gs_made S) (nI u))) 30 (upd ((gd_rI w 29 (upd (w.1 29) (gs_made S) (nI u))).1 30) (gs_made S) (nI c0))).1 34) (gs_made S) 0)) rfl ?_
  refine gd_cg (lv' := [(0, .ref 27), (1, .int (nI c0)), (2, .int (nI u))]) (st' := [.int 0, .int (nI (gs_made S)), .ref 35]) (w' := gd_rI (gd_rI (gd_rI w 29 (upd (w.1 29) (gs_made S) (nI u))) 30 (upd ((gd_rI w 29 (upd (w.1 29) (gs_made S) (nI u))).1 30) (gs_made S) (nI c0))) 34 (upd ((gd_rI (gd_rI w 29 (upd (w.1 29) (gs_made S) (nI u))) 30 (upd ((gd_rI w 29 (upd (w.1 29) (gs_made S) (nI u))).1 30) (gs_made S) (nI c0))).1 34) (gs_made S) 0)) ?_ (rfl) (by simp only [hm]) rfl
  refine gd_iast E (K.1 39 (.iastore, 0) rfl).1 (j := gs_made S) (by decide) (rfl) (rfl) (hN) (by decide) ?_
  refine gd_r E K 5 (pc' := 49) (lv' := [(0, .ref 27), (1, .int (nI c0)), (2, .int (nI u))]) (st' := [.int 0, .int (w.1 27 3), .ref 36]) (w' := gd_rI (gd_rI (gd_rI (gd_rI w 29 (upd (w.1 29) (gs_made S) (nI u))) 30 (upd ((gd_rI w 29 (upd (w.1 29) (gs_made S) (nI u))).1 30) (gs_made S) (nI c0))) 34 (upd ((gd_rI (gd_rI w 29 (upd (w.1 29) (gs_made S) (nI u))) 30 (upd ((gd_rI w 29 (upd (w.1 29) (gs_made S) (nI u))).1 30) (gs_made S) (nI c0))).1 34) (gs_made S) 0)) 35 (upd ((gd_rI (gd_rI (gd_rI w 29 (upd (w.1 29) (gs_made S) (nI u))) 30 (upd ((gd_rI w 29 (upd (w.1 29) (gs_made S) (nI u))).1 30) (gs_made S) (nI c0))) 34 (upd ((gd_rI (gd_rI w 29 (upd (w.1 29) (gs_made S) (nI u))) 30 (upd ((gd_rI w 29 (upd (w.1 29) (gs_made S) (nI u))).1 30) (gs_made S) (nI c0))).1 34) (gs_made S) 0)).1 35) (gs_made S) 0)) rfl ?_
  refine gd_cg (lv' := [(0, .ref 27), (1, .int (nI c0)), (2, .int (nI u))]) (st' := [.int 0, .int (nI (gs_made S)), .ref 36]) (w' := gd_rI (gd_rI (gd_rI (gd_rI w 29 (upd (w.1 29) (gs_made S) (nI u))) 30 (upd ((gd_rI w 29 (upd (w.1 29) (gs_made S) (nI u))).1 30) (gs_made S) (nI c0))) 34 (upd ((gd_rI (gd_rI w 29 (upd (w.1 29) (gs_made S) (nI u))) 30 (upd ((gd_rI w 29 (upd (w.1 29) (gs_made S) (nI u))).1 30) (gs_made S) (nI c0))).1 34) (gs_made S) 0)) 35 (upd ((gd_rI (gd_rI (gd_rI w 29 (upd (w.1 29) (gs_made S) (nI u))) 30 (upd ((gd_rI w 29 (upd (w.1 29) (gs_made S) (nI u))).1 30) (gs_made S) (nI c0))) 34 (upd ((gd_rI (gd_rI w 29 (upd (w.1 29) (gs_made S) (nI u))) 30 (upd ((gd_rI w 29 (upd (w.1 29) (gs_made S) (nI u))).1 30) (gs_made S) (nI c0))).1 34) (gs_made S) 0)).1 35) (gs_made S) 0)) ?_ (rfl) (by simp only [hm]) rfl
  refine gd_iast E (K.1 49 (.iastore, 0) rfl).1 (j := gs_made S) (by decide) (rfl) (rfl) (hN) (by decide) ?_
  refine gd_r E K 4 (pc' := 56) (lv' := [(0, .ref 27), (1, .int (nI c0)), (2, .int (nI u))]) (st' := [.int 1, .int (w.1 27 3), .ref 27]) (w' := gd_rI (gd_rI (gd_rI (gd_rI (gd_rI w 29 (upd (w.1 29) (gs_made S) (nI u))) 30 (upd ((gd_rI w 29 (upd (w.1 29) (gs_made S) (nI u))).1 30) (gs_made S) (nI c0))) 34 (upd ((gd_rI (gd_rI w 29 (upd (w.1 29) (gs_made S) (nI u))) 30 (upd ((gd_rI w 29 (upd (w.1 29) (gs_made S) (nI u))).1 30) (gs_made S) (nI c0))).1 34) (gs_made S) 0)) 35 (upd ((gd_rI (gd_rI (gd_rI w 29 (upd (w.1 29) (gs_made S) (nI u))) 30 (upd ((gd_rI w 29 (upd (w.1 29) (gs_made S) (nI u))).1 30) (gs_made S) (nI c0))) 34 (upd ((gd_rI (gd_rI w 29 (upd (w.1 29) (gs_made S) (nI u))) 30 (upd ((gd_rI w 29 (upd (w.1 29) (gs_made S) (nI u))).1 30) (gs_made S) (nI c0))).1 34) (gs_made S) 0)).1 35) (gs_made S) 0)) 36 (upd ((gd_rI (gd_rI (gd_rI (gd_rI w 29 (upd (w.1 29) (gs_made S) (nI u))) 30 (upd ((gd_rI w 29 (upd (w.1 29) (gs_made S) (nI u))).1 30) (gs_made S) (nI c0))) 34 (upd ((gd_rI (gd_rI w 29 (upd (w.1 29) (gs_made S) (nI u))) 30 (upd ((gd_rI w 29 (upd (w.1 29) (gs_made S) (nI u))).1 30) (gs_made S) (nI c0))).1 34) (gs_made S) 0)) 35 (upd ((gd_rI (gd_rI (gd_rI w 29 (upd (w.1 29) (gs_made S) (nI u))) 30 (upd ((gd_rI w 29 (upd (w.1 29) (gs_made S) (nI u))).1 30) (gs_made S) (nI c0))) 34 (upd ((gd_rI (gd_rI w 29 (upd (w.1 29) (gs_made S) (nI u))) 30 (upd ((gd_rI w 29 (upd (w.1 29) (gs_made S) (nI u))).1 30) (gs_made S) (nI c0))).1 34) (gs_made S) 0)).1 35) (gs_made S) 0)).1 36) (gs_made S) 0)) rfl ?_
  refine gd_cg (lv' := [(0, .ref 27), (1, .int (nI c0)), (2, .int (nI u))]) (st' := [.int 1, .int (nI (gs_made S)), .ref 27]) (w' := gd_rI (gd_rI (gd_rI (gd_rI (gd_rI w 29 (upd (w.1 29) (gs_made S) (nI u))) 30 (upd ((gd_rI w 29 (upd (w.1 29) (gs_made S) (nI u))).1 30) (gs_made S) (nI c0))) 34 (upd ((gd_rI (gd_rI w 29 (upd (w.1 29) (gs_made S) (nI u))) 30 (upd ((gd_rI w 29 (upd (w.1 29) (gs_made S) (nI u))).1 30) (gs_made S) (nI c0))).1 34) (gs_made S) 0)) 35 (upd ((gd_rI (gd_rI (gd_rI w 29 (upd (w.1 29) (gs_made S) (nI u))) 30 (upd ((gd_rI w 29 (upd (w.1 29) (gs_made S) (nI u))).1 30) (gs_made S) (nI c0))) 34 (upd ((gd_rI (gd_rI w 29 (upd (w.1 29) (gs_made S) (nI u))) 30 (upd ((gd_rI w 29 (upd (w.1 29) (gs_made S) (nI u))).1 30) (gs_made S) (nI c0))).1 34) (gs_made S) 0)).1 35) (gs_made S) 0)) 36 (upd ((gd_rI (gd_rI (gd_rI (gd_rI w 29 (upd (w.1 29) (gs_made S) (nI u))) 30 (upd ((gd_rI w 29 (upd (w.1 29) (gs_made S) (nI u))).1 30) (gs_made S) (nI c0))) 34 (upd ((gd_rI (gd_rI w 29 (upd (w.1 29) (gs_made S) (nI u))) 30 (upd ((gd_rI w 29 (upd (w.1 29) (gs_made S) (nI u))).1 30) (gs_made S) (nI c0))).1 34) (gs_made S) 0)) 35 (upd ((gd_rI (gd_rI (gd_rI w 29 (upd (w.1 29) (gs_made S) (nI u))) 30 (upd ((gd_rI w 29 (upd (w.1 29) (gs_made S) (nI u))).1 30) (gs_made S) (nI c0))) 34 (upd ((gd_rI (gd_rI w 29 (upd (w.1 29) (gs_made S) (nI u))) 30 (upd ((gd_rI w 29 (upd (w.1 29) (gs_made S) (nI u))).1 30) (gs_made S) (nI c0))).1 34) (gs_made S) 0)).1 35) (gs_made S) 0)).1 36) (gs_made S) 0)) ?_ (rfl) (by simp only [hm]) rfl
  refine gd_r E K 1 (pc' := 57) (lv' := [(0, .ref 27), (1, .int (nI c0)), (2, .int (nI u))]) (st' := [.int ((nI (gs_made S)) + 1), .ref 27]) (w' := gd_rI (gd_rI (gd_rI (gd_rI (gd_rI w 29 (upd (w.1 29) (gs_made S) (nI u))) 30 (upd ((gd_rI w 29 (upd (w.1 29) (gs_made S) (nI u))).1 30) (gs_made S) (nI c0))) 34 (upd ((gd_rI (gd_rI w 29 (upd (w.1 29) (gs_made S) (nI u))) 30 (upd ((gd_rI w 29 (upd (w.1 29) (gs_made S) (nI u))).1 30) (gs_made S) (nI c0))).1 34) (gs_made S) 0)) 35 (upd ((gd_rI (gd_rI (gd_rI w 29 (upd (w.1 29) (gs_made S) (nI u))) 30 (upd ((gd_rI w 29 (upd (w.1 29) (gs_made S) (nI u))).1 30) (gs_made S) (nI c0))) 34 (upd ((gd_rI (gd_rI w 29 (upd (w.1 29) (gs_made S) (nI u))) 30 (upd ((gd_rI w 29 (upd (w.1 29) (gs_made S) (nI u))).1 30) (gs_made S) (nI c0))).1 34) (gs_made S) 0)).1 35) (gs_made S) 0)) 36 (upd ((gd_rI (gd_rI (gd_rI (gd_rI w 29 (upd (w.1 29) (gs_made S) (nI u))) 30 (upd ((gd_rI w 29 (upd (w.1 29) (gs_made S) (nI u))).1 30) (gs_made S) (nI c0))) 34 (upd ((gd_rI (gd_rI w 29 (upd (w.1 29) (gs_made S) (nI u))) 30 (upd ((gd_rI w 29 (upd (w.1 29) (gs_made S) (nI u))).1 30) (gs_made S) (nI c0))).1 34) (gs_made S) 0)) 35 (upd ((gd_rI (gd_rI (gd_rI w 29 (upd (w.1 29) (gs_made S) (nI u))) 30 (upd ((gd_rI w 29 (upd (w.1 29) (gs_made S) (nI u))).1 30) (gs_made S) (nI c0))) 34 (upd ((gd_rI (gd_rI w 29 (upd (w.1 29) (gs_made S) (nI u))) 30 (upd ((gd_rI w 29 (upd (w.1 29) (gs_made S) (nI u))).1 30) (gs_made S) (nI c0))).1 34) (gs_made S) 0)).1 35) (gs_made S) 0)).1 36) (gs_made S) 0)) rfl ?_
  refine gd_cg (lv' := [(0, .ref 27), (1, .int (nI c0)), (2, .int (nI u))]) (st' := [.int (nI (gs_made S + 1)), .ref 27]) (w' := gd_rI (gd_rI (gd_rI (gd_rI (gd_rI w 29 (upd (w.1 29) (gs_made S) (nI u))) 30 (upd ((gd_rI w 29 (upd (w.1 29) (gs_made S) (nI u))).1 30) (gs_made S) (nI c0))) 34 (upd ((gd_rI (gd_rI w 29 (upd (w.1 29) (gs_made S) (nI u))) 30 (upd ((gd_rI w 29 (upd (w.1 29) (gs_made S) (nI u))).1 30) (gs_made S) (nI c0))).1 34) (gs_made S) 0)) 35 (upd ((gd_rI (gd_rI (gd_rI w 29 (upd (w.1 29) (gs_made S) (nI u))) 30 (upd ((gd_rI w 29 (upd (w.1 29) (gs_made S) (nI u))).1 30) (gs_made S) (nI c0))) 34 (upd ((gd_rI (gd_rI w 29 (upd (w.1 29) (gs_made S) (nI u))) 30 (upd ((gd_rI w 29 (upd (w.1 29) (gs_made S) (nI u))).1 30) (gs_made S) (nI c0))).1 34) (gs_made S) 0)).1 35) (gs_made S) 0)) 36 (upd ((gd_rI (gd_rI (gd_rI (gd_rI w 29 (upd (w.1 29) (gs_made S) (nI u))) 30 (upd ((gd_rI w 29 (upd (w.1 29) (gs_made S) (nI u))).1 30) (gs_made S) (nI c0))) 34 (upd ((gd_rI (gd_rI w 29 (upd (w.1 29) (gs_made S) (nI u))) 30 (upd ((gd_rI w 29 (upd (w.1 29) (gs_made S) (nI u))).1 30) (gs_made S) (nI c0))).1 34) (gs_made S) 0)) 35 (upd ((gd_rI (gd_rI (gd_rI w 29 (upd (w.1 29) (gs_made S) (nI u))) 30 (upd ((gd_rI w 29 (upd (w.1 29) (gs_made S) (nI u))).1 30) (gs_made S) (nI c0))) 34 (upd ((gd_rI (gd_rI w 29 (upd (w.1 29) (gs_made S) (nI u))) 30 (upd ((gd_rI w 29 (upd (w.1 29) (gs_made S) (nI u))).1 30) (gs_made S) (nI c0))).1 34) (gs_made S) 0)).1 35) (gs_made S) 0)).1 36) (gs_made S) 0)) ?_ (rfl) (by rw [nI_1]) (rfl)
  refine gd_r E K 5 (pc' := 66) (lv' := [(0, .ref 27), (1, .int (nI c0)), (2, .int (nI u))]) (st' := [.int ((nI (gs_made S + 1)) - 1)]) (w' := gd_rI (gd_rI (gd_rI (gd_rI (gd_rI (gd_rI w 29 (upd (w.1 29) (gs_made S) (nI u))) 30 (upd ((gd_rI w 29 (upd (w.1 29) (gs_made S) (nI u))).1 30) (gs_made S) (nI c0))) 34 (upd ((gd_rI (gd_rI w 29 (upd (w.1 29) (gs_made S) (nI u))) 30 (upd ((gd_rI w 29 (upd (w.1 29) (gs_made S) (nI u))).1 30) (gs_made S) (nI c0))).1 34) (gs_made S) 0)) 35 (upd ((gd_rI (gd_rI (gd_rI w 29 (upd (w.1 29) (gs_made S) (nI u))) 30 (upd ((gd_rI w 29 (upd (w.1 29) (gs_made S) (nI u))).1 30) (gs_made S) (nI c0))) 34 (upd ((gd_rI (gd_rI w 29 (upd (w.1 29) (gs_made S) (nI u))) 30 (upd ((gd_rI w 29 (upd (w.1 29) (gs_made S) (nI u))).1 30) (gs_made S) (nI c0))).1 34) (gs_made S) 0)).1 35) (gs_made S) 0)) 36 (upd ((gd_rI (gd_rI (gd_rI (gd_rI w 29 (upd (w.1 29) (gs_made S) (nI u))) 30 (upd ((gd_rI w 29 (upd (w.1 29) (gs_made S) (nI u))).1 30) (gs_made S) (nI c0))) 34 (upd ((gd_rI (gd_rI w 29 (upd (w.1 29) (gs_made S) (nI u))) 30 (upd ((gd_rI w 29 (upd (w.1 29) (gs_made S) (nI u))).1 30) (gs_made S) (nI c0))).1 34) (gs_made S) 0)) 35 (upd ((gd_rI (gd_rI (gd_rI w 29 (upd (w.1 29) (gs_made S) (nI u))) 30 (upd ((gd_rI w 29 (upd (w.1 29) (gs_made S) (nI u))).1 30) (gs_made S) (nI c0))) 34 (upd ((gd_rI (gd_rI w 29 (upd (w.1 29) (gs_made S) (nI u))) 30 (upd ((gd_rI w 29 (upd (w.1 29) (gs_made S) (nI u))).1 30) (gs_made S) (nI c0))).1 34) (gs_made S) 0)).1 35) (gs_made S) 0)).1 36) (gs_made S) 0)) 27 (upd ((gd_rI (gd_rI (gd_rI (gd_rI (gd_rI w 29 (upd (w.1 29) (gs_made S) (nI u))) 30 (upd ((gd_rI w 29 (upd (w.1 29) (gs_made S) (nI u))).1 30) (gs_made S) (nI c0))) 34 (upd ((gd_rI (gd_rI w 29 (upd (w.1 29) (gs_made S) (nI u))) 30 (upd ((gd_rI w 29 (upd (w.1 29) (gs_made S) (nI u))).1 30) (gs_made S) (nI c0))).1 34) (gs_made S) 0)) 35 (upd ((gd_rI (gd_rI (gd_rI w 29 (upd (w.1 29) (gs_made S) (nI u))) 30 (upd ((gd_rI w 29 (upd (w.1 29) (gs_made S) (nI u))).1 30) (gs_made S) (nI c0))) 34 (upd ((gd_rI (gd_rI w 29 (upd (w.1 29) (gs_made S) (nI u))) 30 (upd ((gd_rI w 29 (upd (w.1 29) (gs_made S) (nI u))).1 30) (gs_made S) (nI c0))).1 34) (gs_made S) 0)).1 35) (gs_made S) 0)) 36 (upd ((gd_rI (gd_rI (gd_rI (gd_rI w 29 (upd (w.1 29) (gs_made S) (nI u))) 30 (upd ((gd_rI w 29 (upd (w.1 29) (gs_made S) (nI u))).1 30) (gs_made S) (nI c0))) 34 (upd ((gd_rI (gd_rI w 29 (upd (w.1 29) (gs_made S) (nI u))) 30 (upd ((gd_rI w 29 (upd (w.1 29) (gs_made S) (nI u))).1 30) (gs_made S) (nI c0))).1 34) (gs_made S) 0)) 35 (upd ((gd_rI (gd_rI (gd_rI w 29 (upd (w.1 29) (gs_made S) (nI u))) 30 (upd ((gd_rI w 29 (upd (w.1 29) (gs_made S) (nI u))).1 30) (gs_made S) (nI c0))) 34 (upd ((gd_rI (gd_rI w 29 (upd (w.1 29) (gs_made S) (nI u))) 30 (upd ((gd_rI w 29 (upd (w.1 29) (gs_made S) (nI u))).1 30) (gs_made S) (nI c0))).1 34) (gs_made S) 0)).1 35) (gs_made S) 0)).1 36) (gs_made S) 0)).1 27) 3 (nI (gs_made S + 1)))) rfl ?_
  exact gd_iretp E hr hlk (K.1 66 (.ireturn, 0) rfl).1 (⟨by rw [nI_pred], ⟨_, ((((hR.f0 (gs_made S) u hu).f1 (gs_made S) c0 hc).lg (gs_made S)).f4 (gs_made S) 0 (by decide)).made (gs_made S + 1) (by omega)⟩, (gf_m.I w (by decide) _).trans ((gf_m.I _ (by decide) _).trans ((gf_m.I _ (by decide) _).trans ((gf_m.I _ (by decide) _).trans ((gf_m.I _ (by decide) _).trans (gf_m.I _ (by decide) _))))), rfl⟩)
end
section
abbrev gs_cn (S : gs_T) (d e : Option Nat) : Nat := (gs_ot (gs_u S) d e (gs_made S)).length
theorem gr_M.KK {w : gd_W} {S : gs_T} {G : Nat → Nat} (k : gr_M w S G) : gs_KK w S := k.2.2.2.2.2.2.1
theorem gf_r.M {w w' : gd_W} {S : gs_T} {G : Nat → Nat} (h : gf_r 42 w w') (k : gr_M w S G) : gr_M w' S G := by
  obtain ⟨h1, h3⟩ := h
  unfold gr_M at k ⊢
  rw [h1 27 (by decide), h1 29 (by decide), h1 30 (by decide), h1 34 (by decide), h1 35 (by decide), h1 33 (by decide), h1 36 (by decide), h1 28 (by decide), h1 32 (by decide), h1 37 (by decide), h1 38 (by decide), h1 39 (by decide), h1 40 (by decide), h3]
  exact k
theorem gs_lm_lt (f : Nat → Bool) : gs_lm f < 5 := by
  unfold gs_lm
  repeat' split
  all_goals decide
theorem gs_laid.m {w w' : gd_W} {d en : Nat} {mv : Nat → Nat} (h : gs_laid w w' d en mv) : gf_m w w' := ⟨fun a ha => ⟨h.1 a (by omega) (by omega) (by omega) (by omega) (by omega), by rw [h.2.1]⟩, by rw [h.2.1]⟩
/-- where a droplet of this liquid can be let out -/
def gs_srcf (S : gs_T) (k c : Nat) : Bool := decide (gs_k S c = 4 + k) && !gs_mtR (gs_T2 S none none) (gs_cn S none none) c 0
def gs_src (S : gs_T) (k : Nat) : Option Nat := gs_fst (gs_srcf S k) 0 64
def gs_full (S : gs_T) : Bool := decide (gs_cnt (gs_u S) (gs_made S) = 6 ∨ gs_made S = 60)
def gs_dispS (S : gs_T) (k c : Nat) : gs_T := gs_sc (gs_fd (gs_sh4 (gs_add S c 1) (gs_made S) (fun j => if j = k then 1 else 0)) 2 (gs_made S) 0) 1 (gs_out S + 1)
/-- the call: code, answer, state -/
def gs_disp (S : gs_T) (x : Int32) : Nat × Nat × gs_T := if x < 0 ∨ 4 ≤ x then (1, 0, S) else match gs_src S x.toNatClampNeg with
  | none => (2, 0, S)
  | some c => if gs_full S then (3, 0, S) else (0, gs_made S, gs_dispS S x.toNatClampNeg c)
theorem gs_fst_s (f : Nat → Bool) (n k : Nat) : gs_fst f n (k + 1) = if f n then some n else gs_fst f (n + 1) k := rfl
set_option maxRecDepth 100000 in
theorem c2_Mdispense {l : Launch} {D : va_G} {tC : FieldType → ClassId} {ad : Nat → Nat} (hinj : ∀ i j, ad i = ad j → i = j) {S : gs_T} {G : Nat → Nat} (w : gd_W) (hR : gr_M w S G) (hc6 : gs_cnt (gs_u S) (gs_made S) ≤ 6) (hv : ∀ k, gs_alive S k → gv_way S k) (hout : gs_made S < 60 → gs_out S < 60) (x : Int32) : gd_Cp l D tC ad 45 4 92 y_M_dispense c_M_dispense 5 (some .int) [.ref 27, .int x] w (gs_mp (gs_disp S x).2.2 (gs_disp S x).1 (.int (nI (gs_disp S x).2.1)) w) := by
  refine gd_Cp_of rfl hinj (Nat.le_of_ble_eq_true rfl) ?_
  intro p e s m args below meth c E hr hlk
  have K := k_M_dispense
  have hA : ∀ q, gd_A ad 45 s.heap.size q → gd_A ad 45 s.heap.size q := fun _ h => h
  have hN := hR.1.2
  refine gd_r E K 2 (pc' := 2) (lv' := [(0, .ref 27), (1, .int x)]) (st' := [.int x, .ref 27]) (w' := w) rfl ?_
  refine gd_r E K 1 (pc' := if x < 0 then 14 else 5) (lv' := [(0, .ref 27), (1, .int x)]) (st' := [.ref 27]) (w' := w) rfl ?_
  refine gd_ite (fun h1 => ?_) (fun h1 => ?_)
  · refine gd_r E K 6 (pc' := 26) (lv' := [(0, .ref 27), (1, .int x)]) (st' := [.int 0]) (w' := gd_rI w 27 (upd (w.1 27) 0 1)) rfl ?_
    exact gd_iretp E hr hlk (K.1 26 (.ireturn, 0) rfl).1 (by rw [gs_disp, if_pos (Or.inl h1)]; exact gs_mp_code hR 1 rfl rfl)
  · refine gd_r E K 2 (pc' := 7) (lv' := [(0, .ref 27), (1, .int x)]) (st' := [.int 4, .int x, .ref 27]) (w' := w) rfl ?_
    refine gd_r E K 1 (pc' := if 4 ≤ x then 14 else 10) (lv' := [(0, .ref 27), (1, .int x)]) (st' := [.ref 27]) (w' := w) rfl ?_
    refine gd_ite (fun h2 => ?_) (fun h2 => ?_)
    · refine gd_r E K 6 (pc' := 26) (lv' := [(0, .ref 27), (1, .int x)]) (st' := [.int 0]) (w' := gd_rI w 27 (upd (w.1 27) 0 1)) rfl ?_
      exact gd_iretp E hr hlk (K.1 26 (.ireturn, 0) rfl).1 (by rw [gs_disp, if_pos (Or.inr h2)]; exact gs_mp_code hR 1 rfl rfl)
    · have hno : ¬ (x < 0 ∨ 4 ≤ x) := fun z => z.elim h1 h2
      obtain ⟨k, hk, rfl⟩ := nI_of h1
      have hk4 : k < 4 := by rw [show (4 : Int32) = nI 4 from rfl, nI_leI (by decide) hk] at h2; omega
      refine gd_r E K 9 (pc' := 30) (lv' := [(0, .ref 27), (1, .int (nI k))]) (st' := [.int (-1), .int (-1), .ref 27]) (w' := gd_rI w 27 (upd (w.1 27) 0 0)) rfl ?_
      have hR0 := hR.code 0
      refine gd_cg (lv' := [(0, .ref 27), (1, .int (nI k))]) (st' := [.int (gm_nO none), .int (gm_nO none), .ref 27]) (w' := gd_rI w 27 (upd (w.1 27) 0 0)) ?_ (rfl) (rfl) (rfl)
      refine gd_cVp E hA (av := [.int (gm_nO none), .int (gm_nO none)]) (rest := []) (c2_foresee hinj _ hR0 hc6 hv none none (fun _ h => nomatch h) (fun _ h => nomatch h)) (K.1 30 (.invokevirtual 115, 0) rfl).1 ml_M_115 cv_M_foresee (by decide) (rfl) ⟨Nat.le_of_ble_eq_true rfl, Nat.le_of_ble_eq_true rfl⟩ ⟨Nat.zero_le _, Nat.zero_le _⟩ rfl (Nat.le_of_ble_eq_true rfl) (fun r9 w2 h9 => ?_)
      obtain ⟨rfl, hfi⟩ := h9
      have hR2 := hfi.1.M hR0
      have hT2 := gs_fi_tab hfi hc6 hv
      have hf2 : gf_m w w2 := (gf_m.I w (by decide) _).trans hfi.1.m
      refine gd_r E K 4 (pc' := 38) (lv' := [(0, .ref 27), (1, .int (nI k)), (2, .int (-1)), (3, .int 63)]) (st' := []) (w' := w2) rfl ?_
      have loop : ∀ n, n ≤ 64 → gd_G p l e (gd_rm 4 92) s m args below meth c D tC ad (gd_A ad 45 s.heap.size) 45 5 0 0 (MQ below (gd_Qp D tC ad 45 s.heap.size (gs_mp (gs_disp S (nI k)).2.2 (gs_disp S (nI k)).1 (.int (nI (gs_disp S (nI k)).2.1)) w)) args s 0 0 (gd_A ad 45 s.heap.size)) 38 [(0, .ref 27), (1, .int (nI k)), (2, .int (gm_nO (gs_fst (gs_srcf S k) n (64 - n)))), (3, .int (gs_pr n))] [] w2 := by
        intro n
        induction n with
        | zero =>
          intro hn
          refine gd_cg (lv' := [(0, .ref 27), (1, .int (nI k)), (2, .int (gm_nO (gs_fst (gs_srcf S k) 0 (64 - 0)))), (3, .int (-1))]) (st' := []) (w' := w2) ?_ rfl rfl rfl
          refine gd_r E K 1 (pc' := 39) (lv' := [(0, .ref 27), (1, .int (nI k)), (2, .int (gm_nO (gs_fst (gs_srcf S k) 0 (64 - 0)))), (3, .int (-1))]) (st' := [.int (-1)]) (w' := w2) rfl ?_
          refine gd_r E K 1 (pc' := if (-1) < 0 then 75 else 42) (lv' := [(0, .ref 27), (1, .int (nI k)), (2, .int (gm_nO (gs_fst (gs_srcf S k) 0 (64 - 0)))), (3, .int (-1))]) (st' := []) (w' := w2) rfl ?_
          refine gd_it (by decide) ?_
          refine gd_r E K 2 (pc' := 77) (lv' := [(0, .ref 27), (1, .int (nI k)), (2, .int (gm_nO (gs_fst (gs_srcf S k) 0 (64 - 0)))), (3, .int (-1))]) (st' := [.int (gm_nO (gs_fst (gs_srcf S k) 0 (64 - 0))), .ref 27]) (w' := w2) rfl ?_
          have hd : gs_disp S (nI k) = match gs_src S k with | none => (2, 0, S) | some c => if gs_full S then (3, 0, S) else (0, gs_made S, gs_dispS S k c) := by rw [gs_disp, if_neg hno, nI_clamp hk]
          rw [hd]
          have hsrc : gs_fst (gs_srcf S k) 0 (64 - 0) = gs_src S k := rfl
          rw [hsrc]
          cases hs : gs_src S k with
          | none =>
            refine gd_r E K 1 (pc' := if 0 ≤ (gm_nO (none)) then 84 else 80) (lv' := [(0, .ref 27), (1, .int (nI k)), (2, .int (gm_nO (none))), (3, .int (-1))]) (st' := [.ref 27]) (w' := w2) rfl ?_
            refine gd_if (by decide) ?_
            refine gd_r E K 7 (pc' := 118) (lv' := [(0, .ref 27), (1, .int (nI k)), (2, .int (gm_nO (none))), (3, .int (-1))]) (st' := [.int 0]) (w' := gd_rI w2 27 (upd (w2.1 27) 0 2)) rfl ?_
            exact gd_iretp E hr hlk (K.1 118 (.ireturn, 0) rfl).1 (⟨rfl, rfl, ⟨G, hR2.code 2⟩, hf2.trans (gf_m.I _ (by decide) _)⟩)
          | some c0 =>
            have hc64 : c0 < 64 := by have := (gs_fst_some _ hs).2.1; omega
            refine gd_r E K 1 (pc' := if 0 ≤ (gm_nO (some c0)) then 84 else 80) (lv' := [(0, .ref 27), (1, .int (nI k)), (2, .int (gm_nO (some c0))), (3, .int (-1))]) (st' := [.ref 27]) (w' := w2) rfl ?_
            refine gd_it (nI_pos' (by omega)) ?_
            refine gd_r E K 1 (pc' := 85) (lv' := [(0, .ref 27), (1, .int (nI k)), (2, .int (gm_nO (some c0))), (3, .int (-1))]) (st' := [.ref 27, .ref 27]) (w' := w2) rfl ?_
            refine gd_cV E hA (av := []) (rest := [.ref 27]) (c2_count hinj w2 hR2.U) (K.1 85 (.invokevirtual 71, 0) rfl).1 ml_M_71 cv_M_count (by decide) (rfl) ⟨Nat.le_of_ble_eq_true rfl, Nat.le_of_ble_eq_true rfl⟩ ⟨Nat.zero_le _, Nat.zero_le _⟩ rfl (Nat.le_of_ble_eq_true rfl) ?_
            refine gd_r E K 1 (pc' := 90) (lv' := [(0, .ref 27), (1, .int (nI k)), (2, .int (gm_nO (some c0))), (3, .int (-1))]) (st' := [.int 6, .int (nI (gs_cnt (gs_u S) (gs_made S))), .ref 27]) (w' := w2) rfl ?_
            by_cases h6 : gs_cnt (gs_u S) (gs_made S) = 6
            · refine gd_r E K 1 (pc' := if (nI (gs_cnt (gs_u S) (gs_made S))) = 6 then 102 else 93) (lv' := [(0, .ref 27), (1, .int (nI k)), (2, .int (gm_nO (some c0))), (3, .int (-1))]) (st' := [.ref 27]) (w' := w2) rfl ?_
              refine gd_it (by rw [h6]; rfl) ?_
              refine gd_r E K 7 (pc' := 118) (lv' := [(0, .ref 27), (1, .int (nI k)), (2, .int (gm_nO (some c0))), (3, .int (-1))]) (st' := [.int 0]) (w' := gd_rI w2 27 (upd (w2.1 27) 0 3)) rfl ?_
              have hfull : gs_full S = true := decide_eq_true (Or.inl h6)
              exact gd_iretp E hr hlk (K.1 118 (.ireturn, 0) rfl).1 (by dsimp only; rw [if_pos hfull]; exact ⟨rfl, rfl, ⟨G, hR2.code 3⟩, hf2.trans (gf_m.I _ (by decide) _)⟩)
            · refine gd_r E K 1 (pc' := if (nI (gs_cnt (gs_u S) (gs_made S))) = 6 then 102 else 93) (lv' := [(0, .ref 27), (1, .int (nI k)), (2, .int (gm_nO (some c0))), (3, .int (-1))]) (st' := [.ref 27]) (w' := w2) rfl ?_
              refine gd_if (by rw [show (6 : Int32) = nI 6 from rfl, nI_eq (by omega) (by decide)]; exact h6) ?_
              refine gd_r E K 3 (pc' := 99) (lv' := [(0, .ref 27), (1, .int (nI k)), (2, .int (gm_nO (some c0))), (3, .int (-1))]) (st' := [.int 60, .int (w2.1 27 3), .ref 27]) (w' := w2) rfl ?_
              refine gd_cg (lv' := [(0, .ref 27), (1, .int (nI k)), (2, .int (gm_nO (some c0))), (3, .int (-1))]) (st' := [.int 60, .int (nI (gs_made S)), .ref 27]) (w' := w2) ?_ (rfl) (by simp only [hR2.1.1]) rfl
              by_cases h60 : gs_made S = 60
              · refine gd_r E K 1 (pc' := if (nI (gs_made S)) = 60 then 102 else 106) (lv' := [(0, .ref 27), (1, .int (nI k)), (2, .int (gm_nO (some c0))), (3, .int (-1))]) (st' := [.ref 27]) (w' := w2) rfl ?_
                refine gd_it (by rw [h60]; rfl) ?_
                refine gd_r E K 7 (pc' := 118) (lv' := [(0, .ref 27), (1, .int (nI k)), (2, .int (gm_nO (some c0))), (3, .int (-1))]) (st' := [.int 0]) (w' := gd_rI w2 27 (upd (w2.1 27) 0 3)) rfl ?_
                have hfull : gs_full S = true := decide_eq_true (Or.inr h60)
                exact gd_iretp E hr hlk (K.1 118 (.ireturn, 0) rfl).1 (by dsimp only; rw [if_pos hfull]; exact ⟨rfl, rfl, ⟨G, hR2.code 3⟩, hf2.trans (gf_m.I _ (by decide) _)⟩)
              · refine gd_r E K 1 (pc' := if (nI (gs_made S)) = 60 then 102 else 106) (lv' := [(0, .ref 27), (1, .int (nI k)), (2, .int (gm_nO (some c0))), (3, .int (-1))]) (st' := [.ref 27]) (w' := w2) rfl ?_
                refine gd_if (by rw [show (60 : Int32) = nI 60 from rfl, nI_eq (by omega) (by decide)]; exact h60) ?_
                refine gd_r E K 8 (pc' := 122) (lv' := [(0, .ref 27), (1, .int (nI k)), (2, .int (gm_nO (some c0))), (3, .int (-1))]) (st' := [.int 1, .int (gm_nO (some c0)), .ref 27]) (w' := gd_rI w2 27 (upd (w2.1 27) 0 0)) rfl ?_
                have hfull : gs_full S = false := decide_eq_false (fun z => z.elim h6 h60)
                refine gd_cg (lv' := [(0, .ref 27), (1, .int (nI k)), (2, .int (gm_nO (some c0))), (3, .int (-1))]) (st' := [.int (nI 1), .int (nI c0), .ref 27]) (w' := gd_rI w2 27 (upd (w2.1 27) 0 0)) ?_ (rfl) (rfl) (rfl)
                refine gd_cVp E hA (av := [.int (nI c0), .int (nI 1)]) (rest := []) (c2_Madd hinj _ (hR2.code 0) c0 1 hc64 (by decide) (by omega)) (K.1 122 (.invokevirtual 119, 0) rfl).1 ml_M_119 cv_M_add (by decide) (rfl) ⟨Nat.le_of_ble_eq_true rfl, Nat.le_of_ble_eq_true rfl⟩ ⟨Nat.zero_le _, Nat.zero_le _⟩ rfl (Nat.le_of_ble_eq_true rfl) (fun r9 w4 h9 => ?_)
                obtain ⟨rfl, ⟨G4, hR4⟩, hf4, hc4⟩ := h9
                have ho4 : w4.1 27 12 = nI (gs_out S) := hR4.2.2.2.2.2.2.2.2.2.2.1.1
                dsimp only
                rw [if_neg (by rw [hfull]; decide)]
                rcases (by omega : k = 0 ∨ k = 1 ∨ k = 2 ∨ k = 3) with rfl | rfl | rfl | rfl
                · refine gd_r E K 18 (pc' := 156) (lv' := [(0, .ref 27), (1, .int (nI 0)), (2, .int (gm_nO (some c0))), (3, .int (nI (gs_made S))), (4, .int 0)]) (st' := [.long 1, .int ((4 * (nI (gs_made S))) + 0), .ref 31]) (w' := w4) rfl ?_
                  refine gd_last E (K.1 156 (.lastore, 0) rfl).1 (j := 4 * gs_made S + 0) (by decide) (rfl) (by rw [show (4 : Int32) = nI 4 from rfl, pk_mul, show (0 : Int32) = nI 0 from rfl, nI_add]) (by omega) (by decide) ?_
                  refine gd_r E K 16 (pc' := 156) (lv' := [(0, .ref 27), (1, .int (nI 0)), (2, .int (gm_nO (some c0))), (3, .int (nI (gs_made S))), (4, .int 1)]) (st' := [.long 0, .int ((4 * (nI (gs_made S))) + 1), .ref 31]) (w' := gd_rL w4 31 (vp_updL (w4.2.1 31) (4 * gs_made S + 0) 1)) rfl ?_
                  refine gd_last E (K.1 156 (.lastore, 0) rfl).1 (j := 4 * gs_made S + 1) (by decide) (rfl) (by rw [show (4 : Int32) = nI 4 from rfl, pk_mul, show (1 : Int32) = nI 1 from rfl, nI_add]) (by omega) (by decide) ?_
                  refine gd_r E K 16 (pc' := 156) (lv' := [(0, .ref 27), (1, .int (nI 0)), (2, .int (gm_nO (some c0))), (3, .int (nI (gs_made S))), (4, .int 2)]) (st' := [.long 0, .int ((4 * (nI (gs_made S))) + 2), .ref 31]) (w' := gd_rL (gd_rL w4 31 (vp_updL (w4.2.1 31) (4 * gs_made S + 0) 1)) 31 (vp_updL ((gd_rL w4 31 (vp_updL (w4.2.1 31) (4 * gs_made S + 0) 1)).2.1 31) (4 * gs_made S + 1) 0)) rfl ?_
                  refine gd_last E (K.1 156 (.lastore, 0) rfl).1 (j := 4 * gs_made S + 2) (by decide) (rfl) (by rw [show (4 : Int32) = nI 4 from rfl, pk_mul, show (2 : Int32) = nI 2 from rfl, nI_add]) (by omega) (by decide) ?_
                  refine gd_r E K 16 (pc' := 156) (lv' := [(0, .ref 27), (1, .int (nI 0)), (2, .int (gm_nO (some c0))), (3, .int (nI (gs_made S))), (4, .int 3)]) (st' := [.long 0, .int ((4 * (nI (gs_made S))) + 3), .ref 31]) (w' := gd_rL (gd_rL (gd_rL w4 31 (vp_updL (w4.2.1 31) (4 * gs_made S + 0) 1)) 31 (vp_updL ((gd_rL w4 31 (vp_updL (w4.2.1 31) (4 * gs_made S + 0) 1)).2.1 31) (4 * gs_made S + 1) 0)) 31 (vp_updL ((gd_rL (gd_rL w4 31 (vp_updL (w4.2.1 31) (4 * gs_made S + 0) 1)) 31 (vp_updL ((gd_rL w4 31 (vp_updL (w4.2.1 31) (4 * gs_made S + 0) 1)).2.1 31) (4 * gs_made S + 1) 0)).2.1 31) (4 * gs_made S + 2) 0)) rfl ?_
                  refine gd_last E (K.1 156 (.lastore, 0) rfl).1 (j := 4 * gs_made S + 3) (by decide) (rfl) (by rw [show (4 : Int32) = nI 4 from rfl, pk_mul, show (3 : Int32) = nI 3 from rfl, nI_add]) (by omega) (by decide) ?_
                  refine gd_r E K 9 (pc' := 169) (lv' := [(0, .ref 27), (1, .int (nI 0)), (2, .int (gm_nO (some c0))), (3, .int (nI (gs_made S))), (4, .int 4)]) (st' := [.int 0, .int (nI (gs_made S)), .ref 32]) (w' := gd_rL (gd_rL (gd_rL (gd_rL w4 31 (vp_updL (w4.2.1 31) (4 * gs_made S + 0) 1)) 31 (vp_updL ((gd_rL w4 31 (vp_updL (w4.2.1 31) (4 * gs_made S + 0) 1)).2.1 31) (4 * gs_made S + 1) 0)) 31 (vp_updL ((gd_rL (gd_rL w4 31 (vp_updL (w4.2.1 31) (4 * gs_made S + 0) 1)) 31 (vp_updL ((gd_rL w4 31 (vp_updL (w4.2.1 31) (4 * gs_made S + 0) 1)).2.1 31) (4 * gs_made S + 1) 0)).2.1 31) (4 * gs_made S + 2) 0)) 31 (vp_updL ((gd_rL (gd_rL (gd_rL w4 31 (vp_updL (w4.2.1 31) (4 * gs_made S + 0) 1)) 31 (vp_updL ((gd_rL w4 31 (vp_updL (w4.2.1 31) (4 * gs_made S + 0) 1)).2.1 31) (4 * gs_made S + 1) 0)) 31 (vp_updL ((gd_rL (gd_rL w4 31 (vp_updL (w4.2.1 31) (4 * gs_made S + 0) 1)) 31 (vp_updL ((gd_rL w4 31 (vp_updL (w4.2.1 31) (4 * gs_made S + 0) 1)).2.1 31) (4 * gs_made S + 1) 0)).2.1 31) (4 * gs_made S + 2) 0)).2.1 31) (4 * gs_made S + 3) 0)) rfl ?_
                  refine gd_iast E (K.1 169 (.iastore, 0) rfl).1 (j := gs_made S) (by decide) (rfl) (rfl) (by omega) (by decide) ?_
                  refine gd_r E K 5 (pc' := 177) (lv' := [(0, .ref 27), (1, .int (nI 0)), (2, .int (gm_nO (some c0))), (3, .int (nI (gs_made S))), (4, .int 4)]) (st' := [.int ((w4.1 27 12) + 1), .ref 27]) (w' := gd_rI (gd_rL (gd_rL (gd_rL (gd_rL w4 31 (vp_updL (w4.2.1 31) (4 * gs_made S + 0) 1)) 31 (vp_updL ((gd_rL w4 31 (vp_updL (w4.2.1 31) (4 * gs_made S + 0) 1)).2.1 31) (4 * gs_made S + 1) 0)) 31 (vp_updL ((gd_rL (gd_rL w4 31 (vp_updL (w4.2.1 31) (4 * gs_made S + 0) 1)) 31 (vp_updL ((gd_rL w4 31 (vp_updL (w4.2.1 31) (4 * gs_made S + 0) 1)).2.1 31) (4 * gs_made S + 1) 0)).2.1 31) (4 * gs_made S + 2) 0)) 31 (vp_updL ((gd_rL (gd_rL (gd_rL w4 31 (vp_updL (w4.2.1 31) (4 * gs_made S + 0) 1)) 31 (vp_updL ((gd_rL w4 31 (vp_updL (w4.2.1 31) (4 * gs_made S + 0) 1)).2.1 31) (4 * gs_made S + 1) 0)) 31 (vp_updL ((gd_rL (gd_rL w4 31 (vp_updL (w4.2.1 31) (4 * gs_made S + 0) 1)) 31 (vp_updL ((gd_rL w4 31 (vp_updL (w4.2.1 31) (4 * gs_made S + 0) 1)).2.1 31) (4 * gs_made S + 1) 0)).2.1 31) (4 * gs_made S + 2) 0)).2.1 31) (4 * gs_made S + 3) 0)) 32 (upd ((gd_rL (gd_rL (gd_rL (gd_rL w4 31 (vp_updL (w4.2.1 31) (4 * gs_made S + 0) 1)) 31 (vp_updL ((gd_rL w4 31 (vp_updL (w4.2.1 31) (4 * gs_made S + 0) 1)).2.1 31) (4 * gs_made S + 1) 0)) 31 (vp_updL ((gd_rL (gd_rL w4 31 (vp_updL (w4.2.1 31) (4 * gs_made S + 0) 1)) 31 (vp_updL ((gd_rL w4 31 (vp_updL (w4.2.1 31) (4 * gs_made S + 0) 1)).2.1 31) (4 * gs_made S + 1) 0)).2.1 31) (4 * gs_made S + 2) 0)) 31 (vp_updL ((gd_rL (gd_rL (gd_rL w4 31 (vp_updL (w4.2.1 31) (4 * gs_made S + 0) 1)) 31 (vp_updL ((gd_rL w4 31 (vp_updL (w4.2.1 31) (4 * gs_made S + 0) 1)).2.1 31) (4 * gs_made S + 1) 0)) 31 (vp_updL ((gd_rL (gd_rL w4 31 (vp_updL (w4.2.1 31) (4 * gs_made S + 0) 1)) 31 (vp_updL ((gd_rL w4 31 (vp_updL (w4.2.1 31) (4 * gs_made S + 0) 1)).2.1 31) (4 * gs_made S + 1) 0)).2.1 31) (4 * gs_made S + 2) 0)).2.1 31) (4 * gs_made S + 3) 0)).1 32) (gs_made S) 0)) rfl ?_
                  refine gd_cg (lv' := [(0, .ref 27), (1, .int (nI 0)), (2, .int (gm_nO (some c0))), (3, .int (nI (gs_made S))), (4, .int 4)]) (st' := [.int ((nI (gs_out S)) + 1), .ref 27]) (w' := gd_rI (gd_rL (gd_rL (gd_rL (gd_rL w4 31 (vp_updL (w4.2.1 31) (4 * gs_made S + 0) 1)) 31 (vp_updL ((gd_rL w4 31 (vp_updL (w4.2.1 31) (4 * gs_made S + 0) 1)).2.1 31) (4 * gs_made S + 1) 0)) 31 (vp_updL ((gd_rL (gd_rL w4 31 (vp_updL (w4.2.1 31) (4 * gs_made S + 0) 1)) 31 (vp_updL ((gd_rL w4 31 (vp_updL (w4.2.1 31) (4 * gs_made S + 0) 1)).2.1 31) (4 * gs_made S + 1) 0)).2.1 31) (4 * gs_made S + 2) 0)) 31 (vp_updL ((gd_rL (gd_rL (gd_rL w4 31 (vp_updL (w4.2.1 31) (4 * gs_made S + 0) 1)) 31 (vp_updL ((gd_rL w4 31 (vp_updL (w4.2.1 31) (4 * gs_made S + 0) 1)).2.1 31) (4 * gs_made S + 1) 0)) 31 (vp_updL ((gd_rL (gd_rL w4 31 (vp_updL (w4.2.1 31) (4 * gs_made S + 0) 1)) 31 (vp_updL ((gd_rL w4 31 (vp_updL (w4.2.1 31) (4 * gs_made S + 0) 1)).2.1 31) (4 * gs_made S + 1) 0)).2.1 31) (4 * gs_made S + 2) 0)).2.1 31) (4 * gs_made S + 3) 0)) 32 (upd ((gd_rL (gd_rL (gd_rL (gd_rL w4 31 (vp_updL (w4.2.1 31) (4 * gs_made S + 0) 1)) 31 (vp_updL ((gd_rL w4 31 (vp_updL (w4.2.1 31) (4 * gs_made S + 0) 1)).2.1 31) (4 * gs_made S + 1) 0)) 31 (vp_updL ((gd_rL (gd_rL w4 31 (vp_updL (w4.2.1 31) (4 * gs_made S + 0) 1)) 31 (vp_updL ((gd_rL w4 31 (vp_updL (w4.2.1 31) (4 * gs_made S + 0) 1)).2.1 31) (4 * gs_made S + 1) 0)).2.1 31) (4 * gs_made S + 2) 0)) 31 (vp_updL ((gd_rL (gd_rL (gd_rL w4 31 (vp_updL (w4.2.1 31) (4 * gs_made S + 0) 1)) 31 (vp_updL ((gd_rL w4 31 (vp_updL (w4.2.1 31) (4 * gs_made S + 0) 1)).2.1 31) (4 * gs_made S + 1) 0)) 31 (vp_updL ((gd_rL (gd_rL w4 31 (vp_updL (w4.2.1 31) (4 * gs_made S + 0) 1)) 31 (vp_updL ((gd_rL w4 31 (vp_updL (w4.2.1 31) (4 * gs_made S + 0) 1)).2.1 31) (4 * gs_made S + 1) 0)).2.1 31) (4 * gs_made S + 2) 0)).2.1 31) (4 * gs_made S + 3) 0)).1 32) (gs_made S) 0)) ?_ (rfl) (by simp only [ho4]) rfl
                  refine gd_cg (lv' := [(0, .ref 27), (1, .int (nI 0)), (2, .int (gm_nO (some c0))), (3, .int (nI (gs_made S))), (4, .int 4)]) (st' := [.int (nI (gs_out S + 1)), .ref 27]) (w' := gd_rI (gd_rL (gd_rL (gd_rL (gd_rL w4 31 (vp_updL (w4.2.1 31) (4 * gs_made S + 0) 1)) 31 (vp_updL ((gd_rL w4 31 (vp_updL (w4.2.1 31) (4 * gs_made S + 0) 1)).2.1 31) (4 * gs_made S + 1) 0)) 31 (vp_updL ((gd_rL (gd_rL w4 31 (vp_updL (w4.2.1 31) (4 * gs_made S + 0) 1)) 31 (vp_updL ((gd_rL w4 31 (vp_updL (w4.2.1 31) (4 * gs_made S + 0) 1)).2.1 31) (4 * gs_made S + 1) 0)).2.1 31) (4 * gs_made S + 2) 0)) 31 (vp_updL ((gd_rL (gd_rL (gd_rL w4 31 (vp_updL (w4.2.1 31) (4 * gs_made S + 0) 1)) 31 (vp_updL ((gd_rL w4 31 (vp_updL (w4.2.1 31) (4 * gs_made S + 0) 1)).2.1 31) (4 * gs_made S + 1) 0)) 31 (vp_updL ((gd_rL (gd_rL w4 31 (vp_updL (w4.2.1 31) (4 * gs_made S + 0) 1)) 31 (vp_updL ((gd_rL w4 31 (vp_updL (w4.2.1 31) (4 * gs_made S + 0) 1)).2.1 31) (4 * gs_made S + 1) 0)).2.1 31) (4 * gs_made S + 2) 0)).2.1 31) (4 * gs_made S + 3) 0)) 32 (upd ((gd_rL (gd_rL (gd_rL (gd_rL w4 31 (vp_updL (w4.2.1 31) (4 * gs_made S + 0) 1)) 31 (vp_updL ((gd_rL w4 31 (vp_updL (w4.2.1 31) (4 * gs_made S + 0) 1)).2.1 31) (4 * gs_made S + 1) 0)) 31 (vp_updL ((gd_rL (gd_rL w4 31 (vp_updL (w4.2.1 31) (4 * gs_made S + 0) 1)) 31 (vp_updL ((gd_rL w4 31 (vp_updL (w4.2.1 31) (4 * gs_made S + 0) 1)).2.1 31) (4 * gs_made S + 1) 0)).2.1 31) (4 * gs_made S + 2) 0)) 31 (vp_updL ((gd_rL (gd_rL (gd_rL w4 31 (vp_updL (w4.2.1 31) (4 * gs_made S + 0) 1)) 31 (vp_updL ((gd_rL w4 31 (vp_updL (w4.2.1 31) (4 * gs_made S + 0) 1)).2.1 31) (4 * gs_made S + 1) 0)) 31 (vp_updL ((gd_rL (gd_rL w4 31 (vp_updL (w4.2.1 31) (4 * gs_made S + 0) 1)) 31 (vp_updL ((gd_rL w4 31 (vp_updL (w4.2.1 31) (4 * gs_made S + 0) 1)).2.1 31) (4 * gs_made S + 1) 0)).2.1 31) (4 * gs_made S + 2) 0)).2.1 31) (4 * gs_made S + 3) 0)).1 32) (gs_made S) 0)) ?_ (rfl) (by rw [nI_1]) (rfl)
                  refine gd_r E K 2 (pc' := 181) (lv' := [(0, .ref 27), (1, .int (nI 0)), (2, .int (gm_nO (some c0))), (3, .int (nI (gs_made S))), (4, .int 4)]) (st' := [.int (nI (gs_made S))]) (w' := gd_rI (gd_rI (gd_rL (gd_rL (gd_rL (gd_rL w4 31 (vp_updL (w4.2.1 31) (4 * gs_made S + 0) 1)) 31 (vp_updL ((gd_rL w4 31 (vp_updL (w4.2.1 31) (4 * gs_made S + 0) 1)).2.1 31) (4 * gs_made S + 1) 0)) 31 (vp_updL ((gd_rL (gd_rL w4 31 (vp_updL (w4.2.1 31) (4 * gs_made S + 0) 1)) 31 (vp_updL ((gd_rL w4 31 (vp_updL (w4.2.1 31) (4 * gs_made S + 0) 1)).2.1 31) (4 * gs_made S + 1) 0)).2.1 31) (4 * gs_made S + 2) 0)) 31 (vp_updL ((gd_rL (gd_rL (gd_rL w4 31 (vp_updL (w4.2.1 31) (4 * gs_made S + 0) 1)) 31 (vp_updL ((gd_rL w4 31 (vp_updL (w4.2.1 31) (4 * gs_made S + 0) 1)).2.1 31) (4 * gs_made S + 1) 0)) 31 (vp_updL ((gd_rL (gd_rL w4 31 (vp_updL (w4.2.1 31) (4 * gs_made S + 0) 1)) 31 (vp_updL ((gd_rL w4 31 (vp_updL (w4.2.1 31) (4 * gs_made S + 0) 1)).2.1 31) (4 * gs_made S + 1) 0)).2.1 31) (4 * gs_made S + 2) 0)).2.1 31) (4 * gs_made S + 3) 0)) 32 (upd ((gd_rL (gd_rL (gd_rL (gd_rL w4 31 (vp_updL (w4.2.1 31) (4 * gs_made S + 0) 1)) 31 (vp_updL ((gd_rL w4 31 (vp_updL (w4.2.1 31) (4 * gs_made S + 0) 1)).2.1 31) (4 * gs_made S + 1) 0)) 31 (vp_updL ((gd_rL (gd_rL w4 31 (vp_updL (w4.2.1 31) (4 * gs_made S + 0) 1)) 31 (vp_updL ((gd_rL w4 31 (vp_updL (w4.2.1 31) (4 * gs_made S + 0) 1)).2.1 31) (4 * gs_made S + 1) 0)).2.1 31) (4 * gs_made S + 2) 0)) 31 (vp_updL ((gd_rL (gd_rL (gd_rL w4 31 (vp_updL (w4.2.1 31) (4 * gs_made S + 0) 1)) 31 (vp_updL ((gd_rL w4 31 (vp_updL (w4.2.1 31) (4 * gs_made S + 0) 1)).2.1 31) (4 * gs_made S + 1) 0)) 31 (vp_updL ((gd_rL (gd_rL w4 31 (vp_updL (w4.2.1 31) (4 * gs_made S + 0) 1)) 31 (vp_updL ((gd_rL w4 31 (vp_updL (w4.2.1 31) (4 * gs_made S + 0) 1)).2.1 31) (4 * gs_made S + 1) 0)).2.1 31) (4 * gs_made S + 2) 0)).2.1 31) (4 * gs_made S + 3) 0)).1 32) (gs_made S) 0)) 27 (upd ((gd_rI (gd_rL (gd_rL (gd_rL (gd_rL w4 31 (vp_updL (w4.2.1 31) (4 * gs_made S + 0) 1)) 31 (vp_updL ((gd_rL w4 31 (vp_updL (w4.2.1 31) (4 * gs_made S + 0) 1)).2.1 31) (4 * gs_made S + 1) 0)) 31 (vp_updL ((gd_rL (gd_rL w4 31 (vp_updL (w4.2.1 31) (4 * gs_made S + 0) 1)) 31 (vp_updL ((gd_rL w4 31 (vp_updL (w4.2.1 31) (4 * gs_made S + 0) 1)).2.1 31) (4 * gs_made S + 1) 0)).2.1 31) (4 * gs_made S + 2) 0)) 31 (vp_updL ((gd_rL (gd_rL (gd_rL w4 31 (vp_updL (w4.2.1 31) (4 * gs_made S + 0) 1)) 31 (vp_updL ((gd_rL w4 31 (vp_updL (w4.2.1 31) (4 * gs_made S + 0) 1)).2.1 31) (4 * gs_made S + 1) 0)) 31 (vp_updL ((gd_rL (gd_rL w4 31 (vp_updL (w4.2.1 31) (4 * gs_made S + 0) 1)) 31 (vp_updL ((gd_rL w4 31 (vp_updL (w4.2.1 31) (4 * gs_made S + 0) 1)).2.1 31) (4 * gs_made S + 1) 0)).2.1 31) (4 * gs_made S + 2) 0)).2.1 31) (4 * gs_made S + 3) 0)) 32 (upd ((gd_rL (gd_rL (gd_rL (gd_rL w4 31 (vp_updL (w4.2.1 31) (4 * gs_made S + 0) 1)) 31 (vp_updL ((gd_rL w4 31 (vp_updL (w4.2.1 31) (4 * gs_made S + 0) 1)).2.1 31) (4 * gs_made S + 1) 0)) 31 (vp_updL ((gd_rL (gd_rL w4 31 (vp_updL (w4.2.1 31) (4 * gs_made S + 0) 1)) 31 (vp_updL ((gd_rL w4 31 (vp_updL (w4.2.1 31) (4 * gs_made S + 0) 1)).2.1 31) (4 * gs_made S + 1) 0)).2.1 31) (4 * gs_made S + 2) 0)) 31 (vp_updL ((gd_rL (gd_rL (gd_rL w4 31 (vp_updL (w4.2.1 31) (4 * gs_made S + 0) 1)) 31 (vp_updL ((gd_rL w4 31 (vp_updL (w4.2.1 31) (4 * gs_made S + 0) 1)).2.1 31) (4 * gs_made S + 1) 0)) 31 (vp_updL ((gd_rL (gd_rL w4 31 (vp_updL (w4.2.1 31) (4 * gs_made S + 0) 1)) 31 (vp_updL ((gd_rL w4 31 (vp_updL (w4.2.1 31) (4 * gs_made S + 0) 1)).2.1 31) (4 * gs_made S + 1) 0)).2.1 31) (4 * gs_made S + 2) 0)).2.1 31) (4 * gs_made S + 3) 0)).1 32) (gs_made S) 0)).1 27) 12 (nI (gs_out S + 1)))) rfl ?_
                  exact gd_iretp E hr hlk (K.1 181 (.ireturn, 0) rfl).1 (⟨rfl, hc4, ⟨G4, (((((hR4.sset (gs_made S) 0 _ (by decide)).sset (gs_made S) 1 _ (by decide)).sset (gs_made S) 2 _ (by decide)).sset (gs_made S) 3 _ (by decide)).f2 (gs_made S) 0 (by decide)).out (gs_out S + 1) (hout (by omega))⟩, hf2.trans ((gf_m.I _ (by decide) _).trans (hf4.trans ((gf_m.L _ (by decide) _).trans ((gf_m.L _ (by decide) _).trans ((gf_m.L _ (by decide) _).trans ((gf_m.L _ (by decide) _).trans ((gf_m.I _ (by decide) _).trans (gf_m.I _ (by decide) _))))))))⟩)
                · refine gd_r E K 17 (pc' := 156) (lv' := [(0, .ref 27), (1, .int (nI 1)), (2, .int (gm_nO (some c0))), (3, .int (nI (gs_made S))), (4, .int 0)]) (st' := [.long 0, .int ((4 * (nI (gs_made S))) + 0), .ref 31]) (w' := w4) rfl ?_
                  refine gd_last E (K.1 156 (.lastore, 0) rfl).1 (j := 4 * gs_made S + 0) (by decide) (rfl) (by rw [show (4 : Int32) = nI 4 from rfl, pk_mul, show (0 : Int32) = nI 0 from rfl, nI_add]) (by omega) (by decide) ?_
                  refine gd_r E K 17 (pc' := 156) (lv' := [(0, .ref 27), (1, .int (nI 1)), (2, .int (gm_nO (some c0))), (3, .int (nI (gs_made S))), (4, .int 1)]) (st' := [.long 1, .int ((4 * (nI (gs_made S))) + 1), .ref 31]) (w' := gd_rL w4 31 (vp_updL (w4.2.1 31) (4 * gs_made S + 0) 0)) rfl ?_
                  refine gd_last E (K.1 156 (.lastore, 0) rfl).1 (j := 4 * gs_made S + 1) (by decide) (rfl) (by rw [show (4 : Int32) = nI 4 from rfl, pk_mul, show (1 : Int32) = nI 1 from rfl, nI_add]) (by omega) (by decide) ?_
                  refine gd_r E K 16 (pc' := 156) (lv' := [(0, .ref 27), (1, .int (nI 1)), (2, .int (gm_nO (some c0))), (3, .int (nI (gs_made S))), (4, .int 2)]) (st' := [.long 0, .int ((4 * (nI (gs_made S))) + 2), .ref 31]) (w' := gd_rL (gd_rL w4 31 (vp_updL (w4.2.1 31) (4 * gs_made S + 0) 0)) 31 (vp_updL ((gd_rL w4 31 (vp_updL (w4.2.1 31) (4 * gs_made S + 0) 0)).2.1 31) (4 * gs_made S + 1) 1)) rfl ?_
                  refine gd_last E (K.1 156 (.lastore, 0) rfl).1 (j := 4 * gs_made S + 2) (by decide) (rfl) (by rw [show (4 : Int32) = nI 4 from rfl, pk_mul, show (2 : Int32) = nI 2 from rfl, nI_add]) (by omega) (by decide) ?_
                  refine gd_r E K 16 (pc' := 156) (lv' := [(0, .ref 27), (1, .int (nI 1)), (2, .int (gm_nO (some c0))), (3, .int (nI (gs_made S))), (4, .int 3)]) (st' := [.long 0, .int ((4 * (nI (gs_made S))) + 3), .ref 31]) (w' := gd_rL (gd_rL (gd_rL w4 31 (vp_updL (w4.2.1 31) (4 * gs_made S + 0) 0)) 31 (vp_updL ((gd_rL w4 31 (vp_updL (w4.2.1 31) (4 * gs_made S + 0) 0)).2.1 31) (4 * gs_made S + 1) 1)) 31 (vp_updL ((gd_rL (gd_rL w4 31 (vp_updL (w4.2.1 31) (4 * gs_made S + 0) 0)) 31 (vp_updL ((gd_rL w4 31 (vp_updL (w4.2.1 31) (4 * gs_made S + 0) 0)).2.1 31) (4 * gs_made S + 1) 1)).2.1 31) (4 * gs_made S + 2) 0)) rfl ?_
                  refine gd_last E (K.1 156 (.lastore, 0) rfl).1 (j := 4 * gs_made S + 3) (by decide) (rfl) (by rw [show (4 : Int32) = nI 4 from rfl, pk_mul, show (3 : Int32) = nI 3 from rfl, nI_add]) (by omega) (by decide) ?_
                  refine gd_r E K 9 (pc' := 169) (lv' := [(0, .ref 27), (1, .int (nI 1)), (2, .int (gm_nO (some c0))), (3, .int (nI (gs_made S))), (4, .int 4)]) (st' := [.int 0, .int (nI (gs_made S)), .ref 32]) (w' := gd_rL (gd_rL (gd_rL (gd_rL w4 31 (vp_updL (w4.2.1 31) (4 * gs_made S + 0) 0)) 31 (vp_updL ((gd_rL w4 31 (vp_updL (w4.2.1 31) (4 * gs_made S + 0) 0)).2.1 31) (4 * gs_made S + 1) 1)) 31 (vp_updL ((gd_rL (gd_rL w4 31 (vp_updL (w4.2.1 31) (4 * gs_made S + 0) 0)) 31 (vp_updL ((gd_rL w4 31 (vp_updL (w4.2.1 31) (4 * gs_made S + 0) 0)).2.1 31) (4 * gs_made S + 1) 1)).2.1 31) (4 * gs_made S + 2) 0)) 31 (vp_updL ((gd_rL (gd_rL (gd_rL w4 31 (vp_updL (w4.2.1 31) (4 * gs_made S + 0) 0)) 31 (vp_updL ((gd_rL w4 31 (vp_updL (w4.2.1 31) (4 * gs_made S + 0) 0)).2.1 31) (4 * gs_made S + 1) 1)) 31 (vp_updL ((gd_rL (gd_rL w4 31 (vp_updL (w4.2.1 31) (4 * gs_made S + 0) 0)) 31 (vp_updL ((gd_rL w4 31 (vp_updL (w4.2.1 31) (4 * gs_made S + 0) 0)).2.1 31) (4 * gs_made S + 1) 1)).2.1 31) (4 * gs_made S + 2) 0)).2.1 31) (4 * gs_made S + 3) 0)) rfl ?_
                  refine gd_iast E (K.1 169 (.iastore, 0) rfl).1 (j := gs_made S) (by decide) (rfl) (rfl) (by omega) (by decide) ?_
                  refine gd_r E K 5 (pc' := 177) (lv' := [(0, .ref 27), (1, .int (nI 1)), (2, .int (gm_nO (some c0))), (3, .int (nI (gs_made S))), (4, .int 4)]) (st' := [.int ((w4.1 27 12) + 1), .ref 27]) (w' := gd_rI (gd_rL (gd_rL (gd_rL (gd_rL w4 31 (vp_updL (w4.2.1 31) (4 * gs_made S + 0) 0)) 31 (vp_updL ((gd_rL w4 31 (vp_updL (w4.2.1 31) (4 * gs_made S + 0) 0)).2.1 31) (4 * gs_made S + 1) 1)) 31 (vp_updL ((gd_rL (gd_rL w4 31 (vp_updL (w4.2.1 31) (4 * gs_made S + 0) 0)) 31 (vp_updL ((gd_rL w4 31 (vp_updL (w4.2.1 31) (4 * gs_made S + 0) 0)).2.1 31) (4 * gs_made S + 1) 1)).2.1 31) (4 * gs_made S + 2) 0)) 31 (vp_updL ((gd_rL (gd_rL (gd_rL w4 31 (vp_updL (w4.2.1 31) (4 * gs_made S + 0) 0)) 31 (vp_updL ((gd_rL w4 31 (vp_updL (w4.2.1 31) (4 * gs_made S + 0) 0)).2.1 31) (4 * gs_made S + 1) 1)) 31 (vp_updL ((gd_rL (gd_rL w4 31 (vp_updL (w4.2.1 31) (4 * gs_made S + 0) 0)) 31 (vp_updL ((gd_rL w4 31 (vp_updL (w4.2.1 31) (4 * gs_made S + 0) 0)).2.1 31) (4 * gs_made S + 1) 1)).2.1 31) (4 * gs_made S + 2) 0)).2.1 31) (4 * gs_made S + 3) 0)) 32 (upd ((gd_rL (gd_rL (gd_rL (gd_rL w4 31 (vp_updL (w4.2.1 31) (4 * gs_made S + 0) 0)) 31 (vp_updL ((gd_rL w4 31 (vp_updL (w4.2.1 31) (4 * gs_made S + 0) 0)).2.1 31) (4 * gs_made S + 1) 1)) 31 (vp_updL ((gd_rL (gd_rL w4 31 (vp_updL (w4.2.1 31) (4 * gs_made S + 0) 0)) 31 (vp_updL ((gd_rL w4 31 (vp_updL (w4.2.1 31) (4 * gs_made S + 0) 0)).2.1 31) (4 * gs_made S + 1) 1)).2.1 31) (4 * gs_made S + 2) 0)) 31 (vp_updL ((gd_rL (gd_rL (gd_rL w4 31 (vp_updL (w4.2.1 31) (4 * gs_made S + 0) 0)) 31 (vp_updL ((gd_rL w4 31 (vp_updL (w4.2.1 31) (4 * gs_made S + 0) 0)).2.1 31) (4 * gs_made S + 1) 1)) 31 (vp_updL ((gd_rL (gd_rL w4 31 (vp_updL (w4.2.1 31) (4 * gs_made S + 0) 0)) 31 (vp_updL ((gd_rL w4 31 (vp_updL (w4.2.1 31) (4 * gs_made S + 0) 0)).2.1 31) (4 * gs_made S + 1) 1)).2.1 31) (4 * gs_made S + 2) 0)).2.1 31) (4 * gs_made S + 3) 0)).1 32) (gs_made S) 0)) rfl ?_
                  refine gd_cg (lv' := [(0, .ref 27), (1, .int (nI 1)), (2, .int (gm_nO (some c0))), (3, .int (nI (gs_made S))), (4, .int 4)]) (st' := [.int ((nI (gs_out S)) + 1), .ref 27]) (w' := gd_rI (gd_rL (gd_rL (gd_rL (gd_rL w4 31 (vp_updL (w4.2.1 31) (4 * gs_made S + 0) 0)) 31 (vp_updL ((gd_rL w4 31 (vp_updL (w4.2.1 31) (4 * gs_made S + 0) 0)).2.1 31) (4 * gs_made S + 1) 1)) 31 (vp_updL ((gd_rL (gd_rL w4 31 (vp_updL (w4.2.1 31) (4 * gs_made S + 0) 0)) 31 (vp_updL ((gd_rL w4 31 (vp_updL (w4.2.1 31) (4 * gs_made S + 0) 0)).2.1 31) (4 * gs_made S + 1) 1)).2.1 31) (4 * gs_made S + 2) 0)) 31 (vp_updL ((gd_rL (gd_rL (gd_rL w4 31 (vp_updL (w4.2.1 31) (4 * gs_made S + 0) 0)) 31 (vp_updL ((gd_rL w4 31 (vp_updL (w4.2.1 31) (4 * gs_made S + 0) 0)).2.1 31) (4 * gs_made S + 1) 1)) 31 (vp_updL ((gd_rL (gd_rL w4 31 (vp_updL (w4.2.1 31) (4 * gs_made S + 0) 0)) 31 (vp_updL ((gd_rL w4 31 (vp_updL (w4.2.1 31) (4 * gs_made S + 0) 0)).2.1 31) (4 * gs_made S + 1) 1)).2.1 31) (4 * gs_made S + 2) 0)).2.1 31) (4 * gs_made S + 3) 0)) 32 (upd ((gd_rL (gd_rL (gd_rL (gd_rL w4 31 (vp_updL (w4.2.1 31) (4 * gs_made S + 0) 0)) 31 (vp_updL ((gd_rL w4 31 (vp_updL (w4.2.1 31) (4 * gs_made S + 0) 0)).2.1 31) (4 * gs_made S + 1) 1)) 31 (vp_updL ((gd_rL (gd_rL w4 31 (vp_updL (w4.2.1 31) (4 * gs_made S + 0) 0)) 31 (vp_updL ((gd_rL w4 31 (vp_updL (w4.2.1 31) (4 * gs_made S + 0) 0)).2.1 31) (4 * gs_made S + 1) 1)).2.1 31) (4 * gs_made S + 2) 0)) 31 (vp_updL ((gd_rL (gd_rL (gd_rL w4 31 (vp_updL (w4.2.1 31) (4 * gs_made S + 0) 0)) 31 (vp_updL ((gd_rL w4 31 (vp_updL (w4.2.1 31) (4 * gs_made S + 0) 0)).2.1 31) (4 * gs_made S + 1) 1)) 31 (vp_updL ((gd_rL (gd_rL w4 31 (vp_updL (w4.2.1 31) (4 * gs_made S + 0) 0)) 31 (vp_updL ((gd_rL w4 31 (vp_updL (w4.2.1 31) (4 * gs_made S + 0) 0)).2.1 31) (4 * gs_made S + 1) 1)).2.1 31) (4 * gs_made S + 2) 0)).2.1 31) (4 * gs_made S + 3) 0)).1 32) (gs_made S) 0)) ?_ (rfl) (by simp only [ho4]) rfl
                  refine gd_cg (lv' := [(0, .ref 27), (1, .int (nI 1)), (2, .int (gm_nO (some c0))), (3, .int (nI (gs_made S))), (4, .int 4)]) (st' := [.int (nI (gs_out S + 1)), .ref 27]) (w' := gd_rI (gd_rL (gd_rL (gd_rL (gd_rL w4 31 (vp_updL (w4.2.1 31) (4 * gs_made S + 0) 0)) 31 (vp_updL ((gd_rL w4 31 (vp_updL (w4.2.1 31) (4 * gs_made S + 0) 0)).2.1 31) (4 * gs_made S + 1) 1)) 31 (vp_updL ((gd_rL (gd_rL w4 31 (vp_updL (w4.2.1 31) (4 * gs_made S + 0) 0)) 31 (vp_updL ((gd_rL w4 31 (vp_updL (w4.2.1 31) (4 * gs_made S + 0) 0)).2.1 31) (4 * gs_made S + 1) 1)).2.1 31) (4 * gs_made S + 2) 0)) 31 (vp_updL ((gd_rL (gd_rL (gd_rL w4 31 (vp_updL (w4.2.1 31) (4 * gs_made S + 0) 0)) 31 (vp_updL ((gd_rL w4 31 (vp_updL (w4.2.1 31) (4 * gs_made S + 0) 0)).2.1 31) (4 * gs_made S + 1) 1)) 31 (vp_updL ((gd_rL (gd_rL w4 31 (vp_updL (w4.2.1 31) (4 * gs_made S + 0) 0)) 31 (vp_updL ((gd_rL w4 31 (vp_updL (w4.2.1 31) (4 * gs_made S + 0) 0)).2.1 31) (4 * gs_made S + 1) 1)).2.1 31) (4 * gs_made S + 2) 0)).2.1 31) (4 * gs_made S + 3) 0)) 32 (upd ((gd_rL (gd_rL (gd_rL (gd_rL w4 31 (vp_updL (w4.2.1 31) (4 * gs_made S + 0) 0)) 31 (vp_updL ((gd_rL w4 31 (vp_updL (w4.2.1 31) (4 * gs_made S + 0) 0)).2.1 31) (4 * gs_made S + 1) 1)) 31 (vp_updL ((gd_rL (gd_rL w4 31 (vp_updL (w4.2.1 31) (4 * gs_made S + 0) 0)) 31 (vp_updL ((gd_rL w4 31 (vp_updL (w4.2.1 31) (4 * gs_made S + 0) 0)).2.1 31) (4 * gs_made S + 1) 1)).2.1 31) (4 * gs_made S + 2) 0)) 31 (vp_updL ((gd_rL (gd_rL (gd_rL w4 31 (vp_updL (w4.2.1 31) (4 * gs_made S + 0) 0)) 31 (vp_updL ((gd_rL w4 31 (vp_updL (w4.2.1 31) (4 * gs_made S + 0) 0)).2.1 31) (4 * gs_made S + 1) 1)) 31 (vp_updL ((gd_rL (gd_rL w4 31 (vp_updL (w4.2.1 31) (4 * gs_made S + 0) 0)) 31 (vp_updL ((gd_rL w4 31 (vp_updL (w4.2.1 31) (4 * gs_made S + 0) 0)).2.1 31) (4 * gs_made S + 1) 1)).2.1 31) (4 * gs_made S + 2) 0)).2.1 31) (4 * gs_made S + 3) 0)).1 32) (gs_made S) 0)) ?_ (rfl) (by rw [nI_1]) (rfl)
                  refine gd_r E K 2 (pc' := 181) (lv' := [(0, .ref 27), (1, .int (nI 1)), (2, .int (gm_nO (some c0))), (3, .int (nI (gs_made S))), (4, .int 4)]) (st' := [.int (nI (gs_made S))]) (w' := gd_rI (gd_rI (gd_rL (gd_rL (gd_rL (gd_rL w4 31 (vp_updL (w4.2.1 31) (4 * gs_made S + 0) 0)) 31 (vp_updL ((gd_rL w4 31 (vp_updL (w4.2.1 31) (4 * gs_made S + 0) 0)).2.1 31) (4 * gs_made S + 1) 1)) 31 (vp_updL ((gd_rL (gd_rL w4 31 (vp_updL (w4.2.1 31) (4 * gs_made S + 0) 0)) 31 (vp_updL ((gd_rL w4 31 (vp_updL (w4.2.1 31) (4 * gs_made S + 0) 0)).2.1 31) (4 * gs_made S + 1) 1)).2.1 31) (4 * gs_made S + 2) 0)) 31 (vp_updL ((gd_rL (gd_rL (gd_rL w4 31 (vp_updL (w4.2.1 31) (4 * gs_made S + 0) 0)) 31 (vp_updL ((gd_rL w4 31 (vp_updL (w4.2.1 31) (4 * gs_made S + 0) 0)).2.1 31) (4 * gs_made S + 1) 1)) 31 (vp_updL ((gd_rL (gd_rL w4 31 (vp_updL (w4.2.1 31) (4 * gs_made S + 0) 0)) 31 (vp_updL ((gd_rL w4 31 (vp_updL (w4.2.1 31) (4 * gs_made S + 0) 0)).2.1 31) (4 * gs_made S + 1) 1)).2.1 31) (4 * gs_made S + 2) 0)).2.1 31) (4 * gs_made S + 3) 0)) 32 (upd ((gd_rL (gd_rL (gd_rL (gd_rL w4 31 (vp_updL (w4.2.1 31) (4 * gs_made S + 0) 0)) 31 (vp_updL ((gd_rL w4 31 (vp_updL (w4.2.1 31) (4 * gs_made S + 0) 0)).2.1 31) (4 * gs_made S + 1) 1)) 31 (vp_updL ((gd_rL (gd_rL w4 31 (vp_updL (w4.2.1 31) (4 * gs_made S + 0) 0)) 31 (vp_updL ((gd_rL w4 31 (vp_updL (w4.2.1 31) (4 * gs_made S + 0) 0)).2.1 31) (4 * gs_made S + 1) 1)).2.1 31) (4 * gs_made S + 2) 0)) 31 (vp_updL ((gd_rL (gd_rL (gd_rL w4 31 (vp_updL (w4.2.1 31) (4 * gs_made S + 0) 0)) 31 (vp_updL ((gd_rL w4 31 (vp_updL (w4.2.1 31) (4 * gs_made S + 0) 0)).2.1 31) (4 * gs_made S + 1) 1)) 31 (vp_updL ((gd_rL (gd_rL w4 31 (vp_updL (w4.2.1 31) (4 * gs_made S + 0) 0)) 31 (vp_updL ((gd_rL w4 31 (vp_updL (w4.2.1 31) (4 * gs_made S + 0) 0)).2.1 31) (4 * gs_made S + 1) 1)).2.1 31) (4 * gs_made S + 2) 0)).2.1 31) (4 * gs_made S + 3) 0)).1 32) (gs_made S) 0)) 27 (upd ((gd_rI (gd_rL (gd_rL (gd_rL (gd_rL w4 31 (vp_updL (w4.2.1 31) (4 * gs_made S + 0) 0)) 31 (vp_updL ((gd_rL w4 31 (vp_updL (w4.2.1 31) (4 * gs_made S + 0) 0)).2.1 31) (4 * gs_made S + 1) 1)) 31 (vp_updL ((gd_rL (gd_rL w4 31 (vp_updL (w4.2.1 31) (4 * gs_made S + 0) 0)) 31 (vp_updL ((gd_rL w4 31 (vp_updL (w4.2.1 31) (4 * gs_made S + 0) 0)).2.1 31) (4 * gs_made S + 1) 1)).2.1 31) (4 * gs_made S + 2) 0)) 31 (vp_updL ((gd_rL (gd_rL (gd_rL w4 31 (vp_updL (w4.2.1 31) (4 * gs_made S + 0) 0)) 31 (vp_updL ((gd_rL w4 31 (vp_updL (w4.2.1 31) (4 * gs_made S + 0) 0)).2.1 31) (4 * gs_made S + 1) 1)) 31 (vp_updL ((gd_rL (gd_rL w4 31 (vp_updL (w4.2.1 31) (4 * gs_made S + 0) 0)) 31 (vp_updL ((gd_rL w4 31 (vp_updL (w4.2.1 31) (4 * gs_made S + 0) 0)).2.1 31) (4 * gs_made S + 1) 1)).2.1 31) (4 * gs_made S + 2) 0)).2.1 31) (4 * gs_made S + 3) 0)) 32 (upd ((gd_rL (gd_rL (gd_rL (gd_rL w4 31 (vp_updL (w4.2.1 31) (4 * gs_made S + 0) 0)) 31 (vp_updL ((gd_rL w4 31 (vp_updL (w4.2.1 31) (4 * gs_made S + 0) 0)).2.1 31) (4 * gs_made S + 1) 1)) 31 (vp_updL ((gd_rL (gd_rL w4 31 (vp_updL (w4.2.1 31) (4 * gs_made S + 0) 0)) 31 (vp_updL ((gd_rL w4 31 (vp_updL (w4.2.1 31) (4 * gs_made S + 0) 0)).2.1 31) (4 * gs_made S + 1) 1)).2.1 31) (4 * gs_made S + 2) 0)) 31 (vp_updL ((gd_rL (gd_rL (gd_rL w4 31 (vp_updL (w4.2.1 31) (4 * gs_made S + 0) 0)) 31 (vp_updL ((gd_rL w4 31 (vp_updL (w4.2.1 31) (4 * gs_made S + 0) 0)).2.1 31) (4 * gs_made S + 1) 1)) 31 (vp_updL ((gd_rL (gd_rL w4 31 (vp_updL (w4.2.1 31) (4 * gs_made S + 0) 0)) 31 (vp_updL ((gd_rL w4 31 (vp_updL (w4.2.1 31) (4 * gs_made S + 0) 0)).2.1 31) (4 * gs_made S + 1) 1)).2.1 31) (4 * gs_made S + 2) 0)).2.1 31) (4 * gs_made S + 3) 0)).1 32) (gs_made S) 0)).1 27) 12 (nI (gs_out S + 1)))) rfl ?_
                  exact gd_iretp E hr hlk (K.1 181 (.ireturn, 0) rfl).1 (⟨rfl, hc4, ⟨G4, (((((hR4.sset (gs_made S) 0 _ (by decide)).sset (gs_made S) 1 _ (by decide)).sset (gs_made S) 2 _ (by decide)).sset (gs_made S) 3 _ (by decide)).f2 (gs_made S) 0 (by decide)).out (gs_out S + 1) (hout (by omega))⟩, hf2.trans ((gf_m.I _ (by decide) _).trans (hf4.trans ((gf_m.L _ (by decide) _).trans ((gf_m.L _ (by decide) _).trans ((gf_m.L _ (by decide) _).trans ((gf_m.L _ (by decide) _).trans ((gf_m.I _ (by decide) _).trans (gf_m.I _ (by decide) _))))))))⟩)
                · refine gd_r E K 17 (pc' := 156) (lv' := [(0, .ref 27), (1, .int (nI 2)), (2, .int (gm_nO (some c0))), (3, .int (nI (gs_made S))), (4, .int 0)]) (st' := [.long 0, .int ((4 * (nI (gs_made S))) + 0), .ref 31]) (w' := w4) rfl ?_
                  refine gd_last E (K.1 156 (.lastore, 0) rfl).1 (j := 4 * gs_made S + 0) (by decide) (rfl) (by rw [show (4 : Int32) = nI 4 from rfl, pk_mul, show (0 : Int32) = nI 0 from rfl, nI_add]) (by omega) (by decide) ?_
                  refine gd_r E K 16 (pc' := 156) (lv' := [(0, .ref 27), (1, .int (nI 2)), (2, .int (gm_nO (some c0))), (3, .int (nI (gs_made S))), (4, .int 1)]) (st' := [.long 0, .int ((4 * (nI (gs_made S))) + 1), .ref 31]) (w' := gd_rL w4 31 (vp_updL (w4.2.1 31) (4 * gs_made S + 0) 0)) rfl ?_
                  refine gd_last E (K.1 156 (.lastore, 0) rfl).1 (j := 4 * gs_made S + 1) (by decide) (rfl) (by rw [show (4 : Int32) = nI 4 from rfl, pk_mul, show (1 : Int32) = nI 1 from rfl, nI_add]) (by omega) (by decide) ?_
                  refine gd_r E K 17 (pc' := 156) (lv' := [(0, .ref 27), (1, .int (nI 2)), (2, .int (gm_nO (some c0))), (3, .int (nI (gs_made S))), (4, .int 2)]) (st' := [.long 1, .int ((4 * (nI (gs_made S))) + 2), .ref 31]) (w' := gd_rL (gd_rL w4 31 (vp_updL (w4.2.1 31) (4 * gs_made S + 0) 0)) 31 (vp_updL ((gd_rL w4 31 (vp_updL (w4.2.1 31) (4 * gs_made S + 0) 0)).2.1 31) (4 * gs_made S + 1) 0)) rfl ?_
                  refine gd_last E (K.1 156 (.lastore, 0) rfl).1 (j := 4 * gs_made S + 2) (by decide) (rfl) (by rw [show (4 : Int32) = nI 4 from rfl, pk_mul, show (2 : Int32) = nI 2 from rfl, nI_add]) (by omega) (by decide) ?_
                  refine gd_r E K 16 (pc' := 156) (lv' := [(0, .ref 27), (1, .int (nI 2)), (2, .int (gm_nO (some c0))), (3, .int (nI (gs_made S))), (4, .int 3)]) (st' := [.long 0, .int ((4 * (nI (gs_made S))) + 3), .ref 31]) (w' := gd_rL (gd_rL (gd_rL w4 31 (vp_updL (w4.2.1 31) (4 * gs_made S + 0) 0)) 31 (vp_updL ((gd_rL w4 31 (vp_updL (w4.2.1 31) (4 * gs_made S + 0) 0)).2.1 31) (4 * gs_made S + 1) 0)) 31 (vp_updL ((gd_rL (gd_rL w4 31 (vp_updL (w4.2.1 31) (4 * gs_made S + 0) 0)) 31 (vp_updL ((gd_rL w4 31 (vp_updL (w4.2.1 31) (4 * gs_made S + 0) 0)).2.1 31) (4 * gs_made S + 1) 0)).2.1 31) (4 * gs_made S + 2) 1)) rfl ?_
                  refine gd_last E (K.1 156 (.lastore, 0) rfl).1 (j := 4 * gs_made S + 3) (by decide) (rfl) (by rw [show (4 : Int32) = nI 4 from rfl, pk_mul, show (3 : Int32) = nI 3 from rfl, nI_add]) (by omega) (by decide) ?_
                  refine gd_r E K 9 (pc' := 169) (lv' := [(0, .ref 27), (1, .int (nI 2)), (2, .int (gm_nO (some c0))), (3, .int (nI (gs_made S))), (4, .int 4)]) (st' := [.int 0, .int (nI (gs_made S)), .ref 32]) (w' := gd_rL (gd_rL (gd_rL (gd_rL w4 31 (vp_updL (w4.2.1 31) (4 * gs_made S + 0) 0)) 31 (vp_updL ((gd_rL w4 31 (vp_updL (w4.2.1 31) (4 * gs_made S + 0) 0)).2.1 31) (4 * gs_made S + 1) 0)) 31 (vp_updL ((gd_rL (gd_rL w4 31 (vp_updL (w4.2.1 31) (4 * gs_made S + 0) 0)) 31 (vp_updL ((gd_rL w4 31 (vp_updL (w4.2.1 31) (4 * gs_made S + 0) 0)).2.1 31) (4 * gs_made S + 1) 0)).2.1 31) (4 * gs_made S + 2) 1)) 31 (vp_updL ((gd_rL (gd_rL (gd_rL w4 31 (vp_updL (w4.2.1 31) (4 * gs_made S + 0) 0)) 31 (vp_updL ((gd_rL w4 31 (vp_updL (w4.2.1 31) (4 * gs_made S + 0) 0)).2.1 31) (4 * gs_made S + 1) 0)) 31 (vp_updL ((gd_rL (gd_rL w4 31 (vp_updL (w4.2.1 31) (4 * gs_made S + 0) 0)) 31 (vp_updL ((gd_rL w4 31 (vp_updL (w4.2.1 31) (4 * gs_made S + 0) 0)).2.1 31) (4 * gs_made S + 1) 0)).2.1 31) (4 * gs_made S + 2) 1)).2.1 31) (4 * gs_made S + 3) 0)) rfl ?_
                  refine gd_iast E (K.1 169 (.iastore, 0) rfl).1 (j := gs_made S) (by decide) (rfl) (rfl) (by omega) (by decide) ?_
                  refine gd_r E K 5 (pc' := 177) (lv' := [(0, .ref 27), (1, .int (nI 2)), (2, .int (gm_nO (some c0))), (3, .int (nI (gs_made S))), (4, .int 4)]) (st' := [.int ((w4.1 27 12) + 1), .ref 27]) (w' := gd_rI (gd_rL (gd_rL (gd_rL (gd_rL w4 31 (vp_updL (w4.2.1 31) (4 * gs_made S + 0) 0)) 31 (vp_updL ((gd_rL w4 31 (vp_updL (w4.2.1 31) (4 * gs_made S + 0) 0)).2.1 31) (4 * gs_made S + 1) 0)) 31 (vp_updL ((gd_rL (gd_rL w4 31 (vp_updL (w4.2.1 31) (4 * gs_made S + 0) 0)) 31 (vp_updL ((gd_rL w4 31 (vp_updL (w4.2.1 31) (4 * gs_made S + 0) 0)).2.1 31) (4 * gs_made S + 1) 0)).2.1 31) (4 * gs_made S + 2) 1)) 31 (vp_updL ((gd_rL (gd_rL (gd_rL w4 31 (vp_updL (w4.2.1 31) (4 * gs_made S + 0) 0)) 31 (vp_updL ((gd_rL w4 31 (vp_updL (w4.2.1 31) (4 * gs_made S + 0) 0)).2.1 31) (4 * gs_made S + 1) 0)) 31 (vp_updL ((gd_rL (gd_rL w4 31 (vp_updL (w4.2.1 31) (4 * gs_made S + 0) 0)) 31 (vp_updL ((gd_rL w4 31 (vp_updL (w4.2.1 31) (4 * gs_made S + 0) 0)).2.1 31) (4 * gs_made S + 1) 0)).2.1 31) (4 * gs_made S + 2) 1)).2.1 31) (4 * gs_made S + 3) 0)) 32 (upd ((gd_rL (gd_rL (gd_rL (gd_rL w4 31 (vp_updL (w4.2.1 31) (4 * gs_made S + 0) 0)) 31 (vp_updL ((gd_rL w4 31 (vp_updL (w4.2.1 31) (4 * gs_made S + 0) 0)).2.1 31) (4 * gs_made S + 1) 0)) 31 (vp_updL ((gd_rL (gd_rL w4 31 (vp_updL (w4.2.1 31) (4 * gs_made S + 0) 0)) 31 (vp_updL ((gd_rL w4 31 (vp_updL (w4.2.1 31) (4 * gs_made S + 0) 0)).2.1 31) (4 * gs_made S + 1) 0)).2.1 31) (4 * gs_made S + 2) 1)) 31 (vp_updL ((gd_rL (gd_rL (gd_rL w4 31 (vp_updL (w4.2.1 31) (4 * gs_made S + 0) 0)) 31 (vp_updL ((gd_rL w4 31 (vp_updL (w4.2.1 31) (4 * gs_made S + 0) 0)).2.1 31) (4 * gs_made S + 1) 0)) 31 (vp_updL ((gd_rL (gd_rL w4 31 (vp_updL (w4.2.1 31) (4 * gs_made S + 0) 0)) 31 (vp_updL ((gd_rL w4 31 (vp_updL (w4.2.1 31) (4 * gs_made S + 0) 0)).2.1 31) (4 * gs_made S + 1) 0)).2.1 31) (4 * gs_made S + 2) 1)).2.1 31) (4 * gs_made S + 3) 0)).1 32) (gs_made S) 0)) rfl ?_
                  refine gd_cg (lv' := [(0, .ref 27), (1, .int (nI 2)), (2, .int (gm_nO (some c0))), (3, .int (nI (gs_made S))), (4, .int 4)]) (st' := [.int ((nI (gs_out S)) + 1), .ref 27]) (w' := gd_rI (gd_rL (gd_rL (gd_rL (gd_rL w4 31 (vp_updL (w4.2.1 31) (4 * gs_made S + 0) 0)) 31 (vp_updL ((gd_rL w4 31 (vp_updL (w4.2.1 31) (4 * gs_made S + 0) 0)).2.1 31) (4 * gs_made S + 1) 0)) 31 (vp_updL ((gd_rL (gd_rL w4 31 (vp_updL (w4.2.1 31) (4 * gs_made S + 0) 0)) 31 (vp_updL ((gd_rL w4 31 (vp_updL (w4.2.1 31) (4 * gs_made S + 0) 0)).2.1 31) (4 * gs_made S + 1) 0)).2.1 31) (4 * gs_made S + 2) 1)) 31 (vp_updL ((gd_rL (gd_rL (gd_rL w4 31 (vp_updL (w4.2.1 31) (4 * gs_made S + 0) 0)) 31 (vp_updL ((gd_rL w4 31 (vp_updL (w4.2.1 31) (4 * gs_made S + 0) 0)).2.1 31) (4 * gs_made S + 1) 0)) 31 (vp_updL ((gd_rL (gd_rL w4 31 (vp_updL (w4.2.1 31) (4 * gs_made S + 0) 0)) 31 (vp_updL ((gd_rL w4 31 (vp_updL (w4.2.1 31) (4 * gs_made S + 0) 0)).2.1 31) (4 * gs_made S + 1) 0)).2.1 31) (4 * gs_made S + 2) 1)).2.1 31) (4 * gs_made S + 3) 0)) 32 (upd ((gd_rL (gd_rL (gd_rL (gd_rL w4 31 (vp_updL (w4.2.1 31) (4 * gs_made S + 0) 0)) 31 (vp_updL ((gd_rL w4 31 (vp_updL (w4.2.1 31) (4 * gs_made S + 0) 0)).2.1 31) (4 * gs_made S + 1) 0)) 31 (vp_updL ((gd_rL (gd_rL w4 31 (vp_updL (w4.2.1 31) (4 * gs_made S + 0) 0)) 31 (vp_updL ((gd_rL w4 31 (vp_updL (w4.2.1 31) (4 * gs_made S + 0) 0)).2.1 31) (4 * gs_made S + 1) 0)).2.1 31) (4 * gs_made S + 2) 1)) 31 (vp_updL ((gd_rL (gd_rL (gd_rL w4 31 (vp_updL (w4.2.1 31) (4 * gs_made S + 0) 0)) 31 (vp_updL ((gd_rL w4 31 (vp_updL (w4.2.1 31) (4 * gs_made S + 0) 0)).2.1 31) (4 * gs_made S + 1) 0)) 31 (vp_updL ((gd_rL (gd_rL w4 31 (vp_updL (w4.2.1 31) (4 * gs_made S + 0) 0)) 31 (vp_updL ((gd_rL w4 31 (vp_updL (w4.2.1 31) (4 * gs_made S + 0) 0)).2.1 31) (4 * gs_made S + 1) 0)).2.1 31) (4 * gs_made S + 2) 1)).2.1 31) (4 * gs_made S + 3) 0)).1 32) (gs_made S) 0)) ?_ (rfl) (by simp only [ho4]) rfl
                  refine gd_cg (lv' := [(0, .ref 27), (1, .int (nI 2)), (2, .int (gm_nO (some c0))), (3, .int (nI (gs_made S))), (4, .int 4)]) (st' := [.int (nI (gs_out S + 1)), .ref 27]) (w' := gd_rI (gd_rL (gd_rL (gd_rL (gd_rL w4 31 (vp_updL (w4.2.1 31) (4 * gs_made S + 0) 0)) 31 (vp_updL ((gd_rL w4 31 (vp_updL (w4.2.1 31) (4 * gs_made S + 0) 0)).2.1 31) (4 * gs_made S + 1) 0)) 31 (vp_updL ((gd_rL (gd_rL w4 31 (vp_updL (w4.2.1 31) (4 * gs_made S + 0) 0)) 31 (vp_updL ((gd_rL w4 31 (vp_updL (w4.2.1 31) (4 * gs_made S + 0) 0)).2.1 31) (4 * gs_made S + 1) 0)).2.1 31) (4 * gs_made S + 2) 1)) 31 (vp_updL ((gd_rL (gd_rL (gd_rL w4 31 (vp_updL (w4.2.1 31) (4 * gs_made S + 0) 0)) 31 (vp_updL ((gd_rL w4 31 (vp_updL (w4.2.1 31) (4 * gs_made S + 0) 0)).2.1 31) (4 * gs_made S + 1) 0)) 31 (vp_updL ((gd_rL (gd_rL w4 31 (vp_updL (w4.2.1 31) (4 * gs_made S + 0) 0)) 31 (vp_updL ((gd_rL w4 31 (vp_updL (w4.2.1 31) (4 * gs_made S + 0) 0)).2.1 31) (4 * gs_made S + 1) 0)).2.1 31) (4 * gs_made S + 2) 1)).2.1 31) (4 * gs_made S + 3) 0)) 32 (upd ((gd_rL (gd_rL (gd_rL (gd_rL w4 31 (vp_updL (w4.2.1 31) (4 * gs_made S + 0) 0)) 31 (vp_updL ((gd_rL w4 31 (vp_updL (w4.2.1 31) (4 * gs_made S + 0) 0)).2.1 31) (4 * gs_made S + 1) 0)) 31 (vp_updL ((gd_rL (gd_rL w4 31 (vp_updL (w4.2.1 31) (4 * gs_made S + 0) 0)) 31 (vp_updL ((gd_rL w4 31 (vp_updL (w4.2.1 31) (4 * gs_made S + 0) 0)).2.1 31) (4 * gs_made S + 1) 0)).2.1 31) (4 * gs_made S + 2) 1)) 31 (vp_updL ((gd_rL (gd_rL (gd_rL w4 31 (vp_updL (w4.2.1 31) (4 * gs_made S + 0) 0)) 31 (vp_updL ((gd_rL w4 31 (vp_updL (w4.2.1 31) (4 * gs_made S + 0) 0)).2.1 31) (4 * gs_made S + 1) 0)) 31 (vp_updL ((gd_rL (gd_rL w4 31 (vp_updL (w4.2.1 31) (4 * gs_made S + 0) 0)) 31 (vp_updL ((gd_rL w4 31 (vp_updL (w4.2.1 31) (4 * gs_made S + 0) 0)).2.1 31) (4 * gs_made S + 1) 0)).2.1 31) (4 * gs_made S + 2) 1)).2.1 31) (4 * gs_made S + 3) 0)).1 32) (gs_made S) 0)) ?_ (rfl) (by rw [nI_1]) (rfl)
                  refine gd_r E K 2 (pc' := 181) (lv' := [(0, .ref 27), (1, .int (nI 2)), (2, .int (gm_nO (some c0))), (3, .int (nI (gs_made S))), (4, .int 4)]) (st' := [.int (nI (gs_made S))]) (w' := gd_rI (gd_rI (gd_rL (gd_rL (gd_rL (gd_rL w4 31 (vp_updL (w4.2.1 31) (4 * gs_made S + 0) 0)) 31 (vp_updL ((gd_rL w4 31 (vp_updL (w4.2.1 31) (4 * gs_made S + 0) 0)).2.1 31) (4 * gs_made S + 1) 0)) 31 (vp_updL ((gd_rL (gd_rL w4 31 (vp_updL (w4.2.1 31) (4 * gs_made S + 0) 0)) 31 (vp_updL ((gd_rL w4 31 (vp_updL (w4.2.1 31) (4 * gs_made S + 0) 0)).2.1 31) (4 * gs_made S + 1) 0)).2.1 31) (4 * gs_made S + 2) 1)) 31 (vp_updL ((gd_rL (gd_rL (gd_rL w4 31 (vp_updL (w4.2.1 31) (4 * gs_made S + 0) 0)) 31 (vp_updL ((gd_rL w4 31 (vp_updL (w4.2.1 31) (4 * gs_made S + 0) 0)).2.1 31) (4 * gs_made S + 1) 0)) 31 (vp_updL ((gd_rL (gd_rL w4 31 (vp_updL (w4.2.1 31) (4 * gs_made S + 0) 0)) 31 (vp_updL ((gd_rL w4 31 (vp_updL (w4.2.1 31) (4 * gs_made S + 0) 0)).2.1 31) (4 * gs_made S + 1) 0)).2.1 31) (4 * gs_made S + 2) 1)).2.1 31) (4 * gs_made S + 3) 0)) 32 (upd ((gd_rL (gd_rL (gd_rL (gd_rL w4 31 (vp_updL (w4.2.1 31) (4 * gs_made S + 0) 0)) 31 (vp_updL ((gd_rL w4 31 (vp_updL (w4.2.1 31) (4 * gs_made S + 0) 0)).2.1 31) (4 * gs_made S + 1) 0)) 31 (vp_updL ((gd_rL (gd_rL w4 31 (vp_updL (w4.2.1 31) (4 * gs_made S + 0) 0)) 31 (vp_updL ((gd_rL w4 31 (vp_updL (w4.2.1 31) (4 * gs_made S + 0) 0)).2.1 31) (4 * gs_made S + 1) 0)).2.1 31) (4 * gs_made S + 2) 1)) 31 (vp_updL ((gd_rL (gd_rL (gd_rL w4 31 (vp_updL (w4.2.1 31) (4 * gs_made S + 0) 0)) 31 (vp_updL ((gd_rL w4 31 (vp_updL (w4.2.1 31) (4 * gs_made S + 0) 0)).2.1 31) (4 * gs_made S + 1) 0)) 31 (vp_updL ((gd_rL (gd_rL w4 31 (vp_updL (w4.2.1 31) (4 * gs_made S + 0) 0)) 31 (vp_updL ((gd_rL w4 31 (vp_updL (w4.2.1 31) (4 * gs_made S + 0) 0)).2.1 31) (4 * gs_made S + 1) 0)).2.1 31) (4 * gs_made S + 2) 1)).2.1 31) (4 * gs_made S + 3) 0)).1 32) (gs_made S) 0)) 27 (upd ((gd_rI (gd_rL (gd_rL (gd_rL (gd_rL w4 31 (vp_updL (w4.2.1 31) (4 * gs_made S + 0) 0)) 31 (vp_updL ((gd_rL w4 31 (vp_updL (w4.2.1 31) (4 * gs_made S + 0) 0)).2.1 31) (4 * gs_made S + 1) 0)) 31 (vp_updL ((gd_rL (gd_rL w4 31 (vp_updL (w4.2.1 31) (4 * gs_made S + 0) 0)) 31 (vp_updL ((gd_rL w4 31 (vp_updL (w4.2.1 31) (4 * gs_made S + 0) 0)).2.1 31) (4 * gs_made S + 1) 0)).2.1 31) (4 * gs_made S + 2) 1)) 31 (vp_updL ((gd_rL (gd_rL (gd_rL w4 31 (vp_updL (w4.2.1 31) (4 * gs_made S + 0) 0)) 31 (vp_updL ((gd_rL w4 31 (vp_updL (w4.2.1 31) (4 * gs_made S + 0) 0)).2.1 31) (4 * gs_made S + 1) 0)) 31 (vp_updL ((gd_rL (gd_rL w4 31 (vp_updL (w4.2.1 31) (4 * gs_made S + 0) 0)) 31 (vp_updL ((gd_rL w4 31 (vp_updL (w4.2.1 31) (4 * gs_made S + 0) 0)).2.1 31) (4 * gs_made S + 1) 0)).2.1 31) (4 * gs_made S + 2) 1)).2.1 31) (4 * gs_made S + 3) 0)) 32 (upd ((gd_rL (gd_rL (gd_rL (gd_rL w4 31 (vp_updL (w4.2.1 31) (4 * gs_made S + 0) 0)) 31 (vp_updL ((gd_rL w4 31 (vp_updL (w4.2.1 31) (4 * gs_made S + 0) 0)).2.1 31) (4 * gs_made S + 1) 0)) 31 (vp_updL ((gd_rL (gd_rL w4 31 (vp_updL (w4.2.1 31) (4 * gs_made S + 0) 0)) 31 (vp_updL ((gd_rL w4 31 (vp_updL (w4.2.1 31) (4 * gs_made S + 0) 0)).2.1 31) (4 * gs_made S + 1) 0)).2.1 31) (4 * gs_made S + 2) 1)) 31 (vp_updL ((gd_rL (gd_rL (gd_rL w4 31 (vp_updL (w4.2.1 31) (4 * gs_made S + 0) 0)) 31 (vp_updL ((gd_rL w4 31 (vp_updL (w4.2.1 31) (4 * gs_made S + 0) 0)).2.1 31) (4 * gs_made S + 1) 0)) 31 (vp_updL ((gd_rL (gd_rL w4 31 (vp_updL (w4.2.1 31) (4 * gs_made S + 0) 0)) 31 (vp_updL ((gd_rL w4 31 (vp_updL (w4.2.1 31) (4 * gs_made S + 0) 0)).2.1 31) (4 * gs_made S + 1) 0)).2.1 31) (4 * gs_made S + 2) 1)).2.1 31) (4 * gs_made S + 3) 0)).1 32) (gs_made S) 0)).1 27) 12 (nI (gs_out S + 1)))) rfl ?_
                  exact gd_iretp E hr hlk (K.1 181 (.ireturn, 0) rfl).1 (⟨rfl, hc4, ⟨G4, (((((hR4.sset (gs_made S) 0 _ (by decide)).sset (gs_made S) 1 _ (by decide)).sset (gs_made S) 2 _ (by decide)).sset (gs_made S) 3 _ (by decide)).f2 (gs_made S) 0 (by decide)).out (gs_out S + 1) (hout (by omega))⟩, hf2.trans ((gf_m.I _ (by decide) _).trans (hf4.trans ((gf_m.L _ (by decide) _).trans ((gf_m.L _ (by decide) _).trans ((gf_m.L _ (by decide) _).trans ((gf_m.L _ (by decide) _).trans ((gf_m.I _ (by decide) _).trans (gf_m.I _ (by decide) _))))))))⟩)
                · refine gd_r E K 17 (pc' := 156) (lv' := [(0, .ref 27), (1, .int (nI 3)), (2, .int (gm_nO (some c0))), (3, .int (nI (gs_made S))), (4, .int 0)]) (st' := [.long 0, .int ((4 * (nI (gs_made S))) + 0), .ref 31]) (w' := w4) rfl ?_
                  refine gd_last E (K.1 156 (.lastore, 0) rfl).1 (j := 4 * gs_made S + 0) (by decide) (rfl) (by rw [show (4 : Int32) = nI 4 from rfl, pk_mul, show (0 : Int32) = nI 0 from rfl, nI_add]) (by omega) (by decide) ?_
                  refine gd_r E K 16 (pc' := 156) (lv' := [(0, .ref 27), (1, .int (nI 3)), (2, .int (gm_nO (some c0))), (3, .int (nI (gs_made S))), (4, .int 1)]) (st' := [.long 0, .int ((4 * (nI (gs_made S))) + 1), .ref 31]) (w' := gd_rL w4 31 (vp_updL (w4.2.1 31) (4 * gs_made S + 0) 0)) rfl ?_
                  refine gd_last E (K.1 156 (.lastore, 0) rfl).1 (j := 4 * gs_made S + 1) (by decide) (rfl) (by rw [show (4 : Int32) = nI 4 from rfl, pk_mul, show (1 : Int32) = nI 1 from rfl, nI_add]) (by omega) (by decide) ?_
                  refine gd_r E K 16 (pc' := 156) (lv' := [(0, .ref 27), (1, .int (nI 3)), (2, .int (gm_nO (some c0))), (3, .int (nI (gs_made S))), (4, .int 2)]) (st' := [.long 0, .int ((4 * (nI (gs_made S))) + 2), .ref 31]) (w' := gd_rL (gd_rL w4 31 (vp_updL (w4.2.1 31) (4 * gs_made S + 0) 0)) 31 (vp_updL ((gd_rL w4 31 (vp_updL (w4.2.1 31) (4 * gs_made S + 0) 0)).2.1 31) (4 * gs_made S + 1) 0)) rfl ?_
                  refine gd_last E (K.1 156 (.lastore, 0) rfl).1 (j := 4 * gs_made S + 2) (by decide) (rfl) (by rw [show (4 : Int32) = nI 4 from rfl, pk_mul, show (2 : Int32) = nI 2 from rfl, nI_add]) (by omega) (by decide) ?_
                  refine gd_r E K 17 (pc' := 156) (lv' := [(0, .ref 27), (1, .int (nI 3)), (2, .int (gm_nO (some c0))), (3, .int (nI (gs_made S))), (4, .int 3)]) (st' := [.long 1, .int ((4 * (nI (gs_made S))) + 3), .ref 31]) (w' := gd_rL (gd_rL (gd_rL w4 31 (vp_updL (w4.2.1 31) (4 * gs_made S + 0) 0)) 31 (vp_updL ((gd_rL w4 31 (vp_updL (w4.2.1 31) (4 * gs_made S + 0) 0)).2.1 31) (4 * gs_made S + 1) 0)) 31 (vp_updL ((gd_rL (gd_rL w4 31 (vp_updL (w4.2.1 31) (4 * gs_made S + 0) 0)) 31 (vp_updL ((gd_rL w4 31 (vp_updL (w4.2.1 31) (4 * gs_made S + 0) 0)).2.1 31) (4 * gs_made S + 1) 0)).2.1 31) (4 * gs_made S + 2) 0)) rfl ?_
                  refine gd_last E (K.1 156 (.lastore, 0) rfl).1 (j := 4 * gs_made S + 3) (by decide) (rfl) (by rw [show (4 : Int32) = nI 4 from rfl, pk_mul, show (3 : Int32) = nI 3 from rfl, nI_add]) (by omega) (by decide) ?_
                  refine gd_r E K 9 (pc' := 169) (lv' := [(0, .ref 27), (1, .int (nI 3)), (2, .int (gm_nO (some c0))), (3, .int (nI (gs_made S))), (4, .int 4)]) (st' := [.int 0, .int (nI (gs_made S)), .ref 32]) (w' := gd_rL (gd_rL (gd_rL (gd_rL w4 31 (vp_updL (w4.2.1 31) (4 * gs_made S + 0) 0)) 31 (vp_updL ((gd_rL w4 31 (vp_updL (w4.2.1 31) (4 * gs_made S + 0) 0)).2.1 31) (4 * gs_made S + 1) 0)) 31 (vp_updL ((gd_rL (gd_rL w4 31 (vp_updL (w4.2.1 31) (4 * gs_made S + 0) 0)) 31 (vp_updL ((gd_rL w4 31 (vp_updL (w4.2.1 31) (4 * gs_made S + 0) 0)).2.1 31) (4 * gs_made S + 1) 0)).2.1 31) (4 * gs_made S + 2) 0)) 31 (vp_updL ((gd_rL (gd_rL (gd_rL w4 31 (vp_updL (w4.2.1 31) (4 * gs_made S + 0) 0)) 31 (vp_updL ((gd_rL w4 31 (vp_updL (w4.2.1 31) (4 * gs_made S + 0) 0)).2.1 31) (4 * gs_made S + 1) 0)) 31 (vp_updL ((gd_rL (gd_rL w4 31 (vp_updL (w4.2.1 31) (4 * gs_made S + 0) 0)) 31 (vp_updL ((gd_rL w4 31 (vp_updL (w4.2.1 31) (4 * gs_made S + 0) 0)).2.1 31) (4 * gs_made S + 1) 0)).2.1 31) (4 * gs_made S + 2) 0)).2.1 31) (4 * gs_made S + 3) 1)) rfl ?_
                  refine gd_iast E (K.1 169 (.iastore, 0) rfl).1 (j := gs_made S) (by decide) (rfl) (rfl) (by omega) (by decide) ?_
                  refine gd_r E K 5 (pc' := 177) (lv' := [(0, .ref 27), (1, .int (nI 3)), (2, .int (gm_nO (some c0))), (3, .int (nI (gs_made S))), (4, .int 4)]) (st' := [.int ((w4.1 27 12) + 1), .ref 27]) (w' := gd_rI (gd_rL (gd_rL (gd_rL (gd_rL w4 31 (vp_updL (w4.2.1 31) (4 * gs_made S + 0) 0)) 31 (vp_updL ((gd_rL w4 31 (vp_updL (w4.2.1 31) (4 * gs_made S + 0) 0)).2.1 31) (4 * gs_made S + 1) 0)) 31 (vp_updL ((gd_rL (gd_rL w4 31 (vp_updL (w4.2.1 31) (4 * gs_made S + 0) 0)) 31 (vp_updL ((gd_rL w4 31 (vp_updL (w4.2.1 31) (4 * gs_made S + 0) 0)).2.1 31) (4 * gs_made S + 1) 0)).2.1 31) (4 * gs_made S + 2) 0)) 31 (vp_updL ((gd_rL (gd_rL (gd_rL w4 31 (vp_updL (w4.2.1 31) (4 * gs_made S + 0) 0)) 31 (vp_updL ((gd_rL w4 31 (vp_updL (w4.2.1 31) (4 * gs_made S + 0) 0)).2.1 31) (4 * gs_made S + 1) 0)) 31 (vp_updL ((gd_rL (gd_rL w4 31 (vp_updL (w4.2.1 31) (4 * gs_made S + 0) 0)) 31 (vp_updL ((gd_rL w4 31 (vp_updL (w4.2.1 31) (4 * gs_made S + 0) 0)).2.1 31) (4 * gs_made S + 1) 0)).2.1 31) (4 * gs_made S + 2) 0)).2.1 31) (4 * gs_made S + 3) 1)) 32 (upd ((gd_rL (gd_rL (gd_rL (gd_rL w4 31 (vp_updL (w4.2.1 31) (4 * gs_made S + 0) 0)) 31 (vp_updL ((gd_rL w4 31 (vp_updL (w4.2.1 31) (4 * gs_made S + 0) 0)).2.1 31) (4 * gs_made S + 1) 0)) 31 (vp_updL ((gd_rL (gd_rL w4 31 (vp_updL (w4.2.1 31) (4 * gs_made S + 0) 0)) 31 (vp_updL ((gd_rL w4 31 (vp_updL (w4.2.1 31) (4 * gs_made S + 0) 0)).2.1 31) (4 * gs_made S + 1) 0)).2.1 31) (4 * gs_made S + 2) 0)) 31 (vp_updL ((gd_rL (gd_rL (gd_rL w4 31 (vp_updL (w4.2.1 31) (4 * gs_made S + 0) 0)) 31 (vp_updL ((gd_rL w4 31 (vp_updL (w4.2.1 31) (4 * gs_made S + 0) 0)).2.1 31) (4 * gs_made S + 1) 0)) 31 (vp_updL ((gd_rL (gd_rL w4 31 (vp_updL (w4.2.1 31) (4 * gs_made S + 0) 0)) 31 (vp_updL ((gd_rL w4 31 (vp_updL (w4.2.1 31) (4 * gs_made S + 0) 0)).2.1 31) (4 * gs_made S + 1) 0)).2.1 31) (4 * gs_made S + 2) 0)).2.1 31) (4 * gs_made S + 3) 1)).1 32) (gs_made S) 0)) rfl ?_
                  refine gd_cg (lv' := [(0, .ref 27), (1, .int (nI 3)), (2, .int (gm_nO (some c0))), (3, .int (nI (gs_made S))), (4, .int 4)]) (st' := [.int ((nI (gs_out S)) + 1), .ref 27]) (w' := gd_rI (gd_rL (gd_rL (gd_rL (gd_rL w4 31 (vp_updL (w4.2.1 31) (4 * gs_made S + 0) 0)) 31 (vp_updL ((gd_rL w4 31 (vp_updL (w4.2.1 31) (4 * gs_made S + 0) 0)).2.1 31) (4 * gs_made S + 1) 0)) 31 (vp_updL ((gd_rL (gd_rL w4 31 (vp_updL (w4.2.1 31) (4 * gs_made S + 0) 0)) 31 (vp_updL ((gd_rL w4 31 (vp_updL (w4.2.1 31) (4 * gs_made S + 0) 0)).2.1 31) (4 * gs_made S + 1) 0)).2.1 31) (4 * gs_made S + 2) 0)) 31 (vp_updL ((gd_rL (gd_rL (gd_rL w4 31 (vp_updL (w4.2.1 31) (4 * gs_made S + 0) 0)) 31 (vp_updL ((gd_rL w4 31 (vp_updL (w4.2.1 31) (4 * gs_made S + 0) 0)).2.1 31) (4 * gs_made S + 1) 0)) 31 (vp_updL ((gd_rL (gd_rL w4 31 (vp_updL (w4.2.1 31) (4 * gs_made S + 0) 0)) 31 (vp_updL ((gd_rL w4 31 (vp_updL (w4.2.1 31) (4 * gs_made S + 0) 0)).2.1 31) (4 * gs_made S + 1) 0)).2.1 31) (4 * gs_made S + 2) 0)).2.1 31) (4 * gs_made S + 3) 1)) 32 (upd ((gd_rL (gd_rL (gd_rL (gd_rL w4 31 (vp_updL (w4.2.1 31) (4 * gs_made S + 0) 0)) 31 (vp_updL ((gd_rL w4 31 (vp_updL (w4.2.1 31) (4 * gs_made S + 0) 0)).2.1 31) (4 * gs_made S + 1) 0)) 31 (vp_updL ((gd_rL (gd_rL w4 31 (vp_updL (w4.2.1 31) (4 * gs_made S + 0) 0)) 31 (vp_updL ((gd_rL w4 31 (vp_updL (w4.2.1 31) (4 * gs_made S + 0) 0)).2.1 31) (4 * gs_made S + 1) 0)).2.1 31) (4 * gs_made S + 2) 0)) 31 (vp_updL ((gd_rL (gd_rL (gd_rL w4 31 (vp_updL (w4.2.1 31) (4 * gs_made S + 0) 0)) 31 (vp_updL ((gd_rL w4 31 (vp_updL (w4.2.1 31) (4 * gs_made S + 0) 0)).2.1 31) (4 * gs_made S + 1) 0)) 31 (vp_updL ((gd_rL (gd_rL w4 31 (vp_updL (w4.2.1 31) (4 * gs_made S + 0) 0)) 31 (vp_updL ((gd_rL w4 31 (vp_updL (w4.2.1 31) (4 * gs_made S + 0) 0)).2.1 31) (4 * gs_made S + 1) 0)).2.1 31) (4 * gs_made S + 2) 0)).2.1 31) (4 * gs_made S + 3) 1)).1 32) (gs_made S) 0)) ?_ (rfl) (by simp only [ho4]) rfl
                  refine gd_cg (lv' := [(0, .ref 27), (1, .int (nI 3)), (2, .int (gm_nO (some c0))), (3, .int (nI (gs_made S))), (4, .int 4)]) (st' := [.int (nI (gs_out S + 1)), .ref 27]) (w' := gd_rI (gd_rL (gd_rL (gd_rL (gd_rL w4 31 (vp_updL (w4.2.1 31) (4 * gs_made S + 0) 0)) 31 (vp_updL ((gd_rL w4 31 (vp_updL (w4.2.1 31) (4 * gs_made S + 0) 0)).2.1 31) (4 * gs_made S + 1) 0)) 31 (vp_updL ((gd_rL (gd_rL w4 31 (vp_updL (w4.2.1 31) (4 * gs_made S + 0) 0)) 31 (vp_updL ((gd_rL w4 31 (vp_updL (w4.2.1 31) (4 * gs_made S + 0) 0)).2.1 31) (4 * gs_made S + 1) 0)).2.1 31) (4 * gs_made S + 2) 0)) 31 (vp_updL ((gd_rL (gd_rL (gd_rL w4 31 (vp_updL (w4.2.1 31) (4 * gs_made S + 0) 0)) 31 (vp_updL ((gd_rL w4 31 (vp_updL (w4.2.1 31) (4 * gs_made S + 0) 0)).2.1 31) (4 * gs_made S + 1) 0)) 31 (vp_updL ((gd_rL (gd_rL w4 31 (vp_updL (w4.2.1 31) (4 * gs_made S + 0) 0)) 31 (vp_updL ((gd_rL w4 31 (vp_updL (w4.2.1 31) (4 * gs_made S + 0) 0)).2.1 31) (4 * gs_made S + 1) 0)).2.1 31) (4 * gs_made S + 2) 0)).2.1 31) (4 * gs_made S + 3) 1)) 32 (upd ((gd_rL (gd_rL (gd_rL (gd_rL w4 31 (vp_updL (w4.2.1 31) (4 * gs_made S + 0) 0)) 31 (vp_updL ((gd_rL w4 31 (vp_updL (w4.2.1 31) (4 * gs_made S + 0) 0)).2.1 31) (4 * gs_made S + 1) 0)) 31 (vp_updL ((gd_rL (gd_rL w4 31 (vp_updL (w4.2.1 31) (4 * gs_made S + 0) 0)) 31 (vp_updL ((gd_rL w4 31 (vp_updL (w4.2.1 31) (4 * gs_made S + 0) 0)).2.1 31) (4 * gs_made S + 1) 0)).2.1 31) (4 * gs_made S + 2) 0)) 31 (vp_updL ((gd_rL (gd_rL (gd_rL w4 31 (vp_updL (w4.2.1 31) (4 * gs_made S + 0) 0)) 31 (vp_updL ((gd_rL w4 31 (vp_updL (w4.2.1 31) (4 * gs_made S + 0) 0)).2.1 31) (4 * gs_made S + 1) 0)) 31 (vp_updL ((gd_rL (gd_rL w4 31 (vp_updL (w4.2.1 31) (4 * gs_made S + 0) 0)) 31 (vp_updL ((gd_rL w4 31 (vp_updL (w4.2.1 31) (4 * gs_made S + 0) 0)).2.1 31) (4 * gs_made S + 1) 0)).2.1 31) (4 * gs_made S + 2) 0)).2.1 31) (4 * gs_made S + 3) 1)).1 32) (gs_made S) 0)) ?_ (rfl) (by rw [nI_1]) (rfl)
                  refine gd_r E K 2 (pc' := 181) (lv' := [(0, .ref 27), (1, .int (nI 3)), (2, .int (gm_nO (some c0))), (3, .int (nI (gs_made S))), (4, .int 4)]) (st' := [.int (nI (gs_made S))]) (w' := gd_rI (gd_rI (gd_rL (gd_rL (gd_rL (gd_rL w4 31 (vp_updL (w4.2.1 31) (4 * gs_made S + 0) 0)) 31 (vp_updL ((gd_rL w4 31 (vp_updL (w4.2.1 31) (4 * gs_made S + 0) 0)).2.1 31) (4 * gs_made S + 1) 0)) 31 (vp_updL ((gd_rL (gd_rL w4 31 (vp_updL (w4.2.1 31) (4 * gs_made S + 0) 0)) 31 (vp_updL ((gd_rL w4 31 (vp_updL (w4.2.1 31) (4 * gs_made S + 0) 0)).2.1 31) (4 * gs_made S + 1) 0)).2.1 31) (4 * gs_made S + 2) 0)) 31 (vp_updL ((gd_rL (gd_rL (gd_rL w4 31 (vp_updL (w4.2.1 31) (4 * gs_made S + 0) 0)) 31 (vp_updL ((gd_rL w4 31 (vp_updL (w4.2.1 31) (4 * gs_made S + 0) 0)).2.1 31) (4 * gs_made S + 1) 0)) 31 (vp_updL ((gd_rL (gd_rL w4 31 (vp_updL (w4.2.1 31) (4 * gs_made S + 0) 0)) 31 (vp_updL ((gd_rL w4 31 (vp_updL (w4.2.1 31) (4 * gs_made S + 0) 0)).2.1 31) (4 * gs_made S + 1) 0)).2.1 31) (4 * gs_made S + 2) 0)).2.1 31) (4 * gs_made S + 3) 1)) 32 (upd ((gd_rL (gd_rL (gd_rL (gd_rL w4 31 (vp_updL (w4.2.1 31) (4 * gs_made S + 0) 0)) 31 (vp_updL ((gd_rL w4 31 (vp_updL (w4.2.1 31) (4 * gs_made S + 0) 0)).2.1 31) (4 * gs_made S + 1) 0)) 31 (vp_updL ((gd_rL (gd_rL w4 31 (vp_updL (w4.2.1 31) (4 * gs_made S + 0) 0)) 31 (vp_updL ((gd_rL w4 31 (vp_updL (w4.2.1 31) (4 * gs_made S + 0) 0)).2.1 31) (4 * gs_made S + 1) 0)).2.1 31) (4 * gs_made S + 2) 0)) 31 (vp_updL ((gd_rL (gd_rL (gd_rL w4 31 (vp_updL (w4.2.1 31) (4 * gs_made S + 0) 0)) 31 (vp_updL ((gd_rL w4 31 (vp_updL (w4.2.1 31) (4 * gs_made S + 0) 0)).2.1 31) (4 * gs_made S + 1) 0)) 31 (vp_updL ((gd_rL (gd_rL w4 31 (vp_updL (w4.2.1 31) (4 * gs_made S + 0) 0)) 31 (vp_updL ((gd_rL w4 31 (vp_updL (w4.2.1 31) (4 * gs_made S + 0) 0)).2.1 31) (4 * gs_made S + 1) 0)).2.1 31) (4 * gs_made S + 2) 0)).2.1 31) (4 * gs_made S + 3) 1)).1 32) (gs_made S) 0)) 27 (upd ((gd_rI (gd_rL (gd_rL (gd_rL (gd_rL w4 31 (vp_updL (w4.2.1 31) (4 * gs_made S + 0) 0)) 31 (vp_updL ((gd_rL w4 31 (vp_updL (w4.2.1 31) (4 * gs_made S + 0) 0)).2.1 31) (4 * gs_made S + 1) 0)) 31 (vp_updL ((gd_rL (gd_rL w4 31 (vp_updL (w4.2.1 31) (4 * gs_made S + 0) 0)) 31 (vp_updL ((gd_rL w4 31 (vp_updL (w4.2.1 31) (4 * gs_made S + 0) 0)).2.1 31) (4 * gs_made S + 1) 0)).2.1 31) (4 * gs_made S + 2) 0)) 31 (vp_updL ((gd_rL (gd_rL (gd_rL w4 31 (vp_updL (w4.2.1 31) (4 * gs_made S + 0) 0)) 31 (vp_updL ((gd_rL w4 31 (vp_updL (w4.2.1 31) (4 * gs_made S + 0) 0)).2.1 31) (4 * gs_made S + 1) 0)) 31 (vp_updL ((gd_rL (gd_rL w4 31 (vp_updL (w4.2.1 31) (4 * gs_made S + 0) 0)) 31 (vp_updL ((gd_rL w4 31 (vp_updL (w4.2.1 31) (4 * gs_made S + 0) 0)).2.1 31) (4 * gs_made S + 1) 0)).2.1 31) (4 * gs_made S + 2) 0)).2.1 31) (4 * gs_made S + 3) 1)) 32 (upd ((gd_rL (gd_rL (gd_rL (gd_rL w4 31 (vp_updL (w4.2.1 31) (4 * gs_made S + 0) 0)) 31 (vp_updL ((gd_rL w4 31 (vp_updL (w4.2.1 31) (4 * gs_made S + 0) 0)).2.1 31) (4 * gs_made S + 1) 0)) 31 (vp_updL ((gd_rL (gd_rL w4 31 (vp_updL (w4.2.1 31) (4 * gs_made S + 0) 0)) 31 (vp_updL ((gd_rL w4 31 (vp_updL (w4.2.1 31) (4 * gs_made S + 0) 0)).2.1 31) (4 * gs_made S + 1) 0)).2.1 31) (4 * gs_made S + 2) 0)) 31 (vp_updL ((gd_rL (gd_rL (gd_rL w4 31 (vp_updL (w4.2.1 31) (4 * gs_made S + 0) 0)) 31 (vp_updL ((gd_rL w4 31 (vp_updL (w4.2.1 31) (4 * gs_made S + 0) 0)).2.1 31) (4 * gs_made S + 1) 0)) 31 (vp_updL ((gd_rL (gd_rL w4 31 (vp_updL (w4.2.1 31) (4 * gs_made S + 0) 0)) 31 (vp_updL ((gd_rL w4 31 (vp_updL (w4.2.1 31) (4 * gs_made S + 0) 0)).2.1 31) (4 * gs_made S + 1) 0)).2.1 31) (4 * gs_made S + 2) 0)).2.1 31) (4 * gs_made S + 3) 1)).1 32) (gs_made S) 0)).1 27) 12 (nI (gs_out S + 1)))) rfl ?_
                  exact gd_iretp E hr hlk (K.1 181 (.ireturn, 0) rfl).1 (⟨rfl, hc4, ⟨G4, (((((hR4.sset (gs_made S) 0 _ (by decide)).sset (gs_made S) 1 _ (by decide)).sset (gs_made S) 2 _ (by decide)).sset (gs_made S) 3 _ (by decide)).f2 (gs_made S) 0 (by decide)).out (gs_out S + 1) (hout (by omega))⟩, hf2.trans ((gf_m.I _ (by decide) _).trans (hf4.trans ((gf_m.L _ (by decide) _).trans ((gf_m.L _ (by decide) _).trans ((gf_m.L _ (by decide) _).trans ((gf_m.L _ (by decide) _).trans ((gf_m.I _ (by decide) _).trans (gf_m.I _ (by decide) _))))))))⟩)
        | succ n ih =>
          intro hn
          refine gd_cg (lv' := [(0, .ref 27), (1, .int (nI k)), (2, .int (gm_nO (gs_fst (gs_srcf S k) (n + 1) (64 - (n + 1))))), (3, .int (nI n))]) (st' := []) (w' := w2) ?_ rfl rfl rfl
          refine gd_r E K 1 (pc' := 39) (lv' := [(0, .ref 27), (1, .int (nI k)), (2, .int (gm_nO (gs_fst (gs_srcf S k) (n + 1) (64 - (n + 1))))), (3, .int (nI n))]) (st' := [.int (nI n)]) (w' := w2) rfl ?_
          refine gd_r E K 1 (pc' := if (nI n) < 0 then 75 else 42) (lv' := [(0, .ref 27), (1, .int (nI k)), (2, .int (gm_nO (gs_fst (gs_srcf S k) (n + 1) (64 - (n + 1))))), (3, .int (nI n))]) (st' := []) (w' := w2) rfl ?_
          refine gd_if (nI_pos (by omega)) ?_
          refine gd_r E K 3 (pc' := 47) (lv' := [(0, .ref 27), (1, .int (nI k)), (2, .int (gm_nO (gs_fst (gs_srcf S k) (n + 1) (64 - (n + 1))))), (3, .int (nI n))]) (st' := [.int (nI n), .ref 28]) (w' := w2) rfl ?_
          obtain ⟨k1, k2⟩ := hR2.KK n (by omega)
          have hstep : gs_fst (gs_srcf S k) n (64 - n) = if gs_srcf S k n then some n else gs_fst (gs_srcf S k) (n + 1) (64 - (n + 1)) := by rw [show 64 - n = (64 - (n + 1)) + 1 by omega, gs_fst_s]
          refine gd_ialdv E (K.1 47 (.iaload, 0) rfl).1 (j := n) (by decide) (rfl) (rfl) (by omega) (by decide) (v := nI (gs_k S n)) (k1) ?_
          refine gd_r E K 3 (pc' := 51) (lv' := [(0, .ref 27), (1, .int (nI k)), (2, .int (gm_nO (gs_fst (gs_srcf S k) (n + 1) (64 - (n + 1))))), (3, .int (nI n))]) (st' := [.int (4 + (nI k)), .int (nI (gs_k S n))]) (w' := w2) rfl ?_
          by_cases h3 : gs_k S n = 4 + k
          · refine gd_r E K 1 (pc' := if (nI (gs_k S n)) = (4 + (nI k)) then 54 else 67) (lv' := [(0, .ref 27), (1, .int (nI k)), (2, .int (gm_nO (gs_fst (gs_srcf S k) (n + 1) (64 - (n + 1))))), (3, .int (nI n))]) (st' := []) (w' := w2) rfl ?_
            refine gd_it (by rw [h3, show (4 : Int32) = nI 4 from rfl, nI_add]) ?_
            refine gd_r E K 3 (pc' := 57) (lv' := [(0, .ref 27), (1, .int (nI k)), (2, .int (gm_nO (gs_fst (gs_srcf S k) (n + 1) (64 - (n + 1))))), (3, .int (nI n))]) (st' := [.int 0, .int (nI n), .ref 27]) (w' := w2) rfl ?_
            refine gd_cg (lv' := [(0, .ref 27), (1, .int (nI k)), (2, .int (gm_nO (gs_fst (gs_srcf S k) (n + 1) (64 - (n + 1))))), (3, .int (nI n))]) (st' := [.int (nI 0), .int (nI n), .ref 27]) (w' := w2) ?_ (rfl) (rfl) (rfl)
            refine gd_cV E hA (av := [.int (nI n), .int (nI 0)]) (rest := []) (c2_canRest hinj w2 hT2 n 0 (by omega) (by omega)) (K.1 57 (.invokevirtual 98, 0) rfl).1 ml_M_98 cv_M_canRest (by decide) (rfl) ⟨Nat.le_of_ble_eq_true rfl, Nat.le_of_ble_eq_true rfl⟩ ⟨Nat.zero_le _, Nat.zero_le _⟩ rfl (Nat.le_of_ble_eq_true rfl) ?_
            cases hx : gs_mtR (gs_T2 S none none) (gs_cn S none none) n 0 with
            | true =>
              refine gd_r E K 1 (pc' := if (gs_b (!true)) = 0 then 67 else 63) (lv' := [(0, .ref 27), (1, .int (nI k)), (2, .int (gm_nO (gs_fst (gs_srcf S k) (n + 1) (64 - (n + 1))))), (3, .int (nI n))]) (st' := []) (w' := w2) rfl ?_
              refine gd_it (by decide) ?_
              have hsf : gs_srcf S k n = false := by rw [gs_srcf, hx]; simp
              refine gd_r E K 4 (pc' := 38) (lv' := [(0, .ref 27), (1, .int (nI k)), (2, .int (gm_nO (gs_fst (gs_srcf S k) (n + 1) (64 - (n + 1))))), (3, .int ((nI n) + (-1)))]) (st' := []) (w' := w2) rfl ?_
              exact gd_cg (ih (by omega)) (by rw [hstep, hsf, gs_pr_add]; rfl) rfl rfl
            | false =>
              refine gd_r E K 1 (pc' := if (gs_b (!false)) = 0 then 67 else 63) (lv' := [(0, .ref 27), (1, .int (nI k)), (2, .int (gm_nO (gs_fst (gs_srcf S k) (n + 1) (64 - (n + 1))))), (3, .int (nI n))]) (st' := []) (w' := w2) rfl ?_
              refine gd_if (by decide) ?_
              have hsf : gs_srcf S k n = true := by rw [gs_srcf, hx, decide_eq_true h3]; rfl
              refine gd_r E K 5 (pc' := 38) (lv' := [(0, .ref 27), (1, .int (nI k)), (2, .int (nI n)), (3, .int ((nI n) + (-1)))]) (st' := []) (w' := w2) rfl ?_
              exact gd_cg (ih (by omega)) (by rw [hstep, hsf, gs_pr_add]; rfl) rfl rfl
          · refine gd_r E K 1 (pc' := if (nI (gs_k S n)) = (4 + (nI k)) then 54 else 67) (lv' := [(0, .ref 27), (1, .int (nI k)), (2, .int (gm_nO (gs_fst (gs_srcf S k) (n + 1) (64 - (n + 1))))), (3, .int (nI n))]) (st' := []) (w' := w2) rfl ?_
            refine gd_if (by rw [show (4 : Int32) = nI 4 from rfl, nI_add, nI_eq (by omega) (by omega)]; exact h3) ?_
            have hsf : gs_srcf S k n = false := by rw [gs_srcf, decide_eq_false h3]; rfl
            refine gd_r E K 4 (pc' := 38) (lv' := [(0, .ref 27), (1, .int (nI k)), (2, .int (gm_nO (gs_fst (gs_srcf S k) (n + 1) (64 - (n + 1))))), (3, .int ((nI n) + (-1)))]) (st' := []) (w' := w2) rfl ?_
            exact gd_cg (ih (by omega)) (by rw [hstep, hsf, gs_pr_add]; rfl) rfl rfl
      exact gd_cg (loop 64 (by omega)) rfl rfl rfl
end
section
/-- the way of a droplet k to a cell, the others but k and e in its way -/
abbrev gs_R (S : gs_T) (k : Nat) (e : Option Nat) : Nat → Nat → Bool := gs_rch S (gs_T2 S (some k) e) (gs_cn S (some k) e) (gs_c S k)
abbrev gs_W (S : gs_T) (k : Nat) (e : Option Nat) (goal : Nat) (j : Bool) : Option Nat := gs_way S (gs_T2 S (some k) e) (gs_cn S (some k) e) (gs_c S k) goal j
abbrev gs_V (S : gs_T) (k : Nat) (e : Option Nat) (goal en : Nat) : Nat → Nat := gs_rtm (gs_led (gs_R S k e) goal en) en (gs_c S k)
def gs_send (S : gs_T) (d x y : Int32) : Nat × Nat × gs_T := if gs_isd S d = false ∨ gm_has x y = 0 then (1, 0, S) else if gs_free S d.toNatClampNeg = false then (2, 0, S) else match gs_W S d.toNatClampNeg none (8 * y + x).toNatClampNeg false with
  | none => (3, 0, S)
  | some en => (0, en, gs_route S d.toNatClampNeg en (gs_V S d.toNatClampNeg none (8 * y + x).toNatClampNeg en))
def gs_join (S : gs_T) (d e : Int32) : Nat × Nat × gs_T := if gs_isd S d = false ∨ gs_isd S e = false ∨ d = e then (1, 0, S) else if gs_free S d.toNatClampNeg = false ∨ gs_free S e.toNatClampNeg = false ∨ gs_u S d.toNatClampNeg ≠ 1 ∨ gs_u S e.toNatClampNeg ≠ 1 then (2, 0, S) else match gs_W S d.toNatClampNeg (some e.toNatClampNeg) (gs_c S e.toNatClampNeg) true with
  | none => (3, 0, S)
  | some en => (0, en, gs_fd (gs_route S d.toNatClampNeg en (gs_V S d.toNatClampNeg (some e.toNatClampNeg) (gs_c S e.toNatClampNeg) en)) 4 d.toNatClampNeg (e.toNatClampNeg + 1))
set_option maxRecDepth 100000 in
theorem c2_Msend {l : Launch} {D : va_G} {tC : FieldType → ClassId} {ad : Nat → Nat} (hinj : ∀ i j, ad i = ad j → i = j) {S : gs_T} {G : Nat → Nat} (w : gd_W) (hR : gr_M w S G) (hc6 : gs_cnt (gs_u S) (gs_made S) ≤ 6) (hv : ∀ k, gs_alive S k → gv_way S k) (d x y : Int32) : gd_Cp l D tC ad 45 6 149 y_M_send c_M_send 5 (some .int) [.ref 27, .int d, .int x, .int y] w (gs_mp (gs_send S d x y).2.2 (gs_send S d x y).1 (.int (nI (gs_send S d x y).2.1)) w) := by
  refine gd_Cp_of rfl hinj (Nat.le_of_ble_eq_true rfl) ?_
  intro p e s m args below meth c E hr hlk
  have K := k_M_send
  have hA : ∀ q, gd_A ad 45 s.heap.size q → gd_A ad 45 s.heap.size q := fun _ h => h
  have hN := hR.1.2
  refine gd_r E K 3 (pc' := 3) (lv' := [(0, .ref 27), (1, .int d), (2, .int x), (3, .int y)]) (st' := [.int d, .ref 27, .ref 27]) (w' := w) rfl ?_
  refine gd_cV E hA (av := [.int d]) (rest := [.ref 27]) (c2_isD hinj _ hR d) (K.1 3 (.invokevirtual 125, 0) rfl).1 ml_M_125 cv_M_isDrop (by decide) (rfl) ⟨Nat.le_of_ble_eq_true rfl, Nat.le_of_ble_eq_true rfl⟩ ⟨Nat.zero_le _, Nat.zero_le _⟩ rfl (Nat.le_of_ble_eq_true rfl) ?_
  cases hb : gs_isd S d with
  | true =>
    refine gd_r E K 1 (pc' := if (gs_b (true)) = 0 then 17 else 9) (lv' := [(0, .ref 27), (1, .int d), (2, .int x), (3, .int y)]) (st' := [.ref 27]) (w' := w) rfl ?_
    refine gd_if (by decide) ?_
    refine gd_r E K 2 (pc' := 11) (lv' := [(0, .ref 27), (1, .int d), (2, .int x), (3, .int y)]) (st' := [.int y, .int x, .ref 27]) (w' := w) rfl ?_
    refine gd_cS E hA (av := [.int x, .int y]) (rest := [.ref 27]) (c2_isCell hinj x y _) (K.1 11 (.invokestatic 64, 0) rfl).1 ml_M_64 cv_M_isCell ⟨Nat.le_of_ble_eq_true rfl, Nat.le_of_ble_eq_true rfl⟩ ⟨Nat.zero_le _, Nat.zero_le _⟩ rfl (Nat.le_of_ble_eq_true rfl) ?_
    refine gd_r E K 1 (pc' := if (gm_has x y) = 0 then 17 else 21) (lv' := [(0, .ref 27), (1, .int d), (2, .int x), (3, .int y)]) (st' := [.ref 27]) (w' := w) rfl ?_
    refine gd_ite (fun h1 => ?_) (fun h1 => ?_)
    · refine gd_r E K 7 (pc' := 45) (lv' := [(0, .ref 27), (1, .int d), (2, .int x), (3, .int y)]) (st' := [.int 0]) (w' := gd_rI w 27 (upd (w.1 27) 0 1)) rfl ?_
      exact gd_iretp E hr hlk (K.1 45 (.ireturn, 0) rfl).1 (by rw [gs_send, if_pos (Or.inr h1)]; exact gs_mp_code hR 1 rfl rfl)
    · have hno : ¬ (gs_isd S d = false ∨ gm_has x y = 0) := fun z => z.elim (fun h => by rw [hb] at h; cases h) h1
      obtain ⟨k, hk, rfl, hu⟩ := gs_isd_t hN hb
      have hcl : (nI k).toNatClampNeg = k := nI_clamp (by omega)
      obtain ⟨a, b, ha, hb8, rfl, rfl⟩ := gm_has_1 h1
      have hgl : (8 * nI b + nI a).toNatClampNeg = 8 * b + a := by rw [gm_at_eq, nI_clamp (by omega)]
      refine gd_r E K 2 (pc' := 23) (lv' := [(0, .ref 27), (1, .int (nI k)), (2, .int (nI a)), (3, .int (nI b))]) (st' := [.int (nI k), .ref 27, .ref 27]) (w' := w) rfl ?_
      refine gd_cV E hA (av := [.int (nI k)]) (rest := [.ref 27]) (c2_isFree hinj _ hR k hk) (K.1 23 (.invokevirtual 129, 0) rfl).1 ml_M_129 cv_M_isFree (by decide) (rfl) ⟨Nat.le_of_ble_eq_true rfl, Nat.le_of_ble_eq_true rfl⟩ ⟨Nat.zero_le _, Nat.zero_le _⟩ rfl (Nat.le_of_ble_eq_true rfl) ?_
      cases hfr : gs_free S k with
      | true =>
        refine gd_r E K 1 (pc' := if (gs_b (true)) = 0 then 29 else 33) (lv' := [(0, .ref 27), (1, .int (nI k)), (2, .int (nI a)), (3, .int (nI b))]) (st' := [.ref 27]) (w' := w) rfl ?_
        refine gd_if (by decide) ?_
        refine gd_r E K 8 (pc' := 49) (lv' := [(0, .ref 27), (1, .int (nI k)), (2, .int (nI a)), (3, .int (nI b))]) (st' := [.int (-1), .int (nI k), .ref 27]) (w' := gd_rI w 27 (upd (w.1 27) 0 0)) rfl ?_
        have hR0 := hR.code 0
        refine gd_cg (lv' := [(0, .ref 27), (1, .int (nI k)), (2, .int (nI a)), (3, .int (nI b))]) (st' := [.int (gm_nO none), .int (gm_nO (some k)), .ref 27]) (w' := gd_rI w 27 (upd (w.1 27) 0 0)) ?_ (rfl) (rfl) (rfl)
        refine gd_cVp E hA (av := [.int (gm_nO (some k)), .int (gm_nO none)]) (rest := []) (c2_foresee hinj _ hR0 hc6 hv (some k) none (fun x h => by cases h; omega) (fun _ h => nomatch h)) (K.1 49 (.invokevirtual 115, 0) rfl).1 ml_M_115 cv_M_foresee (by decide) (rfl) ⟨Nat.le_of_ble_eq_true rfl, Nat.le_of_ble_eq_true rfl⟩ ⟨Nat.zero_le _, Nat.zero_le _⟩ rfl (Nat.le_of_ble_eq_true rfl) (fun r9 w2 h9 => ?_)
        obtain ⟨rfl, hfi⟩ := h9
        have hR2 := hfi.1.M hR0
        have hT2 := gs_fi_tab hfi hc6 hv
        have hf2 : gf_m w w2 := (gf_m.I w (by decide) _).trans hfi.1.m
        obtain ⟨c1, c2⟩ := hR2.2.2.1 k (by omega)
        refine gd_r E K 7 (pc' := 60) (lv' := [(0, .ref 27), (1, .int (nI k)), (2, .int (nI a)), (3, .int (nI b))]) (st' := [.int ((8 * (nI b)) + (nI a)), .int (nI k), .ref 27]) (w' := w2) rfl ?_
        refine gd_cg (lv' := [(0, .ref 27), (1, .int (nI k)), (2, .int (nI a)), (3, .int (nI b))]) (st' := [.int (nI (8 * b + a)), .int (nI k), .ref 27]) (w' := w2) ?_ (rfl) (by rw [gm_at_eq]) (rfl)
        refine gd_r E K 1 (pc' := 61) (lv' := [(0, .ref 27), (1, .int (nI k)), (2, .int (nI a)), (3, .int (nI b))]) (st' := [.int 0, .int (nI (8 * b + a)), .int (nI k), .ref 27]) (w' := w2) rfl ?_
        refine gd_cVp E hA (av := [.int (nI k), .int (nI (8 * b + a)), .int 0]) (rest := []) (c2_layS hinj w2 hR2.KK hT2 k (gs_c S k) (8 * b + a) (by omega) c1 c2 (by omega)) (K.1 61 (.invokevirtual 132, 0) rfl).1 ml_M_132 cv_M_lay (by decide) (rfl) ⟨Nat.le_of_ble_eq_true rfl, Nat.le_of_ble_eq_true rfl⟩ ⟨Nat.zero_le _, Nat.zero_le _⟩ rfl (Nat.le_of_ble_eq_true rfl) (fun r9 w3 h9 => ?_)
        obtain ⟨rfl, hno3, hyes3⟩ := h9
        refine gd_r E K 3 (pc' := 69) (lv' := [(0, .ref 27), (1, .int (nI k)), (2, .int (nI a)), (3, .int (nI b)), (4, .int (gm_nO (gs_W S k none (8 * b + a) false)))]) (st' := [.int (gm_nO (gs_W S k none (8 * b + a) false)), .ref 27]) (w' := w3) rfl ?_
        have hsd : gs_send S (nI k) (nI a) (nI b) = match gs_W S k none (8 * b + a) false with | none => (3, 0, S) | some en => (0, en, gs_route S k en (gs_V S k none (8 * b + a) en)) := by rw [gs_send, if_neg hno, hcl, if_neg (by rw [hfr]; decide), hgl]
        rw [hsd]
        clear hsd
        cases hres : gs_W S k none (8 * b + a) false with
        | none =>
          refine gd_r E K 1 (pc' := if 0 ≤ (gm_nO (none)) then 76 else 72) (lv' := [(0, .ref 27), (1, .int (nI k)), (2, .int (nI a)), (3, .int (nI b)), (4, .int (gm_nO (none)))]) (st' := [.ref 27]) (w' := w3) rfl ?_
          refine gd_if (by decide) ?_
          refine gd_r E K 8 (pc' := 93) (lv' := [(0, .ref 27), (1, .int (nI k)), (2, .int (nI a)), (3, .int (nI b)), (4, .int (gm_nO (none)))]) (st' := [.int 0]) (w' := gd_rI w3 27 (upd (w3.1 27) 0 3)) rfl ?_
          exact gd_iretp E hr hlk (K.1 93 (.ireturn, 0) rfl).1 (⟨rfl, rfl, ⟨G, ((hno3 hres).M hR2).code 3⟩, hf2.trans (((hno3 hres).m (by decide)).trans (gf_m.I _ (by decide) _))⟩)
        | some en =>
          have hen := gs_way_le hres
          refine gd_r E K 1 (pc' := if 0 ≤ (gm_nO (some en)) then 76 else 72) (lv' := [(0, .ref 27), (1, .int (nI k)), (2, .int (nI a)), (3, .int (nI b)), (4, .int (gm_nO (some en)))]) (st' := [.ref 27]) (w' := w3) rfl ?_
          refine gd_it (nI_pos' (by omega)) ?_
          refine gd_r E K 6 (pc' := 93) (lv' := [(0, .ref 27), (1, .int (nI k)), (2, .int (nI a)), (3, .int (nI b)), (4, .int (gm_nO (some en)))]) (st' := [.int (gm_nO (some en))]) (w' := gd_rI w3 27 (upd (w3.1 27) 0 0)) rfl ?_
          exact gd_iretp E hr hlk (K.1 93 (.ireturn, 0) rfl).1 (⟨rfl, rfl, ⟨_, (hR2.laid (hyes3 en hres) hen (fun i _ => gs_lm_lt _) (by omega)).code 0⟩, hf2.trans ((hyes3 en hres).m.trans (gf_m.I _ (by decide) _))⟩)
      | false =>
        refine gd_r E K 1 (pc' := if (gs_b (false)) = 0 then 29 else 33) (lv' := [(0, .ref 27), (1, .int (nI k)), (2, .int (nI a)), (3, .int (nI b))]) (st' := [.ref 27]) (w' := w) rfl ?_
        refine gd_it (by decide) ?_
        refine gd_r E K 7 (pc' := 45) (lv' := [(0, .ref 27), (1, .int (nI k)), (2, .int (nI a)), (3, .int (nI b))]) (st' := [.int 0]) (w' := gd_rI w 27 (upd (w.1 27) 0 2)) rfl ?_
        exact gd_iretp E hr hlk (K.1 45 (.ireturn, 0) rfl).1 (by rw [gs_send, if_neg hno, hcl, if_pos hfr]; exact gs_mp_code hR 2 rfl rfl)
  | false =>
    refine gd_r E K 1 (pc' := if (gs_b (false)) = 0 then 17 else 9) (lv' := [(0, .ref 27), (1, .int d), (2, .int x), (3, .int y)]) (st' := [.ref 27]) (w' := w) rfl ?_
    refine gd_it (by decide) ?_
    refine gd_r E K 7 (pc' := 45) (lv' := [(0, .ref 27), (1, .int d), (2, .int x), (3, .int y)]) (st' := [.int 0]) (w' := gd_rI w 27 (upd (w.1 27) 0 1)) rfl ?_
    exact gd_iretp E hr hlk (K.1 45 (.ireturn, 0) rfl).1 (by rw [gs_send, if_pos (Or.inl hb)]; exact gs_mp_code hR 1 rfl rfl)
set_option maxRecDepth 100000 in
theorem c2_Mjoin {l : Launch} {D : va_G} {tC : FieldType → ClassId} {ad : Nat → Nat} (hinj : ∀ i j, ad i = ad j → i = j) {S : gs_T} {G : Nat → Nat} (w : gd_W) (hR : gr_M w S G) (hc6 : gs_cnt (gs_u S) (gs_made S) ≤ 6) (hv : ∀ k, gs_alive S k → gv_way S k) (d e1 : Int32) : gd_Cp l D tC ad 45 6 149 y_M_join c_M_join 4 (some .int) [.ref 27, .int d, .int e1] w (gs_mp (gs_join S d e1).2.2 (gs_join S d e1).1 (.int (nI (gs_join S d e1).2.1)) w) := by
  refine gd_Cp_of rfl hinj (Nat.le_of_ble_eq_true rfl) ?_
  intro p e s m args below meth c E hr hlk
  have K := k_M_join
  have hA : ∀ q, gd_A ad 45 s.heap.size q → gd_A ad 45 s.heap.size q := fun _ h => h
  have hN := hR.1.2
  refine gd_r E K 3 (pc' := 3) (lv' := [(0, .ref 27), (1, .int d), (2, .int e1)]) (st' := [.int d, .ref 27, .ref 27]) (w' := w) rfl ?_
  refine gd_cV E hA (av := [.int d]) (rest := [.ref 27]) (c2_isD hinj _ hR d) (K.1 3 (.invokevirtual 125, 0) rfl).1 ml_M_125 cv_M_isDrop (by decide) (rfl) ⟨Nat.le_of_ble_eq_true rfl, Nat.le_of_ble_eq_true rfl⟩ ⟨Nat.zero_le _, Nat.zero_le _⟩ rfl (Nat.le_of_ble_eq_true rfl) ?_
  cases hb : gs_isd S d with
  | true =>
    refine gd_r E K 1 (pc' := if (gs_b (true)) = 0 then 22 else 9) (lv' := [(0, .ref 27), (1, .int d), (2, .int e1)]) (st' := [.ref 27]) (w' := w) rfl ?_
    refine gd_if (by decide) ?_
    refine gd_r E K 2 (pc' := 11) (lv' := [(0, .ref 27), (1, .int d), (2, .int e1)]) (st' := [.int e1, .ref 27, .ref 27]) (w' := w) rfl ?_
    refine gd_cV E hA (av := [.int e1]) (rest := [.ref 27]) (c2_isD hinj _ hR e1) (K.1 11 (.invokevirtual 125, 0) rfl).1 ml_M_125 cv_M_isDrop (by decide) (rfl) ⟨Nat.le_of_ble_eq_true rfl, Nat.le_of_ble_eq_true rfl⟩ ⟨Nat.zero_le _, Nat.zero_le _⟩ rfl (Nat.le_of_ble_eq_true rfl) ?_
    cases hb2 : gs_isd S e1 with
    | true =>
      refine gd_r E K 1 (pc' := if (gs_b (true)) = 0 then 22 else 17) (lv' := [(0, .ref 27), (1, .int d), (2, .int e1)]) (st' := [.ref 27]) (w' := w) rfl ?_
      refine gd_if (by decide) ?_
      refine gd_r E K 2 (pc' := 19) (lv' := [(0, .ref 27), (1, .int d), (2, .int e1)]) (st' := [.int e1, .int d, .ref 27]) (w' := w) rfl ?_
      refine gd_r E K 1 (pc' := if d = e1 then 22 else 26) (lv' := [(0, .ref 27), (1, .int d), (2, .int e1)]) (st' := [.ref 27]) (w' := w) rfl ?_
      refine gd_ite (fun h1 => ?_) (fun h1 => ?_)
      · refine gd_r E K 7 (pc' := 78) (lv' := [(0, .ref 27), (1, .int d), (2, .int e1)]) (st' := [.int 0]) (w' := gd_rI w 27 (upd (w.1 27) 0 1)) rfl ?_
        exact gd_iretp E hr hlk (K.1 78 (.ireturn, 0) rfl).1 (by rw [gs_join, if_pos (Or.inr (Or.inr h1))]; exact gs_mp_code hR 1 rfl rfl)
      · have hno : ¬ (gs_isd S d = false ∨ gs_isd S e1 = false ∨ d = e1) := fun z => z.elim (fun h => by rw [hb] at h; cases h) (fun z => z.elim (fun h => by rw [hb2] at h; cases h) h1)
        obtain ⟨k, hk, rfl, hu⟩ := gs_isd_t hN hb
        have hcl : (nI k).toNatClampNeg = k := nI_clamp (by omega)
        obtain ⟨j, hj, rfl, huj⟩ := gs_isd_t hN hb2
        have hcj : (nI j).toNatClampNeg = j := nI_clamp (by omega)
        obtain ⟨u1, u2⟩ := hR.2.1 k (by omega)
        obtain ⟨v1, v2⟩ := hR.2.1 j (by omega)
        refine gd_r E K 2 (pc' := 28) (lv' := [(0, .ref 27), (1, .int (nI k)), (2, .int (nI j))]) (st' := [.int (nI k), .ref 27, .ref 27]) (w' := w) rfl ?_
        refine gd_cV E hA (av := [.int (nI k)]) (rest := [.ref 27]) (c2_isFree hinj _ hR k hk) (K.1 28 (.invokevirtual 129, 0) rfl).1 ml_M_129 cv_M_isFree (by decide) (rfl) ⟨Nat.le_of_ble_eq_true rfl, Nat.le_of_ble_eq_true rfl⟩ ⟨Nat.zero_le _, Nat.zero_le _⟩ rfl (Nat.le_of_ble_eq_true rfl) ?_
        cases hfr : gs_free S k with
        | true =>
          refine gd_r E K 1 (pc' := if (gs_b (true)) = 0 then 62 else 34) (lv' := [(0, .ref 27), (1, .int (nI k)), (2, .int (nI j))]) (st' := [.ref 27]) (w' := w) rfl ?_
          refine gd_if (by decide) ?_
          refine gd_r E K 2 (pc' := 36) (lv' := [(0, .ref 27), (1, .int (nI k)), (2, .int (nI j))]) (st' := [.int (nI j), .ref 27, .ref 27]) (w' := w) rfl ?_
          refine gd_cV E hA (av := [.int (nI j)]) (rest := [.ref 27]) (c2_isFree hinj _ hR j hj) (K.1 36 (.invokevirtual 129, 0) rfl).1 ml_M_129 cv_M_isFree (by decide) (rfl) ⟨Nat.le_of_ble_eq_true rfl, Nat.le_of_ble_eq_true rfl⟩ ⟨Nat.zero_le _, Nat.zero_le _⟩ rfl (Nat.le_of_ble_eq_true rfl) ?_
          cases hfj : gs_free S j with
          | true =>
            refine gd_r E K 1 (pc' := if (gs_b (true)) = 0 then 62 else 42) (lv' := [(0, .ref 27), (1, .int (nI k)), (2, .int (nI j))]) (st' := [.ref 27]) (w' := w) rfl ?_
            refine gd_if (by decide) ?_
            refine gd_r E K 3 (pc' := 47) (lv' := [(0, .ref 27), (1, .int (nI k)), (2, .int (nI j))]) (st' := [.int (nI k), .ref 29, .ref 27]) (w' := w) rfl ?_
            refine gd_ialdv E (K.1 47 (.iaload, 0) rfl).1 (j := k) (by decide) (rfl) (rfl) (by omega) (by decide) (v := nI (gs_u S k)) (u1) ?_
            refine gd_r E K 1 (pc' := 49) (lv' := [(0, .ref 27), (1, .int (nI k)), (2, .int (nI j))]) (st' := [.int 1, .int (nI (gs_u S k)), .ref 27]) (w' := w) rfl ?_
            by_cases hu1 : gs_u S k = 1
            · refine gd_r E K 1 (pc' := if (nI (gs_u S k)) = 1 then 52 else 62) (lv' := [(0, .ref 27), (1, .int (nI k)), (2, .int (nI j))]) (st' := [.ref 27]) (w' := w) rfl ?_
              refine gd_it (by rw [hu1]; rfl) ?_
              refine gd_r E K 3 (pc' := 57) (lv' := [(0, .ref 27), (1, .int (nI k)), (2, .int (nI j))]) (st' := [.int (nI j), .ref 29, .ref 27]) (w' := w) rfl ?_
              refine gd_ialdv E (K.1 57 (.iaload, 0) rfl).1 (j := j) (by decide) (rfl) (rfl) (by omega) (by decide) (v := nI (gs_u S j)) (v1) ?_
              refine gd_r E K 1 (pc' := 59) (lv' := [(0, .ref 27), (1, .int (nI k)), (2, .int (nI j))]) (st' := [.int 1, .int (nI (gs_u S j)), .ref 27]) (w' := w) rfl ?_
              by_cases hu2 : gs_u S j = 1
              · refine gd_r E K 1 (pc' := if (nI (gs_u S j)) = 1 then 66 else 62) (lv' := [(0, .ref 27), (1, .int (nI k)), (2, .int (nI j))]) (st' := [.ref 27]) (w' := w) rfl ?_
                refine gd_it (by rw [hu2]; rfl) ?_
                refine gd_r E K 8 (pc' := 82) (lv' := [(0, .ref 27), (1, .int (nI k)), (2, .int (nI j))]) (st' := [.int (nI j), .int (nI k), .ref 27]) (w' := gd_rI w 27 (upd (w.1 27) 0 0)) rfl ?_
                have hno2 : ¬ (gs_free S k = false ∨ gs_free S j = false ∨ gs_u S k ≠ 1 ∨ gs_u S j ≠ 1) := fun z => z.elim (fun h => by rw [hfr] at h; cases h) (fun z => z.elim (fun h => by rw [hfj] at h; cases h) (fun z => z.elim (fun h => h hu1) (fun h => h hu2)))
                have hR0 := hR.code 0
                refine gd_cg (lv' := [(0, .ref 27), (1, .int (nI k)), (2, .int (nI j))]) (st' := [.int (gm_nO (some j)), .int (gm_nO (some k)), .ref 27]) (w' := gd_rI w 27 (upd (w.1 27) 0 0)) ?_ (rfl) (rfl) (rfl)
                refine gd_cVp E hA (av := [.int (gm_nO (some k)), .int (gm_nO (some j))]) (rest := []) (c2_foresee hinj _ hR0 hc6 hv (some k) (some j) (fun x h => by cases h; omega) (fun x h => by cases h; omega)) (K.1 82 (.invokevirtual 115, 0) rfl).1 ml_M_115 cv_M_foresee (by decide) (rfl) ⟨Nat.le_of_ble_eq_true rfl, Nat.le_of_ble_eq_true rfl⟩ ⟨Nat.zero_le _, Nat.zero_le _⟩ rfl (Nat.le_of_ble_eq_true rfl) (fun r9 w2 h9 => ?_)
                obtain ⟨rfl, hfi⟩ := h9
                have hR2 := hfi.1.M hR0
                have hT2 := gs_fi_tab hfi hc6 hv
                have hf2 : gf_m w w2 := (gf_m.I w (by decide) _).trans hfi.1.m
                obtain ⟨c1, c2⟩ := hR2.2.2.1 k (by omega)
                obtain ⟨d1, d2⟩ := hR2.2.2.1 j (by omega)
                have hc2 : w2.1 27 0 = 0 := by rw [hfi.1.2.1 0 (by decide)]; rfl
                refine gd_r E K 5 (pc' := 92) (lv' := [(0, .ref 27), (1, .int (nI k)), (2, .int (nI j))]) (st' := [.int (nI j), .ref 30, .int (nI k), .ref 27]) (w' := w2) rfl ?_
                refine gd_ialdv E (K.1 92 (.iaload, 0) rfl).1 (j := j) (by decide) (rfl) (rfl) (by omega) (by decide) (v := nI (gs_c S j)) (d1) ?_
                refine gd_r E K 1 (pc' := 94) (lv' := [(0, .ref 27), (1, .int (nI k)), (2, .int (nI j))]) (st' := [.int 1, .int (nI (gs_c S j)), .int (nI k), .ref 27]) (w' := w2) rfl ?_
                refine gd_cVp E hA (av := [.int (nI k), .int (nI (gs_c S j)), .int 1]) (rest := []) (c2_layJ hinj w2 hR2.KK hT2 k (gs_c S k) (gs_c S j) (by omega) c1 c2 d2) (K.1 94 (.invokevirtual 132, 0) rfl).1 ml_M_132 cv_M_lay (by decide) (rfl) ⟨Nat.le_of_ble_eq_true rfl, Nat.le_of_ble_eq_true rfl⟩ ⟨Nat.zero_le _, Nat.zero_le _⟩ rfl (Nat.le_of_ble_eq_true rfl) (fun r9 w3 h9 => ?_)
                obtain ⟨rfl, hno3, hyes3⟩ := h9
                refine gd_r E K 2 (pc' := 99) (lv' := [(0, .ref 27), (1, .int (nI k)), (2, .int (nI j)), (3, .int (gm_nO (gs_W S k (some j) (gs_c S j) true)))]) (st' := [.int (gm_nO (gs_W S k (some j) (gs_c S j) true))]) (w' := w3) rfl ?_
                have hsd : gs_join S (nI k) (nI j) = match gs_W S k (some j) (gs_c S j) true with | none => (3, 0, S) | some en => (0, en, gs_fd (gs_route S k en (gs_V S k (some j) (gs_c S j) en)) 4 k (j + 1)) := by rw [gs_join, if_neg hno, hcl, hcj, if_neg hno2]
                rw [hsd]
                clear hsd
                cases hres : gs_W S k (some j) (gs_c S j) true with
                | none =>
                  refine gd_r E K 1 (pc' := if 0 ≤ (gm_nO (none)) then 109 else 102) (lv' := [(0, .ref 27), (1, .int (nI k)), (2, .int (nI j)), (3, .int (gm_nO (none)))]) (st' := []) (w' := w3) rfl ?_
                  refine gd_if (by decide) ?_
                  refine gd_r E K 4 (pc' := 108) (lv' := [(0, .ref 27), (1, .int (nI k)), (2, .int (nI j)), (3, .int (gm_nO (none)))]) (st' := [.int 0]) (w' := gd_rI w3 27 (upd (w3.1 27) 0 3)) rfl ?_
                  exact gd_iretp E hr hlk (K.1 108 (.ireturn, 0) rfl).1 (⟨rfl, rfl, ⟨G, ((hno3 hres).M hR2).code 3⟩, hf2.trans (((hno3 hres).m (by decide)).trans (gf_m.I _ (by decide) _))⟩)
                | some en =>
                  have hen := gs_way_le hres
                  refine gd_r E K 1 (pc' := if 0 ≤ (gm_nO (some en)) then 109 else 102) (lv' := [(0, .ref 27), (1, .int (nI k)), (2, .int (nI j)), (3, .int (gm_nO (some en)))]) (st' := []) (w' := w3) rfl ?_
                  refine gd_it (nI_pos' (by omega)) ?_
                  refine gd_r E K 6 (pc' := 117) (lv' := [(0, .ref 27), (1, .int (nI k)), (2, .int (nI j)), (3, .int (gm_nO (some en)))]) (st' := [.int ((nI j) + 1), .int (nI k), .ref 36]) (w' := w3) rfl ?_
                  refine gd_cg (lv' := [(0, .ref 27), (1, .int (nI k)), (2, .int (nI j)), (3, .int (gm_nO (some en)))]) (st' := [.int (nI (j + 1)), .int (nI k), .ref 36]) (w' := w3) ?_ (rfl) (by rw [nI_1]) (rfl)
                  refine gd_iast E (K.1 117 (.iastore, 0) rfl).1 (j := k) (by decide) (rfl) (rfl) (by omega) (by decide) ?_
                  refine gd_r E K 1 (pc' := 119) (lv' := [(0, .ref 27), (1, .int (nI k)), (2, .int (nI j)), (3, .int (gm_nO (some en)))]) (st' := [.int (gm_nO (some en))]) (w' := gd_rI w3 36 (upd (w3.1 36) k (nI (j + 1)))) rfl ?_
                  exact gd_iretp E hr hlk (K.1 119 (.ireturn, 0) rfl).1 (⟨rfl, by rw [gd_rI_n (by decide), (hyes3 en hres).1 27 (by decide) (by decide) (by decide) (by decide) (by decide), hc2]; rfl, ⟨_, (hR2.laid (hyes3 en hres) hen (fun i _ => gs_lm_lt _) (by omega)).f4 k (j + 1) (by omega)⟩, hf2.trans ((hyes3 en hres).m.trans (gf_m.I _ (by decide) _))⟩)
              · refine gd_r E K 1 (pc' := if (nI (gs_u S j)) = 1 then 66 else 62) (lv' := [(0, .ref 27), (1, .int (nI k)), (2, .int (nI j))]) (st' := [.ref 27]) (w' := w) rfl ?_
                refine gd_if (by rw [show (1 : Int32) = nI 1 from rfl, nI_eq (by omega) (by decide)]; exact hu2) ?_
                refine gd_r E K 7 (pc' := 78) (lv' := [(0, .ref 27), (1, .int (nI k)), (2, .int (nI j))]) (st' := [.int 0]) (w' := gd_rI w 27 (upd (w.1 27) 0 2)) rfl ?_
                exact gd_iretp E hr hlk (K.1 78 (.ireturn, 0) rfl).1 (by rw [gs_join, if_neg hno, hcl, hcj, if_pos (Or.inr (Or.inr (Or.inr hu2)))]; exact gs_mp_code hR 2 rfl rfl)
            · refine gd_r E K 1 (pc' := if (nI (gs_u S k)) = 1 then 52 else 62) (lv' := [(0, .ref 27), (1, .int (nI k)), (2, .int (nI j))]) (st' := [.ref 27]) (w' := w) rfl ?_
              refine gd_if (by rw [show (1 : Int32) = nI 1 from rfl, nI_eq (by omega) (by decide)]; exact hu1) ?_
              refine gd_r E K 7 (pc' := 78) (lv' := [(0, .ref 27), (1, .int (nI k)), (2, .int (nI j))]) (st' := [.int 0]) (w' := gd_rI w 27 (upd (w.1 27) 0 2)) rfl ?_
              exact gd_iretp E hr hlk (K.1 78 (.ireturn, 0) rfl).1 (by rw [gs_join, if_neg hno, hcl, hcj, if_pos (Or.inr (Or.inr (Or.inl hu1)))]; exact gs_mp_code hR 2 rfl rfl)
          | false =>
            refine gd_r E K 1 (pc' := if (gs_b (false)) = 0 then 62 else 42) (lv' := [(0, .ref 27), (1, .int (nI k)), (2, .int (nI j))]) (st' := [.ref 27]) (w' := w) rfl ?_
            refine gd_it (by decide) ?_
            refine gd_r E K 7 (pc' := 78) (lv' := [(0, .ref 27), (1, .int (nI k)), (2, .int (nI j))]) (st' := [.int 0]) (w' := gd_rI w 27 (upd (w.1 27) 0 2)) rfl ?_
            exact gd_iretp E hr hlk (K.1 78 (.ireturn, 0) rfl).1 (by rw [gs_join, if_neg hno, hcl, hcj, if_pos (Or.inr (Or.inl hfj))]; exact gs_mp_code hR 2 rfl rfl)
        | false =>
          refine gd_r E K 1 (pc' := if (gs_b (false)) = 0 then 62 else 34) (lv' := [(0, .ref 27), (1, .int (nI k)), (2, .int (nI j))]) (st' := [.ref 27]) (w' := w) rfl ?_
          refine gd_it (by decide) ?_
          refine gd_r E K 7 (pc' := 78) (lv' := [(0, .ref 27), (1, .int (nI k)), (2, .int (nI j))]) (st' := [.int 0]) (w' := gd_rI w 27 (upd (w.1 27) 0 2)) rfl ?_
          exact gd_iretp E hr hlk (K.1 78 (.ireturn, 0) rfl).1 (by rw [gs_join, if_neg hno, hcl, hcj, if_pos (Or.inl hfr)]; exact gs_mp_code hR 2 rfl rfl)
    | false =>
      refine gd_r E K 1 (pc' := if (gs_b (false)) = 0 then 22 else 17) (lv' := [(0, .ref 27), (1, .int d), (2, .int e1)]) (st' := [.ref 27]) (w' := w) rfl ?_
      refine gd_it (by decide) ?_
      refine gd_r E K 7 (pc' := 78) (lv' := [(0, .ref 27), (1, .int d), (2, .int e1)]) (st' := [.int 0]) (w' := gd_rI w 27 (upd (w.1 27) 0 1)) rfl ?_
      exact gd_iretp E hr hlk (K.1 78 (.ireturn, 0) rfl).1 (by rw [gs_join, if_pos (Or.inr (Or.inl hb2))]; exact gs_mp_code hR 1 rfl rfl)
  | false =>
    refine gd_r E K 1 (pc' := if (gs_b (false)) = 0 then 22 else 9) (lv' := [(0, .ref 27), (1, .int d), (2, .int e1)]) (st' := [.ref 27]) (w' := w) rfl ?_
    refine gd_it (by decide) ?_
    refine gd_r E K 7 (pc' := 78) (lv' := [(0, .ref 27), (1, .int d), (2, .int e1)]) (st' := [.int 0]) (w' := gd_rI w 27 (upd (w.1 27) 0 1)) rfl ?_
    exact gd_iretp E hr hlk (K.1 78 (.ireturn, 0) rfl).1 (by rw [gs_join, if_pos (Or.inl hb)]; exact gs_mp_code hR 1 rfl rfl)
end
section
/-- powers of two, as the reference makes them -/
def gs_pw : Nat → Int64
  | 0 => 1
  | n + 1 => gs_pw n * 2
def gs_ev (x : Int64) : Bool := decide (x - x / 2 * 2 = 0)
def gs_all (f : Nat → Int64) : Nat → Bool
  | 0 => true
  | k + 1 => gs_all f k && gs_ev (f k)
/-- the lowest terms -/
def gs_nrm : Nat → (Nat → Int64) → Nat × (Nat → Int64)
  | 0, f => (0, f)
  | p + 1, f => if gs_all f 4 then gs_nrm p (fun k => f k / 2) else (p + 1, f)
def gs_ui (w w1 : gd_W) (e p : Nat) (f : Nat → Int64) : Prop := (∀ a, a ≠ 32 → w1.1 a = w.1 a) ∧ w1.1 32 = upd (w.1 32) e (nI p) ∧ (∀ a, a ≠ 31 → w1.2.1 a = w.2.1 a) ∧ w1.2.2 = w.2.2 ∧ (∀ k, k < 4 → w1.2.1 31 (4 * e + k) = f k) ∧ ∀ j, (j < 4 * e ∨ 4 * e + 4 ≤ j) → w1.2.1 31 j = w.2.1 31 j
theorem gs_ui_set {w w1 : gd_W} {e p : Nat} {f : Nat → Int64} (h : gs_ui w w1 e p f) {k : Nat} (hk : k < 4) (v : Int64) : gs_ui w (gd_rL w1 31 (vp_updL (w1.2.1 31) (4 * e + k) v)) e p (fun i => if i = k then v else f i) := by
  obtain ⟨h1, h2, h3, h4, h5, h6⟩ := h
  refine ⟨h1, h2, fun a ha => by rw [gd_rL_n ha]; exact h3 a ha, h4, fun i hi => ?_, fun j hj => ?_⟩
  · rw [gd_rL_s]
    by_cases e0 : i = k
    · subst e0; rw [gd_ul_s]; simp
    · rw [gd_ul_n (by omega), h5 i hi]; simp [e0]
  · rw [gd_rL_s, gd_ul_n (by omega)]; exact h6 j hj
theorem gs_ui_pow {w w1 : gd_W} {e p : Nat} {f : Nat → Int64} (h : gs_ui w w1 e p f) (q : Nat) : gs_ui w (gd_rI w1 32 (upd (w1.1 32) e (nI q))) e q f := by
  obtain ⟨h1, h2, h3, h4, h5, h6⟩ := h
  refine ⟨fun a ha => by rw [gd_rI_n ha]; exact h1 a ha, ?_, h3, h4, h5, h6⟩
  rw [gd_rI_s, h2]
  funext j
  by_cases e0 : j = e
  · subst e0; rw [gd_u_s, gd_u_s]
  · rw [gd_u_n e0, gd_u_n e0, gd_u_n e0]
theorem gs_ui_ext {w w1 : gd_W} {e p : Nat} {f g : Nat → Int64} (h : gs_ui w w1 e p f) (hg : ∀ k, k < 4 → f k = g k) : gs_ui w w1 e p g := ⟨h.1, h.2.1, h.2.2.1, h.2.2.2.1, fun k hk => (h.2.2.2.2.1 k hk).trans (hg k hk), h.2.2.2.2.2⟩
/-- the first k by f, the others by g -/
def gs_mix (f g : Nat → Int64) (k : Nat) : Nat → Int64 := fun i => if i < k then f i else g i
theorem gs_ui_mix {w w1 : gd_W} {e p : Nat} {f g : Nat → Int64} {k : Nat} (h : gs_ui w w1 e p (gs_mix f g k)) (hk : k < 4) {v : Int64} (hv : v = f k) : gs_ui w (gd_rL w1 31 (vp_updL (w1.2.1 31) (4 * e + k) v)) e p (gs_mix f g (k + 1)) := by
  refine gs_ui_ext (gs_ui_set h hk v) fun i hi => ?_
  unfold gs_mix
  by_cases e0 : i = k
  · subst e0; rw [if_pos rfl, if_pos (by omega), hv]
  · rw [if_neg e0]
    by_cases e1 : i < k
    · rw [if_pos e1, if_pos (by omega)]
    · rw [if_neg e1, if_neg (by omega)]
theorem gs_ui_full {w w1 : gd_W} {e p : Nat} {f g : Nat → Int64} {k : Nat} (h : gs_ui w w1 e p (gs_mix f g k)) (hk : 4 ≤ k) : gs_ui w w1 e p f := gs_ui_ext h fun i hi => by rw [gs_mix, if_pos (by omega)]
theorem gs_all_s (f : Nat → Int64) (k : Nat) : gs_all f (k + 1) = (gs_all f k && gs_ev (f k)) := rfl
set_option maxHeartbeats 4000000 in
set_option maxRecDepth 100000 in
theorem c2_Munite {l : Launch} {D : va_G} {tC : FieldType → ClassId} {ad : Nat → Nat} (hinj : ∀ i j, ad i = ad j → i = j) (w : gd_W) (d e1 : Nat) (hd : d < 60) (he : e1 < 60) (hde : d ≠ e1) (pd pe : Nat) (hpd : pd ≤ 60) (hpe : pe ≤ 60) (fd fe : Nat → Int64) (h1 : w.1 32 d = nI pd) (h2 : w.1 32 e1 = nI pe) (h3 : ∀ k, k < 4 → w.2.1 31 (4 * d + k) = fd k) (h4 : ∀ k, k < 4 → w.2.1 31 (4 * e1 + k) = fe k) : gd_Cp l D tC ad 45 0 0 y_M_unite c_M_unite 9 none [.ref 27, .int (nI d), .int (nI e1)] w (fun r w' => r = none ∧ ∃ w1, gs_ui w w1 e1 (gs_nrm (max pd pe + 1) (fun k => fd k * gs_pw (pe - pd) + fe k * gs_pw (pd - pe))).1 (gs_nrm (max pd pe + 1) (fun k => fd k * gs_pw (pe - pd) + fe k * gs_pw (pd - pe))).2 ∧ w' = gd_rI (gd_rI (gd_rI w1 29 (upd (w1.1 29) e1 (nI 2))) 29 (upd ((gd_rI w1 29 (upd (w1.1 29) e1 (nI 2))).1 29) d (nI 0))) 36 (upd ((gd_rI (gd_rI w1 29 (upd (w1.1 29) e1 (nI 2))) 29 (upd ((gd_rI w1 29 (upd (w1.1 29) e1 (nI 2))).1 29) d (nI 0))).1 36) d (nI 0))) := by
  refine gd_Cp_of rfl hinj (Nat.le_of_ble_eq_true rfl) ?_
  intro p e s m args below meth c E hr hlk
  have K := k_M_unite
  have hA : ∀ q, gd_A ad 45 s.heap.size q → gd_A ad 45 s.heap.size q := fun _ h => h
  generalize hF : (fun k => fd k * gs_pw (pe - pd) + fe k * gs_pw (pd - pe)) = f0
  have low : ∀ q f w1, gs_nrm q f = gs_nrm (max pd pe + 1) f0 → q ≤ 61 → gs_ui w w1 e1 q f → gd_G p l e (gd_rm 0 0) s m args below meth c D tC ad (gd_A ad 45 s.heap.size) 45 9 0 0 (MQ below (gd_Qp D tC ad 45 s.heap.size (fun r w' => r = none ∧ ∃ w1, gs_ui w w1 e1 (gs_nrm (max pd pe + 1) (f0)).1 (gs_nrm (max pd pe + 1) (f0)).2 ∧ w' = gd_rI (gd_rI (gd_rI w1 29 (upd (w1.1 29) e1 (nI 2))) 29 (upd ((gd_rI w1 29 (upd (w1.1 29) e1 (nI 2))).1 29) d (nI 0))) 36 (upd ((gd_rI (gd_rI w1 29 (upd (w1.1 29) e1 (nI 2))) 29 (upd ((gd_rI w1 29 (upd (w1.1 29) e1 (nI 2))).1 29) d (nI 0))).1 36) d (nI 0)))) args s 0 0 (gd_A ad 45 s.heap.size)) 196 [(0, .ref 27), (1, .int (nI d)), (2, .int (nI e1)), (3, .long (gs_pw (pe - pd))), (5, .long (gs_pw (pd - pe))), (7, .int (gs_b (gs_all f 4)))] [] w1 := by
    intro q
    induction q with
    | zero =>
        intro f w1 hn hq hu
        refine gd_r E K 1 (pc' := 198) (lv' := [(0, .ref 27), (1, .int (nI d)), (2, .int (nI e1)), (3, .long (gs_pw (pe - pd))), (5, .long (gs_pw (pd - pe))), (7, .int (gs_b (gs_all f 4)))]) (st' := [.int (gs_b (gs_all f 4))]) (w' := w1) rfl ?_
        cases hb : gs_all f 4 with
        | true =>
          refine gd_r E K 1 (pc' := if (gs_b (true)) = 0 then 315 else 201) (lv' := [(0, .ref 27), (1, .int (nI d)), (2, .int (nI e1)), (3, .long (gs_pw (pe - pd))), (5, .long (gs_pw (pd - pe))), (7, .int (gs_b (true)))]) (st' := []) (w' := w1) rfl ?_
          refine gd_if (by decide) ?_
          refine gd_r E K 3 (pc' := 206) (lv' := [(0, .ref 27), (1, .int (nI d)), (2, .int (nI e1)), (3, .long (gs_pw (pe - pd))), (5, .long (gs_pw (pd - pe))), (7, .int (gs_b (true)))]) (st' := [.int (nI e1), .ref 32]) (w' := w1) rfl ?_
          refine gd_ialdv E (K.1 206 (.iaload, 0) rfl).1 (j := e1) (by decide) (rfl) (rfl) (he) (by decide) (v := nI 0) (by rw [hu.2.1, gd_u_s]) ?_
          refine gd_r E K 1 (pc' := if (nI 0) ≤ 0 then 315 else 210) (lv' := [(0, .ref 27), (1, .int (nI d)), (2, .int (nI e1)), (3, .long (gs_pw (pe - pd))), (5, .long (gs_pw (pd - pe))), (7, .int (gs_b (true)))]) (st' := []) (w' := w1) rfl ?_
          refine gd_it (by decide) ?_
          refine gd_r E K 4 (pc' := 321) (lv' := [(0, .ref 27), (1, .int (nI d)), (2, .int (nI e1)), (3, .long (gs_pw (pe - pd))), (5, .long (gs_pw (pd - pe))), (7, .int (gs_b (true)))]) (st' := [.int 2, .int (nI e1), .ref 29]) (w' := w1) rfl ?_
          refine gd_iast E (K.1 321 (.iastore, 0) rfl).1 (j := e1) (by decide) (rfl) (rfl) (he) (by decide) ?_
          refine gd_r E K 4 (pc' := 328) (lv' := [(0, .ref 27), (1, .int (nI d)), (2, .int (nI e1)), (3, .long (gs_pw (pe - pd))), (5, .long (gs_pw (pd - pe))), (7, .int (gs_b (true)))]) (st' := [.int 0, .int (nI d), .ref 29]) (w' := gd_rI w1 29 (upd (w1.1 29) e1 2)) rfl ?_
          refine gd_iast E (K.1 328 (.iastore, 0) rfl).1 (j := d) (by decide) (rfl) (rfl) (hd) (by decide) ?_
          refine gd_r E K 4 (pc' := 335) (lv' := [(0, .ref 27), (1, .int (nI d)), (2, .int (nI e1)), (3, .long (gs_pw (pe - pd))), (5, .long (gs_pw (pd - pe))), (7, .int (gs_b (true)))]) (st' := [.int 0, .int (nI d), .ref 36]) (w' := gd_rI (gd_rI w1 29 (upd (w1.1 29) e1 2)) 29 (upd ((gd_rI w1 29 (upd (w1.1 29) e1 2)).1 29) d 0)) rfl ?_
          refine gd_iast E (K.1 335 (.iastore, 0) rfl).1 (j := d) (by decide) (rfl) (rfl) (hd) (by decide) ?_
          exact gd_vretp E hr hlk (K.1 336 (.return_, 0) rfl).1 (⟨rfl, w1, by rw [← hn, gs_nrm]; exact hu, rfl⟩)
        | false =>
          refine gd_r E K 1 (pc' := if (gs_b (false)) = 0 then 315 else 201) (lv' := [(0, .ref 27), (1, .int (nI d)), (2, .int (nI e1)), (3, .long (gs_pw (pe - pd))), (5, .long (gs_pw (pd - pe))), (7, .int (gs_b (false)))]) (st' := []) (w' := w1) rfl ?_
          refine gd_it (by decide) ?_
          refine gd_r E K 4 (pc' := 321) (lv' := [(0, .ref 27), (1, .int (nI d)), (2, .int (nI e1)), (3, .long (gs_pw (pe - pd))), (5, .long (gs_pw (pd - pe))), (7, .int (gs_b (false)))]) (st' := [.int 2, .int (nI e1), .ref 29]) (w' := w1) rfl ?_
          refine gd_iast E (K.1 321 (.iastore, 0) rfl).1 (j := e1) (by decide) (rfl) (rfl) (he) (by decide) ?_
          refine gd_r E K 4 (pc' := 328) (lv' := [(0, .ref 27), (1, .int (nI d)), (2, .int (nI e1)), (3, .long (gs_pw (pe - pd))), (5, .long (gs_pw (pd - pe))), (7, .int (gs_b (false)))]) (st' := [.int 0, .int (nI d), .ref 29]) (w' := gd_rI w1 29 (upd (w1.1 29) e1 2)) rfl ?_
          refine gd_iast E (K.1 328 (.iastore, 0) rfl).1 (j := d) (by decide) (rfl) (rfl) (hd) (by decide) ?_
          refine gd_r E K 4 (pc' := 335) (lv' := [(0, .ref 27), (1, .int (nI d)), (2, .int (nI e1)), (3, .long (gs_pw (pe - pd))), (5, .long (gs_pw (pd - pe))), (7, .int (gs_b (false)))]) (st' := [.int 0, .int (nI d), .ref 36]) (w' := gd_rI (gd_rI w1 29 (upd (w1.1 29) e1 2)) 29 (upd ((gd_rI w1 29 (upd (w1.1 29) e1 2)).1 29) d 0)) rfl ?_
          refine gd_iast E (K.1 335 (.iastore, 0) rfl).1 (j := d) (by decide) (rfl) (rfl) (hd) (by decide) ?_
          exact gd_vretp E hr hlk (K.1 336 (.return_, 0) rfl).1 (⟨rfl, w1, by rw [← hn, gs_nrm]; exact hu, rfl⟩)
    | succ q ih =>
        intro f w1 hn hq hu
        refine gd_r E K 1 (pc' := 198) (lv' := [(0, .ref 27), (1, .int (nI d)), (2, .int (nI e1)), (3, .long (gs_pw (pe - pd))), (5, .long (gs_pw (pd - pe))), (7, .int (gs_b (gs_all f 4)))]) (st' := [.int (gs_b (gs_all f 4))]) (w' := w1) rfl ?_
        cases hb : gs_all f 4 with
        | true =>
          refine gd_r E K 1 (pc' := if (gs_b (true)) = 0 then 315 else 201) (lv' := [(0, .ref 27), (1, .int (nI d)), (2, .int (nI e1)), (3, .long (gs_pw (pe - pd))), (5, .long (gs_pw (pd - pe))), (7, .int (gs_b (true)))]) (st' := []) (w' := w1) rfl ?_
          refine gd_if (by decide) ?_
          refine gd_r E K 3 (pc' := 206) (lv' := [(0, .ref 27), (1, .int (nI d)), (2, .int (nI e1)), (3, .long (gs_pw (pe - pd))), (5, .long (gs_pw (pd - pe))), (7, .int (gs_b (true)))]) (st' := [.int (nI e1), .ref 32]) (w' := w1) rfl ?_
          refine gd_ialdv E (K.1 206 (.iaload, 0) rfl).1 (j := e1) (by decide) (rfl) (rfl) (he) (by decide) (v := nI (q + 1)) (by rw [hu.2.1, gd_u_s]) ?_
          refine gd_r E K 1 (pc' := if (nI (q + 1)) ≤ 0 then 315 else 210) (lv' := [(0, .ref 27), (1, .int (nI d)), (2, .int (nI e1)), (3, .long (gs_pw (pe - pd))), (5, .long (gs_pw (pd - pe))), (7, .int (gs_b (true)))]) (st' := []) (w' := w1) rfl ?_
          refine gd_if (nI_nle (by omega) (by omega)) ?_
          refine gd_r E K 6 (pc' := 220) (lv' := [(0, .ref 27), (1, .int (nI d)), (2, .int (nI e1)), (3, .long (gs_pw (pe - pd))), (5, .long (gs_pw (pd - pe))), (7, .int (gs_b (true)))]) (st' := [.int (nI e1), .ref 32, .int (nI e1), .ref 32]) (w' := w1) rfl ?_
          refine gd_ialdv E (K.1 220 (.iaload, 0) rfl).1 (j := e1) (by decide) (rfl) (rfl) (he) (by decide) (v := nI (q + 1)) (by rw [hu.2.1, gd_u_s]) ?_
          refine gd_r E K 2 (pc' := 223) (lv' := [(0, .ref 27), (1, .int (nI d)), (2, .int (nI e1)), (3, .long (gs_pw (pe - pd))), (5, .long (gs_pw (pd - pe))), (7, .int (gs_b (true)))]) (st' := [.int ((nI (q + 1)) - 1), .int (nI e1), .ref 32]) (w' := w1) rfl ?_
          refine gd_cg (lv' := [(0, .ref 27), (1, .int (nI d)), (2, .int (nI e1)), (3, .long (gs_pw (pe - pd))), (5, .long (gs_pw (pd - pe))), (7, .int (gs_b (true)))]) (st' := [.int (nI q), .int (nI e1), .ref 32]) (w' := w1) ?_ (rfl) (by rw [nI_pred]) (rfl)
          refine gd_iast E (K.1 223 (.iastore, 0) rfl).1 (j := e1) (by decide) (rfl) (rfl) (he) (by decide) ?_
          have hu2 := gs_ui_pow hu q
          generalize gd_rI w1 32 (upd (w1.1 32) e1 (nI q)) = w2 at hu2 ⊢
          refine gd_r E K 2 (pc' := 227) (lv' := [(0, .ref 27), (1, .int (nI d)), (2, .int (nI e1)), (3, .long (gs_pw (pe - pd))), (5, .long (gs_pw (pd - pe))), (7, .int (gs_b (true))), (8, .int 0)]) (st' := []) (w' := w2) rfl ?_
          refine gd_cg (lv' := [(0, .ref 27), (1, .int (nI d)), (2, .int (nI e1)), (3, .long (gs_pw (pe - pd))), (5, .long (gs_pw (pd - pe))), (7, .int (gs_b true)), (8, .int (nI 0))]) (st' := []) (w' := w2) ?_ (rfl) (rfl) (rfl)
          have ev : ∀ j k w3, k + j = 4 → gs_ui w w3 e1 q (fun k => f k / 2) → gd_G p l e (gd_rm 0 0) s m args below meth c D tC ad (gd_A ad 45 s.heap.size) 45 9 0 0 (MQ below (gd_Qp D tC ad 45 s.heap.size (fun r w' => r = none ∧ ∃ w1, gs_ui w w1 e1 (gs_nrm (max pd pe + 1) (f0)).1 (gs_nrm (max pd pe + 1) (f0)).2 ∧ w' = gd_rI (gd_rI (gd_rI w1 29 (upd (w1.1 29) e1 (nI 2))) 29 (upd ((gd_rI w1 29 (upd (w1.1 29) e1 (nI 2))).1 29) d (nI 0))) 36 (upd ((gd_rI (gd_rI w1 29 (upd (w1.1 29) e1 (nI 2))) 29 (upd ((gd_rI w1 29 (upd (w1.1 29) e1 (nI 2))).1 29) d (nI 0))).1 36) d (nI 0)))) args s 0 0 (gd_A ad 45 s.heap.size)) 268 [(0, .ref 27), (1, .int (nI d)), (2, .int (nI e1)), (3, .long (gs_pw (pe - pd))), (5, .long (gs_pw (pd - pe))), (7, .int (gs_b (gs_all (fun k => f k / 2) k))), (8, .int (nI k))] [] w3 := by
            intro j
            induction j with
            | zero =>
              intro k w3 hk hu3
              refine gd_r E K 2 (pc' := 271) (lv' := [(0, .ref 27), (1, .int (nI d)), (2, .int (nI e1)), (3, .long (gs_pw (pe - pd))), (5, .long (gs_pw (pd - pe))), (7, .int (gs_b (gs_all (fun k => f k / 2) k))), (8, .int (nI k))]) (st' := [.int 4, .int (nI k)]) (w' := w3) rfl ?_
              refine gd_r E K 1 (pc' := if 4 ≤ (nI k) then 312 else 274) (lv' := [(0, .ref 27), (1, .int (nI d)), (2, .int (nI e1)), (3, .long (gs_pw (pe - pd))), (5, .long (gs_pw (pd - pe))), (7, .int (gs_b (gs_all (fun k => f k / 2) k))), (8, .int (nI k))]) (st' := []) (w' := w3) rfl ?_
              refine gd_it (nI_le (show 4 ≤ k by omega) (by omega)) ?_
              refine gd_r E K 1 (pc' := 196) (lv' := [(0, .ref 27), (1, .int (nI d)), (2, .int (nI e1)), (3, .long (gs_pw (pe - pd))), (5, .long (gs_pw (pd - pe))), (7, .int (gs_b (gs_all (fun k => f k / 2) k))), (8, .int (nI k))]) (st' := []) (w' := w3) rfl ?_
              refine gd_lvp [0, 1, 2, 3, 4, 5] (lv' := [(0, .ref 27), (1, .int (nI d)), (2, .int (nI e1)), (3, .long (gs_pw (pe - pd))), (5, .long (gs_pw (pd - pe))), (7, .int (gs_b (gs_all (fun k => f k / 2) k)))]) rfl ?_
              exact gd_cg (ih (fun k => f k / 2) w3 (by rw [← hn, gs_nrm, hb]; rfl) (by omega) hu3) (by rw [show k = 4 by omega]) rfl rfl
            | succ j ih2 =>
              intro k w3 hk hu3
              refine gd_r E K 2 (pc' := 271) (lv' := [(0, .ref 27), (1, .int (nI d)), (2, .int (nI e1)), (3, .long (gs_pw (pe - pd))), (5, .long (gs_pw (pd - pe))), (7, .int (gs_b (gs_all (fun k => f k / 2) k))), (8, .int (nI k))]) (st' := [.int 4, .int (nI k)]) (w' := w3) rfl ?_
              refine gd_r E K 1 (pc' := if 4 ≤ (nI k) then 312 else 274) (lv' := [(0, .ref 27), (1, .int (nI d)), (2, .int (nI e1)), (3, .long (gs_pw (pe - pd))), (5, .long (gs_pw (pd - pe))), (7, .int (gs_b (gs_all (fun k => f k / 2) k))), (8, .int (nI k))]) (st' := []) (w' := w3) rfl ?_
              refine gd_if (nI_ge (show k < 4 by omega) (by decide)) ?_
              refine gd_r E K 1 (pc' := 276) (lv' := [(0, .ref 27), (1, .int (nI d)), (2, .int (nI e1)), (3, .long (gs_pw (pe - pd))), (5, .long (gs_pw (pd - pe))), (7, .int (gs_b (gs_all (fun k => f k / 2) k))), (8, .int (nI k))]) (st' := [.int (gs_b (gs_all (fun k => f k / 2) k))]) (w' := w3) rfl ?_
              cases hx : gs_all (fun k => f k / 2) k with
              | true =>
                refine gd_r E K 1 (pc' := if (gs_b (true)) = 0 then 303 else 279) (lv' := [(0, .ref 27), (1, .int (nI d)), (2, .int (nI e1)), (3, .long (gs_pw (pe - pd))), (5, .long (gs_pw (pd - pe))), (7, .int (gs_b (true))), (8, .int (nI k))]) (st' := []) (w' := w3) rfl ?_
                refine gd_if (by decide) ?_
                refine gd_r E K 7 (pc' := 289) (lv' := [(0, .ref 27), (1, .int (nI d)), (2, .int (nI e1)), (3, .long (gs_pw (pe - pd))), (5, .long (gs_pw (pd - pe))), (7, .int (gs_b (true))), (8, .int (nI k))]) (st' := [.int ((4 * (nI e1)) + (nI k)), .ref 31]) (w' := w3) rfl ?_
                refine gd_laldv E (K.1 289 (.laload, 0) rfl).1 (j := 4 * e1 + k) (by decide) (rfl) (by show nI 4 * nI e1 + nI k = _; rw [pk_mul, nI_add]) (by omega) (by decide) (v := f k / 2) (hu3.2.2.2.2.1 k (by omega)) ?_
                refine gd_r E K 4 (pc' := 296) (lv' := [(0, .ref 27), (1, .int (nI d)), (2, .int (nI e1)), (3, .long (gs_pw (pe - pd))), (5, .long (gs_pw (pd - pe))), (7, .int (gs_b (true))), (8, .int (nI k))]) (st' := [.int (lg_cmp ((f k / 2) - (f k / 2) / 2 * 2) 0)]) (w' := w3) rfl ?_
                by_cases hev : f k / 2 - f k / 2 / 2 * 2 = 0
                · refine gd_r E K 1 (pc' := if (lg_cmp ((f k / 2) - (f k / 2) / 2 * 2) 0) = 0 then 299 else 303) (lv' := [(0, .ref 27), (1, .int (nI d)), (2, .int (nI e1)), (3, .long (gs_pw (pe - pd))), (5, .long (gs_pw (pd - pe))), (7, .int (gs_b (true))), (8, .int (nI k))]) (st' := []) (w' := w3) rfl ?_
                  refine gd_it ((lg_cmp_eq _ _).mpr hev) ?_
                  refine gd_r E K 5 (pc' := 268) (lv' := [(0, .ref 27), (1, .int (nI d)), (2, .int (nI e1)), (3, .long (gs_pw (pe - pd))), (5, .long (gs_pw (pd - pe))), (7, .int 1), (8, .int ((nI k) + 1))]) (st' := []) (w' := w3) rfl ?_
                  exact gd_cg (ih2 (k + 1) w3 (by omega) hu3) (by rw [gs_all_s, hx, show gs_ev (f k / 2) = true from decide_eq_true hev, nI_1]; rfl) rfl rfl
                · refine gd_r E K 1 (pc' := if (lg_cmp ((f k / 2) - (f k / 2) / 2 * 2) 0) = 0 then 299 else 303) (lv' := [(0, .ref 27), (1, .int (nI d)), (2, .int (nI e1)), (3, .long (gs_pw (pe - pd))), (5, .long (gs_pw (pd - pe))), (7, .int (gs_b (true))), (8, .int (nI k))]) (st' := []) (w' := w3) rfl ?_
                  refine gd_if (fun z => hev ((lg_cmp_eq _ _).mp z)) ?_
                  refine gd_r E K 4 (pc' := 268) (lv' := [(0, .ref 27), (1, .int (nI d)), (2, .int (nI e1)), (3, .long (gs_pw (pe - pd))), (5, .long (gs_pw (pd - pe))), (7, .int 0), (8, .int ((nI k) + 1))]) (st' := []) (w' := w3) rfl ?_
                  exact gd_cg (ih2 (k + 1) w3 (by omega) hu3) (by rw [gs_all_s, hx, show gs_ev (f k / 2) = false from decide_eq_false hev, nI_1]; rfl) rfl rfl
              | false =>
                refine gd_r E K 1 (pc' := if (gs_b (false)) = 0 then 303 else 279) (lv' := [(0, .ref 27), (1, .int (nI d)), (2, .int (nI e1)), (3, .long (gs_pw (pe - pd))), (5, .long (gs_pw (pd - pe))), (7, .int (gs_b (false))), (8, .int (nI k))]) (st' := []) (w' := w3) rfl ?_
                refine gd_it (by decide) ?_
                refine gd_r E K 4 (pc' := 268) (lv' := [(0, .ref 27), (1, .int (nI d)), (2, .int (nI e1)), (3, .long (gs_pw (pe - pd))), (5, .long (gs_pw (pd - pe))), (7, .int 0), (8, .int ((nI k) + 1))]) (st' := []) (w' := w3) rfl ?_
                exact gd_cg (ih2 (k + 1) w3 (by omega) hu3) (by rw [gs_all_s, hx, Bool.false_and, nI_1]; rfl) rfl rfl
          have half : ∀ j k w3, k + j = 4 → gs_ui w w3 e1 q (gs_mix (fun k => f k / 2) f k) → gd_G p l e (gd_rm 0 0) s m args below meth c D tC ad (gd_A ad 45 s.heap.size) 45 9 0 0 (MQ below (gd_Qp D tC ad 45 s.heap.size (fun r w' => r = none ∧ ∃ w1, gs_ui w w1 e1 (gs_nrm (max pd pe + 1) (f0)).1 (gs_nrm (max pd pe + 1) (f0)).2 ∧ w' = gd_rI (gd_rI (gd_rI w1 29 (upd (w1.1 29) e1 (nI 2))) 29 (upd ((gd_rI w1 29 (upd (w1.1 29) e1 (nI 2))).1 29) d (nI 0))) 36 (upd ((gd_rI (gd_rI w1 29 (upd (w1.1 29) e1 (nI 2))) 29 (upd ((gd_rI w1 29 (upd (w1.1 29) e1 (nI 2))).1 29) d (nI 0))).1 36) d (nI 0)))) args s 0 0 (gd_A ad 45 s.heap.size)) 227 [(0, .ref 27), (1, .int (nI d)), (2, .int (nI e1)), (3, .long (gs_pw (pe - pd))), (5, .long (gs_pw (pd - pe))), (7, .int (gs_b true)), (8, .int (nI k))] [] w3 := by
            intro j
            induction j with
            | zero =>
              intro k w3 hk hu3
              refine gd_r E K 2 (pc' := 230) (lv' := [(0, .ref 27), (1, .int (nI d)), (2, .int (nI e1)), (3, .long (gs_pw (pe - pd))), (5, .long (gs_pw (pd - pe))), (7, .int (gs_b true)), (8, .int (nI k))]) (st' := [.int 4, .int (nI k)]) (w' := w3) rfl ?_
              refine gd_r E K 1 (pc' := if 4 ≤ (nI k) then 265 else 233) (lv' := [(0, .ref 27), (1, .int (nI d)), (2, .int (nI e1)), (3, .long (gs_pw (pe - pd))), (5, .long (gs_pw (pd - pe))), (7, .int (gs_b true)), (8, .int (nI k))]) (st' := []) (w' := w3) rfl ?_
              refine gd_it (nI_le (show 4 ≤ k by omega) (by omega)) ?_
              refine gd_r E K 2 (pc' := 268) (lv' := [(0, .ref 27), (1, .int (nI d)), (2, .int (nI e1)), (3, .long (gs_pw (pe - pd))), (5, .long (gs_pw (pd - pe))), (7, .int (gs_b true)), (8, .int 0)]) (st' := []) (w' := w3) rfl ?_
              exact gd_cg (ev 4 0 w3 (by omega) (gs_ui_full hu3 (by omega))) rfl rfl rfl
            | succ j ih2 =>
              intro k w3 hk hu3
              refine gd_r E K 2 (pc' := 230) (lv' := [(0, .ref 27), (1, .int (nI d)), (2, .int (nI e1)), (3, .long (gs_pw (pe - pd))), (5, .long (gs_pw (pd - pe))), (7, .int (gs_b true)), (8, .int (nI k))]) (st' := [.int 4, .int (nI k)]) (w' := w3) rfl ?_
              refine gd_r E K 1 (pc' := if 4 ≤ (nI k) then 265 else 233) (lv' := [(0, .ref 27), (1, .int (nI d)), (2, .int (nI e1)), (3, .long (gs_pw (pe - pd))), (5, .long (gs_pw (pd - pe))), (7, .int (gs_b true)), (8, .int (nI k))]) (st' := []) (w' := w3) rfl ?_
              refine gd_if (nI_ge (show k < 4 by omega) (by decide)) ?_
              refine gd_r E K 14 (pc' := 253) (lv' := [(0, .ref 27), (1, .int (nI d)), (2, .int (nI e1)), (3, .long (gs_pw (pe - pd))), (5, .long (gs_pw (pd - pe))), (7, .int (gs_b true)), (8, .int (nI k))]) (st' := [.int ((4 * (nI e1)) + (nI k)), .ref 31, .int ((4 * (nI e1)) + (nI k)), .ref 31]) (w' := w3) rfl ?_
              refine gd_laldv E (K.1 253 (.laload, 0) rfl).1 (j := 4 * e1 + k) (by decide) (rfl) (by show nI 4 * nI e1 + nI k = _; rw [pk_mul, nI_add]) (by omega) (by decide) (v := f k) (by rw [hu3.2.2.2.2.1 k (by omega), gs_mix, if_neg (by omega)]) ?_
              refine gd_r E K 2 (pc' := 258) (lv' := [(0, .ref 27), (1, .int (nI d)), (2, .int (nI e1)), (3, .long (gs_pw (pe - pd))), (5, .long (gs_pw (pd - pe))), (7, .int (gs_b true)), (8, .int (nI k))]) (st' := [.long ((f k) / 2), .int ((4 * (nI e1)) + (nI k)), .ref 31]) (w' := w3) rfl ?_
              refine gd_last E (K.1 258 (.lastore, 0) rfl).1 (j := 4 * e1 + k) (by decide) (rfl) (by show nI 4 * nI e1 + nI k = _; rw [pk_mul, nI_add]) (by omega) (by decide) ?_
              refine gd_r E K 2 (pc' := 227) (lv' := [(0, .ref 27), (1, .int (nI d)), (2, .int (nI e1)), (3, .long (gs_pw (pe - pd))), (5, .long (gs_pw (pd - pe))), (7, .int (gs_b true)), (8, .int ((nI k) + 1))]) (st' := []) (w' := gd_rL w3 31 (vp_updL (w3.2.1 31) (4 * e1 + k) ((f k) / 2))) rfl ?_
              exact gd_cg (ih2 (k + 1) _ (by omega) (gs_ui_mix hu3 (by omega) rfl)) (by rw [nI_1]) rfl rfl
          exact half 4 0 w2 (by omega) (gs_ui_ext hu2 fun k _ => by rw [gs_mix, if_neg (by omega)])
        | false =>
          refine gd_r E K 1 (pc' := if (gs_b (false)) = 0 then 315 else 201) (lv' := [(0, .ref 27), (1, .int (nI d)), (2, .int (nI e1)), (3, .long (gs_pw (pe - pd))), (5, .long (gs_pw (pd - pe))), (7, .int (gs_b (false)))]) (st' := []) (w' := w1) rfl ?_
          refine gd_it (by decide) ?_
          refine gd_r E K 4 (pc' := 321) (lv' := [(0, .ref 27), (1, .int (nI d)), (2, .int (nI e1)), (3, .long (gs_pw (pe - pd))), (5, .long (gs_pw (pd - pe))), (7, .int (gs_b (false)))]) (st' := [.int 2, .int (nI e1), .ref 29]) (w' := w1) rfl ?_
          refine gd_iast E (K.1 321 (.iastore, 0) rfl).1 (j := e1) (by decide) (rfl) (rfl) (he) (by decide) ?_
          refine gd_r E K 4 (pc' := 328) (lv' := [(0, .ref 27), (1, .int (nI d)), (2, .int (nI e1)), (3, .long (gs_pw (pe - pd))), (5, .long (gs_pw (pd - pe))), (7, .int (gs_b (false)))]) (st' := [.int 0, .int (nI d), .ref 29]) (w' := gd_rI w1 29 (upd (w1.1 29) e1 2)) rfl ?_
          refine gd_iast E (K.1 328 (.iastore, 0) rfl).1 (j := d) (by decide) (rfl) (rfl) (hd) (by decide) ?_
          refine gd_r E K 4 (pc' := 335) (lv' := [(0, .ref 27), (1, .int (nI d)), (2, .int (nI e1)), (3, .long (gs_pw (pe - pd))), (5, .long (gs_pw (pd - pe))), (7, .int (gs_b (false)))]) (st' := [.int 0, .int (nI d), .ref 36]) (w' := gd_rI (gd_rI w1 29 (upd (w1.1 29) e1 2)) 29 (upd ((gd_rI w1 29 (upd (w1.1 29) e1 2)).1 29) d 0)) rfl ?_
          refine gd_iast E (K.1 335 (.iastore, 0) rfl).1 (j := d) (by decide) (rfl) (rfl) (hd) (by decide) ?_
          exact gd_vretp E hr hlk (K.1 336 (.return_, 0) rfl).1 (⟨rfl, w1, by rw [← hn, gs_nrm, hb]; exact hu, rfl⟩)
  have sums : ∀ j k w1, k + j = 4 → gs_ui w w1 e1 (max pd pe + 1) (gs_mix f0 fe k) → gd_G p l e (gd_rm 0 0) s m args below meth c D tC ad (gd_A ad 45 s.heap.size) 45 9 0 0 (MQ below (gd_Qp D tC ad 45 s.heap.size (fun r w' => r = none ∧ ∃ w1, gs_ui w w1 e1 (gs_nrm (max pd pe + 1) (f0)).1 (gs_nrm (max pd pe + 1) (f0)).2 ∧ w' = gd_rI (gd_rI (gd_rI w1 29 (upd (w1.1 29) e1 (nI 2))) 29 (upd ((gd_rI w1 29 (upd (w1.1 29) e1 (nI 2))).1 29) d (nI 0))) 36 (upd ((gd_rI (gd_rI w1 29 (upd (w1.1 29) e1 (nI 2))) 29 (upd ((gd_rI w1 29 (upd (w1.1 29) e1 (nI 2))).1 29) d (nI 0))).1 36) d (nI 0)))) args s 0 0 (gd_A ad 45 s.heap.size)) 113 [(0, .ref 27), (1, .int (nI d)), (2, .int (nI e1)), (3, .long (gs_pw (pe - pd))), (5, .long (gs_pw (pd - pe))), (7, .int (gs_b (gs_all f0 k))), (8, .int (nI k))] [] w1 := by
    intro j
    induction j with
    | zero =>
        intro k w1 hk hu
        refine gd_r E K 2 (pc' := 116) (lv' := [(0, .ref 27), (1, .int (nI d)), (2, .int (nI e1)), (3, .long (gs_pw (pe - pd))), (5, .long (gs_pw (pd - pe))), (7, .int (gs_b (gs_all f0 k))), (8, .int (nI k))]) (st' := [.int 4, .int (nI k)]) (w' := w1) rfl ?_
        refine gd_r E K 1 (pc' := if 4 ≤ (nI k) then 196 else 119) (lv' := [(0, .ref 27), (1, .int (nI d)), (2, .int (nI e1)), (3, .long (gs_pw (pe - pd))), (5, .long (gs_pw (pd - pe))), (7, .int (gs_b (gs_all f0 k))), (8, .int (nI k))]) (st' := []) (w' := w1) rfl ?_
        refine gd_it (nI_le (show 4 ≤ k by omega) (by omega)) ?_
        refine gd_lvp [0, 1, 2, 3, 4, 5] (lv' := [(0, .ref 27), (1, .int (nI d)), (2, .int (nI e1)), (3, .long (gs_pw (pe - pd))), (5, .long (gs_pw (pd - pe))), (7, .int (gs_b (gs_all f0 k)))]) rfl ?_
        exact gd_cg (low (max pd pe + 1) f0 w1 rfl (by omega) (gs_ui_full hu (by omega))) (by rw [show k = 4 by omega]) rfl rfl
    | succ j ih =>
        intro k w1 hk hu
        refine gd_r E K 2 (pc' := 116) (lv' := [(0, .ref 27), (1, .int (nI d)), (2, .int (nI e1)), (3, .long (gs_pw (pe - pd))), (5, .long (gs_pw (pd - pe))), (7, .int (gs_b (gs_all f0 k))), (8, .int (nI k))]) (st' := [.int 4, .int (nI k)]) (w' := w1) rfl ?_
        refine gd_r E K 1 (pc' := if 4 ≤ (nI k) then 196 else 119) (lv' := [(0, .ref 27), (1, .int (nI d)), (2, .int (nI e1)), (3, .long (gs_pw (pe - pd))), (5, .long (gs_pw (pd - pe))), (7, .int (gs_b (gs_all f0 k))), (8, .int (nI k))]) (st' := []) (w' := w1) rfl ?_
        refine gd_if (nI_ge (show k < 4 by omega) (by decide)) ?_
        refine gd_r E K 14 (pc' := 139) (lv' := [(0, .ref 27), (1, .int (nI d)), (2, .int (nI e1)), (3, .long (gs_pw (pe - pd))), (5, .long (gs_pw (pd - pe))), (7, .int (gs_b (gs_all f0 k))), (8, .int (nI k))]) (st' := [.int ((4 * (nI d)) + (nI k)), .ref 31, .int ((4 * (nI e1)) + (nI k)), .ref 31]) (w' := w1) rfl ?_
        refine gd_laldv E (K.1 139 (.laload, 0) rfl).1 (j := 4 * d + k) (by decide) (rfl) (by show nI 4 * nI d + nI k = _; rw [pk_mul, nI_add]) (by omega) (by decide) (v := fd k) (by rw [hu.2.2.2.2.2 (4 * d + k) (by omega)]; exact h3 k (by omega)) ?_
        refine gd_r E K 9 (pc' := 152) (lv' := [(0, .ref 27), (1, .int (nI d)), (2, .int (nI e1)), (3, .long (gs_pw (pe - pd))), (5, .long (gs_pw (pd - pe))), (7, .int (gs_b (gs_all f0 k))), (8, .int (nI k))]) (st' := [.int ((4 * (nI e1)) + (nI k)), .ref 31, .long ((fd k) * (gs_pw (pe - pd))), .int ((4 * (nI e1)) + (nI k)), .ref 31]) (w' := w1) rfl ?_
        refine gd_laldv E (K.1 152 (.laload, 0) rfl).1 (j := 4 * e1 + k) (by decide) (rfl) (by show nI 4 * nI e1 + nI k = _; rw [pk_mul, nI_add]) (by omega) (by decide) (v := fe k) (by rw [hu.2.2.2.2.1 k (by omega), gs_mix, if_neg (by omega)]) ?_
        refine gd_r E K 3 (pc' := 157) (lv' := [(0, .ref 27), (1, .int (nI d)), (2, .int (nI e1)), (3, .long (gs_pw (pe - pd))), (5, .long (gs_pw (pd - pe))), (7, .int (gs_b (gs_all f0 k))), (8, .int (nI k))]) (st' := [.long (((fd k) * (gs_pw (pe - pd))) + ((fe k) * (gs_pw (pd - pe)))), .int ((4 * (nI e1)) + (nI k)), .ref 31]) (w' := w1) rfl ?_
        have hfk : fd k * gs_pw (pe - pd) + fe k * gs_pw (pd - pe) = f0 k := by rw [← hF]
        refine gd_cg (lv' := [(0, .ref 27), (1, .int (nI d)), (2, .int (nI e1)), (3, .long (gs_pw (pe - pd))), (5, .long (gs_pw (pd - pe))), (7, .int (gs_b (gs_all f0 k))), (8, .int (nI k))]) (st' := [.long (f0 k), .int ((4 * (nI e1)) + (nI k)), .ref 31]) (w' := w1) ?_ (rfl) (by rw [hfk]) (rfl)
        refine gd_last E (K.1 157 (.lastore, 0) rfl).1 (j := 4 * e1 + k) (by decide) (rfl) (by show nI 4 * nI e1 + nI k = _; rw [pk_mul, nI_add]) (by omega) (by decide) ?_
        have hu2 := gs_ui_mix hu (show k < 4 by omega) (v := f0 k) rfl
        generalize gd_rL w1 31 (vp_updL (w1.2.1 31) (4 * e1 + k) (f0 k)) = w2 at hu2 ⊢
        refine gd_r E K 1 (pc' := 160) (lv' := [(0, .ref 27), (1, .int (nI d)), (2, .int (nI e1)), (3, .long (gs_pw (pe - pd))), (5, .long (gs_pw (pd - pe))), (7, .int (gs_b (gs_all f0 k))), (8, .int (nI k))]) (st' := [.int (gs_b (gs_all f0 k))]) (w' := w2) rfl ?_
        cases hx : gs_all f0 k with
        | true =>
          refine gd_r E K 1 (pc' := if (gs_b (true)) = 0 then 187 else 163) (lv' := [(0, .ref 27), (1, .int (nI d)), (2, .int (nI e1)), (3, .long (gs_pw (pe - pd))), (5, .long (gs_pw (pd - pe))), (7, .int (gs_b (true))), (8, .int (nI k))]) (st' := []) (w' := w2) rfl ?_
          refine gd_if (by decide) ?_
          refine gd_r E K 7 (pc' := 173) (lv' := [(0, .ref 27), (1, .int (nI d)), (2, .int (nI e1)), (3, .long (gs_pw (pe - pd))), (5, .long (gs_pw (pd - pe))), (7, .int (gs_b (true))), (8, .int (nI k))]) (st' := [.int ((4 * (nI e1)) + (nI k)), .ref 31]) (w' := w2) rfl ?_
          refine gd_laldv E (K.1 173 (.laload, 0) rfl).1 (j := 4 * e1 + k) (by decide) (rfl) (by show nI 4 * nI e1 + nI k = _; rw [pk_mul, nI_add]) (by omega) (by decide) (v := f0 k) (by rw [hu2.2.2.2.2.1 k (by omega), gs_mix, if_pos (by omega)]) ?_
          refine gd_r E K 4 (pc' := 180) (lv' := [(0, .ref 27), (1, .int (nI d)), (2, .int (nI e1)), (3, .long (gs_pw (pe - pd))), (5, .long (gs_pw (pd - pe))), (7, .int (gs_b (true))), (8, .int (nI k))]) (st' := [.int (lg_cmp ((f0 k) - (f0 k) / 2 * 2) 0)]) (w' := w2) rfl ?_
          by_cases hev : f0 k - f0 k / 2 * 2 = 0
          · refine gd_r E K 1 (pc' := if (lg_cmp ((f0 k) - (f0 k) / 2 * 2) 0) = 0 then 183 else 187) (lv' := [(0, .ref 27), (1, .int (nI d)), (2, .int (nI e1)), (3, .long (gs_pw (pe - pd))), (5, .long (gs_pw (pd - pe))), (7, .int (gs_b (true))), (8, .int (nI k))]) (st' := []) (w' := w2) rfl ?_
            refine gd_it ((lg_cmp_eq _ _).mpr hev) ?_
            refine gd_r E K 5 (pc' := 113) (lv' := [(0, .ref 27), (1, .int (nI d)), (2, .int (nI e1)), (3, .long (gs_pw (pe - pd))), (5, .long (gs_pw (pd - pe))), (7, .int 1), (8, .int ((nI k) + 1))]) (st' := []) (w' := w2) rfl ?_
            exact gd_cg (ih (k + 1) w2 (by omega) hu2) (by rw [gs_all_s, hx, show gs_ev (f0 k) = true from decide_eq_true hev, nI_1]; rfl) rfl rfl
          · refine gd_r E K 1 (pc' := if (lg_cmp ((f0 k) - (f0 k) / 2 * 2) 0) = 0 then 183 else 187) (lv' := [(0, .ref 27), (1, .int (nI d)), (2, .int (nI e1)), (3, .long (gs_pw (pe - pd))), (5, .long (gs_pw (pd - pe))), (7, .int (gs_b (true))), (8, .int (nI k))]) (st' := []) (w' := w2) rfl ?_
            refine gd_if (fun z => hev ((lg_cmp_eq _ _).mp z)) ?_
            refine gd_r E K 4 (pc' := 113) (lv' := [(0, .ref 27), (1, .int (nI d)), (2, .int (nI e1)), (3, .long (gs_pw (pe - pd))), (5, .long (gs_pw (pd - pe))), (7, .int 0), (8, .int ((nI k) + 1))]) (st' := []) (w' := w2) rfl ?_
            exact gd_cg (ih (k + 1) w2 (by omega) hu2) (by rw [gs_all_s, hx, show gs_ev (f0 k) = false from decide_eq_false hev, nI_1]; rfl) rfl rfl
        | false =>
          refine gd_r E K 1 (pc' := if (gs_b (false)) = 0 then 187 else 163) (lv' := [(0, .ref 27), (1, .int (nI d)), (2, .int (nI e1)), (3, .long (gs_pw (pe - pd))), (5, .long (gs_pw (pd - pe))), (7, .int (gs_b (false))), (8, .int (nI k))]) (st' := []) (w' := w2) rfl ?_
          refine gd_it (by decide) ?_
          refine gd_r E K 4 (pc' := 113) (lv' := [(0, .ref 27), (1, .int (nI d)), (2, .int (nI e1)), (3, .long (gs_pw (pe - pd))), (5, .long (gs_pw (pd - pe))), (7, .int 0), (8, .int ((nI k) + 1))]) (st' := []) (w' := w2) rfl ?_
          exact gd_cg (ih (k + 1) w2 (by omega) hu2) (by rw [gs_all_s, hx, Bool.false_and, nI_1]; rfl) rfl rfl
  have mid : gd_G p l e (gd_rm 0 0) s m args below meth c D tC ad (gd_A ad 45 s.heap.size) 45 9 0 0 (MQ below (gd_Qp D tC ad 45 s.heap.size (fun r w' => r = none ∧ ∃ w1, gs_ui w w1 e1 (gs_nrm (max pd pe + 1) (f0)).1 (gs_nrm (max pd pe + 1) (f0)).2 ∧ w' = gd_rI (gd_rI (gd_rI w1 29 (upd (w1.1 29) e1 (nI 2))) 29 (upd ((gd_rI w1 29 (upd (w1.1 29) e1 (nI 2))).1 29) d (nI 0))) 36 (upd ((gd_rI (gd_rI w1 29 (upd (w1.1 29) e1 (nI 2))) 29 (upd ((gd_rI w1 29 (upd (w1.1 29) e1 (nI 2))).1 29) d (nI 0))).1 36) d (nI 0)))) args s 0 0 (gd_A ad 45 s.heap.size)) 69 [(0, .ref 27), (1, .int (nI d)), (2, .int (nI e1)), (3, .long (gs_pw (pe - pd))), (5, .long (gs_pw (pd - pe)))] [] w := by
    refine gd_r E K 6 (pc' := 79) (lv' := [(0, .ref 27), (1, .int (nI d)), (2, .int (nI e1)), (3, .long (gs_pw (pe - pd))), (5, .long (gs_pw (pd - pe)))]) (st' := [.int (nI d), .ref 32, .int (nI e1), .ref 32]) (w' := w) rfl ?_
    refine gd_ialdv E (K.1 79 (.iaload, 0) rfl).1 (j := d) (by decide) (rfl) (rfl) (hd) (by decide) (v := nI pd) (h1) ?_
    refine gd_r E K 3 (pc' := 85) (lv' := [(0, .ref 27), (1, .int (nI d)), (2, .int (nI e1)), (3, .long (gs_pw (pe - pd))), (5, .long (gs_pw (pd - pe)))]) (st' := [.int (nI e1), .ref 32, .int (nI pd), .int (nI e1), .ref 32]) (w' := w) rfl ?_
    refine gd_ialdv E (K.1 85 (.iaload, 0) rfl).1 (j := e1) (by decide) (rfl) (rfl) (he) (by decide) (v := nI pe) (h2) ?_
    by_cases hle : pd ≤ pe
    · refine gd_r E K 1 (pc' := if (nI pd) ≤ (nI pe) then 98 else 89) (lv' := [(0, .ref 27), (1, .int (nI d)), (2, .int (nI e1)), (3, .long (gs_pw (pe - pd))), (5, .long (gs_pw (pd - pe)))]) (st' := [.int (nI e1), .ref 32]) (w' := w) rfl ?_
      refine gd_it (nI_le hle (by omega)) ?_
      refine gd_r E K 3 (pc' := 103) (lv' := [(0, .ref 27), (1, .int (nI d)), (2, .int (nI e1)), (3, .long (gs_pw (pe - pd))), (5, .long (gs_pw (pd - pe)))]) (st' := [.int (nI e1), .ref 32, .int (nI e1), .ref 32]) (w' := w) rfl ?_
      refine gd_ialdv E (K.1 103 (.iaload, 0) rfl).1 (j := e1) (by decide) (rfl) (rfl) (he) (by decide) (v := nI pe) (h2) ?_
      refine gd_r E K 2 (pc' := 106) (lv' := [(0, .ref 27), (1, .int (nI d)), (2, .int (nI e1)), (3, .long (gs_pw (pe - pd))), (5, .long (gs_pw (pd - pe)))]) (st' := [.int ((nI pe) + 1), .int (nI e1), .ref 32]) (w' := w) rfl ?_
      refine gd_cg (lv' := [(0, .ref 27), (1, .int (nI d)), (2, .int (nI e1)), (3, .long (gs_pw (pe - pd))), (5, .long (gs_pw (pd - pe)))]) (st' := [.int (nI (max pd pe + 1)), .int (nI e1), .ref 32]) (w' := w) ?_ (rfl) (by rw [nI_1]; congr 3; omega) (rfl)
      refine gd_iast E (K.1 106 (.iastore, 0) rfl).1 (j := e1) (by decide) (rfl) (rfl) (he) (by decide) ?_
      refine gd_r E K 4 (pc' := 113) (lv' := [(0, .ref 27), (1, .int (nI d)), (2, .int (nI e1)), (3, .long (gs_pw (pe - pd))), (5, .long (gs_pw (pd - pe))), (7, .int 1), (8, .int 0)]) (st' := []) (w' := gd_rI w 32 (upd (w.1 32) e1 (nI (max pd pe + 1)))) rfl ?_
      exact gd_cg (sums 4 0 _ (by omega) ⟨fun a ha => gd_rI_n ha, by rw [gd_rI_s], fun _ _ => rfl, rfl, fun k hk => by rw [gs_mix, if_neg (by omega)]; exact h4 k hk, fun _ _ => rfl⟩) rfl rfl rfl
    · refine gd_r E K 1 (pc' := if (nI pd) ≤ (nI pe) then 98 else 89) (lv' := [(0, .ref 27), (1, .int (nI d)), (2, .int (nI e1)), (3, .long (gs_pw (pe - pd))), (5, .long (gs_pw (pd - pe)))]) (st' := [.int (nI e1), .ref 32]) (w' := w) rfl ?_
      refine gd_if (nI_ge (by omega) (by omega)) ?_
      refine gd_r E K 3 (pc' := 94) (lv' := [(0, .ref 27), (1, .int (nI d)), (2, .int (nI e1)), (3, .long (gs_pw (pe - pd))), (5, .long (gs_pw (pd - pe)))]) (st' := [.int (nI d), .ref 32, .int (nI e1), .ref 32]) (w' := w) rfl ?_
      refine gd_ialdv E (K.1 94 (.iaload, 0) rfl).1 (j := d) (by decide) (rfl) (rfl) (hd) (by decide) (v := nI pd) (h1) ?_
      refine gd_r E K 3 (pc' := 106) (lv' := [(0, .ref 27), (1, .int (nI d)), (2, .int (nI e1)), (3, .long (gs_pw (pe - pd))), (5, .long (gs_pw (pd - pe)))]) (st' := [.int ((nI pd) + 1), .int (nI e1), .ref 32]) (w' := w) rfl ?_
      refine gd_cg (lv' := [(0, .ref 27), (1, .int (nI d)), (2, .int (nI e1)), (3, .long (gs_pw (pe - pd))), (5, .long (gs_pw (pd - pe)))]) (st' := [.int (nI (max pd pe + 1)), .int (nI e1), .ref 32]) (w' := w) ?_ (rfl) (by rw [nI_1]; congr 3; omega) (rfl)
      refine gd_iast E (K.1 106 (.iastore, 0) rfl).1 (j := e1) (by decide) (rfl) (rfl) (he) (by decide) ?_
      refine gd_r E K 4 (pc' := 113) (lv' := [(0, .ref 27), (1, .int (nI d)), (2, .int (nI e1)), (3, .long (gs_pw (pe - pd))), (5, .long (gs_pw (pd - pe))), (7, .int 1), (8, .int 0)]) (st' := []) (w' := gd_rI w 32 (upd (w.1 32) e1 (nI (max pd pe + 1)))) rfl ?_
      exact gd_cg (sums 4 0 _ (by omega) ⟨fun a ha => gd_rI_n ha, by rw [gd_rI_s], fun _ _ => rfl, rfl, fun k hk => by rw [gs_mix, if_neg (by omega)]; exact h4 k hk, fun _ _ => rfl⟩) rfl rfl rfl
  have two : ∀ j k, (k + j = pd ∨ (j = 0 ∧ pd ≤ k ∧ k = pe)) → pe ≤ k → k ≤ 60 → gd_G p l e (gd_rm 0 0) s m args below meth c D tC ad (gd_A ad 45 s.heap.size) 45 9 0 0 (MQ below (gd_Qp D tC ad 45 s.heap.size (fun r w' => r = none ∧ ∃ w1, gs_ui w w1 e1 (gs_nrm (max pd pe + 1) (f0)).1 (gs_nrm (max pd pe + 1) (f0)).2 ∧ w' = gd_rI (gd_rI (gd_rI w1 29 (upd (w1.1 29) e1 (nI 2))) 29 (upd ((gd_rI w1 29 (upd (w1.1 29) e1 (nI 2))).1 29) d (nI 0))) 36 (upd ((gd_rI (gd_rI w1 29 (upd (w1.1 29) e1 (nI 2))) 29 (upd ((gd_rI w1 29 (upd (w1.1 29) e1 (nI 2))).1 29) d (nI 0))).1 36) d (nI 0)))) args s 0 0 (gd_A ad 45 s.heap.size)) 44 [(0, .ref 27), (1, .int (nI d)), (2, .int (nI e1)), (3, .long (gs_pw (pe - pd))), (5, .long (gs_pw (k - pe))), (7, .int (nI k))] [] w := by
    intro j
    induction j with
    | zero =>
        intro k hk hk2 hk3
        refine gd_r E K 4 (pc' := 51) (lv' := [(0, .ref 27), (1, .int (nI d)), (2, .int (nI e1)), (3, .long (gs_pw (pe - pd))), (5, .long (gs_pw (k - pe))), (7, .int (nI k))]) (st' := [.int (nI d), .ref 32, .int (nI k)]) (w' := w) rfl ?_
        refine gd_ialdv E (K.1 51 (.iaload, 0) rfl).1 (j := d) (by decide) (rfl) (rfl) (hd) (by decide) (v := nI pd) (h1) ?_
        refine gd_r E K 1 (pc' := if (nI pd) ≤ (nI k) then 69 else 55) (lv' := [(0, .ref 27), (1, .int (nI d)), (2, .int (nI e1)), (3, .long (gs_pw (pe - pd))), (5, .long (gs_pw (k - pe))), (7, .int (nI k))]) (st' := []) (w' := w) rfl ?_
        refine gd_it (nI_le (by omega) (by omega)) ?_
        refine gd_lvp [0, 1, 2, 3, 4] (lv' := [(0, .ref 27), (1, .int (nI d)), (2, .int (nI e1)), (3, .long (gs_pw (pe - pd))), (5, .long (gs_pw (k - pe)))]) rfl ?_
        exact gd_cg mid (by rw [show k - pe = pd - pe by omega]) rfl rfl
    | succ j ih =>
        intro k hk hk2 hk3
        refine gd_r E K 4 (pc' := 51) (lv' := [(0, .ref 27), (1, .int (nI d)), (2, .int (nI e1)), (3, .long (gs_pw (pe - pd))), (5, .long (gs_pw (k - pe))), (7, .int (nI k))]) (st' := [.int (nI d), .ref 32, .int (nI k)]) (w' := w) rfl ?_
        refine gd_ialdv E (K.1 51 (.iaload, 0) rfl).1 (j := d) (by decide) (rfl) (rfl) (hd) (by decide) (v := nI pd) (h1) ?_
        refine gd_r E K 1 (pc' := if (nI pd) ≤ (nI k) then 69 else 55) (lv' := [(0, .ref 27), (1, .int (nI d)), (2, .int (nI e1)), (3, .long (gs_pw (pe - pd))), (5, .long (gs_pw (k - pe))), (7, .int (nI k))]) (st' := []) (w' := w) rfl ?_
        refine gd_if (nI_ge (by omega) (by omega)) ?_
        refine gd_r E K 6 (pc' := 44) (lv' := [(0, .ref 27), (1, .int (nI d)), (2, .int (nI e1)), (3, .long (gs_pw (pe - pd))), (5, .long ((gs_pw (k - pe)) * 2)), (7, .int ((nI k) + 1))]) (st' := []) (w' := w) rfl ?_
        exact gd_cg (ih (k + 1) (by omega) (by omega) (by omega)) (by rw [show k + 1 - pe = (k - pe) + 1 by omega, nI_1]; rfl) rfl rfl
  have one : ∀ j k, (k + j = pe ∨ (j = 0 ∧ pe ≤ k ∧ k = pd)) → pd ≤ k → k ≤ 60 → gd_G p l e (gd_rm 0 0) s m args below meth c D tC ad (gd_A ad 45 s.heap.size) 45 9 0 0 (MQ below (gd_Qp D tC ad 45 s.heap.size (fun r w' => r = none ∧ ∃ w1, gs_ui w w1 e1 (gs_nrm (max pd pe + 1) (f0)).1 (gs_nrm (max pd pe + 1) (f0)).2 ∧ w' = gd_rI (gd_rI (gd_rI w1 29 (upd (w1.1 29) e1 (nI 2))) 29 (upd ((gd_rI w1 29 (upd (w1.1 29) e1 (nI 2))).1 29) d (nI 0))) 36 (upd ((gd_rI (gd_rI w1 29 (upd (w1.1 29) e1 (nI 2))) 29 (upd ((gd_rI w1 29 (upd (w1.1 29) e1 (nI 2))).1 29) d (nI 0))).1 36) d (nI 0)))) args s 0 0 (gd_A ad 45 s.heap.size)) 13 [(0, .ref 27), (1, .int (nI d)), (2, .int (nI e1)), (3, .long (gs_pw (k - pd))), (5, .long 1), (7, .int (nI k))] [] w := by
    intro j
    induction j with
    | zero =>
        intro k hk hk2 hk3
        refine gd_r E K 4 (pc' := 20) (lv' := [(0, .ref 27), (1, .int (nI d)), (2, .int (nI e1)), (3, .long (gs_pw (k - pd))), (5, .long 1), (7, .int (nI k))]) (st' := [.int (nI e1), .ref 32, .int (nI k)]) (w' := w) rfl ?_
        refine gd_ialdv E (K.1 20 (.iaload, 0) rfl).1 (j := e1) (by decide) (rfl) (rfl) (he) (by decide) (v := nI pe) (h2) ?_
        refine gd_r E K 1 (pc' := if (nI pe) ≤ (nI k) then 36 else 24) (lv' := [(0, .ref 27), (1, .int (nI d)), (2, .int (nI e1)), (3, .long (gs_pw (k - pd))), (5, .long 1), (7, .int (nI k))]) (st' := []) (w' := w) rfl ?_
        refine gd_it (nI_le (by omega) (by omega)) ?_
        refine gd_r E K 3 (pc' := 41) (lv' := [(0, .ref 27), (1, .int (nI d)), (2, .int (nI e1)), (3, .long (gs_pw (k - pd))), (5, .long 1), (7, .int (nI k))]) (st' := [.int (nI e1), .ref 32]) (w' := w) rfl ?_
        refine gd_ialdv E (K.1 41 (.iaload, 0) rfl).1 (j := e1) (by decide) (rfl) (rfl) (he) (by decide) (v := nI pe) (h2) ?_
        refine gd_r E K 1 (pc' := 44) (lv' := [(0, .ref 27), (1, .int (nI d)), (2, .int (nI e1)), (3, .long (gs_pw (k - pd))), (5, .long 1), (7, .int (nI pe))]) (st' := []) (w' := w) rfl ?_
        exact gd_cg (two (pd - pe) pe (by omega) (by omega) hpe) (by rw [show k - pd = pe - pd by omega, Nat.sub_self]; rfl) rfl rfl
    | succ j ih =>
        intro k hk hk2 hk3
        refine gd_r E K 4 (pc' := 20) (lv' := [(0, .ref 27), (1, .int (nI d)), (2, .int (nI e1)), (3, .long (gs_pw (k - pd))), (5, .long 1), (7, .int (nI k))]) (st' := [.int (nI e1), .ref 32, .int (nI k)]) (w' := w) rfl ?_
        refine gd_ialdv E (K.1 20 (.iaload, 0) rfl).1 (j := e1) (by decide) (rfl) (rfl) (he) (by decide) (v := nI pe) (h2) ?_
        refine gd_r E K 1 (pc' := if (nI pe) ≤ (nI k) then 36 else 24) (lv' := [(0, .ref 27), (1, .int (nI d)), (2, .int (nI e1)), (3, .long (gs_pw (k - pd))), (5, .long 1), (7, .int (nI k))]) (st' := []) (w' := w) rfl ?_
        refine gd_if (nI_ge (by omega) (by omega)) ?_
        refine gd_r E K 6 (pc' := 13) (lv' := [(0, .ref 27), (1, .int (nI d)), (2, .int (nI e1)), (3, .long ((gs_pw (k - pd)) * 2)), (5, .long 1), (7, .int ((nI k) + 1))]) (st' := []) (w' := w) rfl ?_
        exact gd_cg (ih (k + 1) (by omega) (by omega) (by omega)) (by rw [show k + 1 - pd = (k - pd) + 1 by omega, nI_1]; rfl) rfl rfl
  refine gd_r E K 7 (pc' := 10) (lv' := [(0, .ref 27), (1, .int (nI d)), (2, .int (nI e1)), (3, .long 1), (5, .long 1)]) (st' := [.int (nI d), .ref 32]) (w' := w) rfl ?_
  refine gd_ialdv E (K.1 10 (.iaload, 0) rfl).1 (j := d) (by decide) (rfl) (rfl) (hd) (by decide) (v := nI pd) (h1) ?_
  refine gd_r E K 1 (pc' := 13) (lv' := [(0, .ref 27), (1, .int (nI d)), (2, .int (nI e1)), (3, .long 1), (5, .long 1), (7, .int (nI pd))]) (st' := []) (w' := w) rfl ?_
  exact gd_cg (one (pe - pd) pd (by omega) (by omega) hpd) (by rw [Nat.sub_self]; rfl) rfl rfl
end
section
abbrev gs_rt : Type := Nat × Int32 × Nat × Nat
def gs_rr (w : gd_W) (rd : List gs_rt) : Prop := (w.1 27 14 = nI rd.length ∧ rd.length ≤ 50) ∧ ∀ j r, rd[j]? = some r → w.1 37 j = nI r.1 ∧ w.1 38 j = r.2.1 ∧ w.1 39 j = nI r.2.2.1 ∧ w.1 40 j = nI r.2.2.2
def gs_push (rd : List gs_rt) (x : gs_rt) : List gs_rt := (if rd.length = 50 then rd.tail else rd) ++ [x]
def gf_rd (w w' : gd_W) : Prop := (∀ a, a ≠ 27 → (a < 37 ∨ 40 < a) → w'.1 a = w.1 a) ∧ (∀ j, j ≠ 14 → w'.1 27 j = w.1 27 j) ∧ w'.2 = w.2
theorem gf_rd.refl (w : gd_W) : gf_rd w w := ⟨fun _ _ _ => rfl, fun _ _ => rfl, rfl⟩
theorem gf_rd.trans {a b c : gd_W} (h : gf_rd a b) (k : gf_rd b c) : gf_rd a c := ⟨fun x h1 h2 => (k.1 x h1 h2).trans (h.1 x h1 h2), fun j hj => (k.2.1 j hj).trans (h.2.1 j hj), k.2.2.trans h.2.2⟩
theorem gf_rd.t (w : gd_W) {k : Nat} (hk : 37 ≤ k ∧ k ≤ 40) (f : Nat → Int32) : gf_rd w (gd_rI w k f) := ⟨fun a _ h => gd_rI_n (by omega), fun j _ => by rw [gd_rI_n (by omega)], rfl⟩
theorem gf_rd.t14 (w : gd_W) (x : Int32) : gf_rd w (gd_rI w 27 (upd (w.1 27) 14 x)) := ⟨fun a h _ => gd_rI_n h, fun j hj => by rw [gd_rI_s, gd_u_n hj], rfl⟩
/-- the rows below k have moved down by one -/
def gs_dn (w w1 : gd_W) (k : Nat) : Prop := gf_rd w w1 ∧ w1.1 27 14 = w.1 27 14 ∧ ∀ a, 37 ≤ a → a ≤ 40 → ∀ j, w1.1 a j = w.1 a (if j < k then j + 1 else j)
theorem gs_dn_up {f g : Nat → Int32} {k : Nat} (h : ∀ j, f j = g (if j < k then j + 1 else j)) (j : Nat) : upd f k (g (k + 1)) j = g (if j < k + 1 then j + 1 else j) := by
  by_cases e : j = k
  · subst e; rw [gd_u_s, if_pos (by omega)]
  · rw [gd_u_n e, h j]
    by_cases e1 : j < k
    · rw [if_pos e1, if_pos (by omega)]
    · rw [if_neg e1, if_neg (by omega)]
theorem gs_dn_step {w w1 : gd_W} {k : Nat} (h : gs_dn w w1 k) {v0 v1 v2 v3 : Int32} (e0 : v0 = w.1 37 (k + 1)) (e1 : v1 = w.1 38 (k + 1)) (e2 : v2 = w.1 39 (k + 1)) (e3 : v3 = w.1 40 (k + 1)) :
    gs_dn w (gd_rI (gd_rI (gd_rI (gd_rI w1 37 (upd (w1.1 37) k v0)) 38 (upd (w1.1 38) k v1)) 39 (upd (w1.1 39) k v2)) 40 (upd (w1.1 40) k v3)) (k + 1) := by
  subst e0; subst e1; subst e2; subst e3
  refine ⟨h.1.trans ((gf_rd.t _ (by decide) _).trans ((gf_rd.t _ (by decide) _).trans ((gf_rd.t _ (by decide) _).trans (gf_rd.t _ (by decide) _)))), h.2.1, fun a h1 h2 j => ?_⟩
  rcases (by omega : a = 37 ∨ a = 38 ∨ a = 39 ∨ a = 40) with rfl | rfl | rfl | rfl
  · exact gs_dn_up (h.2.2 37 (by omega) (by omega)) j
  · exact gs_dn_up (h.2.2 38 (by omega) (by omega)) j
  · exact gs_dn_up (h.2.2 39 (by omega) (by omega)) j
  · exact gs_dn_up (h.2.2 40 (by omega) (by omega)) j
theorem gs_rr_dn {w w1 : gd_W} {rd : List gs_rt} (h : gs_rr w rd) (hl : rd.length = 50) (k : gs_dn w w1 49) : gs_rr (gd_rI w1 27 (upd (w1.1 27) 14 49)) rd.tail := by
  obtain ⟨⟨h1, h2⟩, h3⟩ := h
  refine ⟨⟨by rw [gd_rI_s, gd_u_s, List.length_tail, hl]; rfl, by rw [List.length_tail]; omega⟩, fun j r hr => ?_⟩
  rw [List.getElem?_tail] at hr
  have hj : j + 1 < rd.length := (List.getElem?_eq_some_iff.mp hr).1
  obtain ⟨g1, g2, g3, g4⟩ := h3 (j + 1) r hr
  have e : ∀ a, 37 ≤ a → a ≤ 40 → (gd_rI w1 27 (upd (w1.1 27) 14 49)).1 a j = w.1 a (j + 1) := fun a a1 a2 => by rw [gd_rI_n (by omega), k.2.2 a a1 a2 j, if_pos (by omega)]
  rw [e 37 (by omega) (by omega), e 38 (by omega) (by omega), e 39 (by omega) (by omega), e 40 (by omega) (by omega)]
  exact ⟨g1, g2, g3, g4⟩
theorem gs_rr_push {v : gd_W} {rd : List gs_rt} (h : gs_rr v rd) (hl : rd.length < 50) (x : gs_rt) : gs_rr (gd_rI (gd_rI (gd_rI (gd_rI (gd_rI v 37 (upd (v.1 37) rd.length (nI x.1))) 38 (upd (v.1 38) rd.length x.2.1)) 39 (upd (v.1 39) rd.length (nI x.2.2.1))) 40 (upd (v.1 40) rd.length (nI x.2.2.2))) 27 (upd (v.1 27) 14 (nI rd.length + 1))) (rd ++ [x]) := by
  obtain ⟨⟨h1, h2⟩, h3⟩ := h
  refine ⟨⟨by rw [gd_rI_s, gd_u_s, nI_1, List.length_append]; rfl, by rw [List.length_append]; simp only [List.length_singleton]; omega⟩, fun j r hr => ?_⟩
  show upd (v.1 37) rd.length (nI x.1) j = nI r.1 ∧ upd (v.1 38) rd.length x.2.1 j = r.2.1 ∧ upd (v.1 39) rd.length (nI x.2.2.1) j = nI r.2.2.1 ∧ upd (v.1 40) rd.length (nI x.2.2.2) j = nI r.2.2.2
  by_cases hj : j < rd.length
  · rw [List.getElem?_append_left hj] at hr
    rw [gd_u_n (by omega), gd_u_n (by omega), gd_u_n (by omega), gd_u_n (by omega)]
    exact h3 j r hr
  · rw [List.getElem?_append_right (by omega)] at hr
    have hz : j - rd.length < 1 := (List.getElem?_eq_some_iff.mp hr).1
    have hj2 : j = rd.length := by omega
    subst hj2
    rw [Nat.sub_self] at hr
    cases hr
    rw [gd_u_s, gd_u_s, gd_u_s, gd_u_s]
    exact ⟨rfl, rfl, rfl, rfl⟩
set_option maxRecDepth 100000 in
theorem c2_Mread {l : Launch} {D : va_G} {tC : FieldType → ClassId} {ad : Nat → Nat} (hinj : ∀ i j, ad i = ad j → i = j) (w : gd_W) (rd : List gs_rt) (hrr : gs_rr w rd) (d c0 u : Nat) (t0 : Int32) (hd : d < 60) (hc : w.1 30 d = nI c0) (hu : w.1 29 d = nI u) (ht : w.1 27 1 = t0) : gd_Cp l D tC ad 45 0 0 y_M_read c_M_read 3 none [.ref 27, .int (nI d)] w (fun r w' => r = none ∧ gf_rd w w' ∧ gs_rr w' (gs_push rd (d, t0, c0, u))) := by
  refine gd_Cp_of rfl hinj (Nat.le_of_ble_eq_true rfl) ?_
  intro p e s m args below meth c E hr hlk
  have K := k_M_read
  have hA : ∀ q, gd_A ad 45 s.heap.size q → gd_A ad 45 s.heap.size q := fun _ h => h
  have tail : ∀ rd0 v, rd0.length < 50 → gs_rr v rd0 → gf_rd w v → gs_push rd (d, t0, c0, u) = rd0 ++ [(d, t0, c0, u)] → gd_G p l e (gd_rm 0 0) s m args below meth c D tC ad (gd_A ad 45 s.heap.size) 45 3 0 0 (MQ below (gd_Qp D tC ad 45 s.heap.size (fun r w' => r = none ∧ gf_rd w w' ∧ gs_rr w' (gs_push rd (d, t0, c0, u)))) args s 0 0 (gd_A ad 45 s.heap.size)) 85 [(0, .ref 27), (1, .int (nI d))] [] v := by
    intro rd0 v hl hr0 hf heq
    have hl14 := hr0.1.1
    have ht1 : v.1 27 1 = t0 := by rw [hf.2.1 1 (by decide)]; exact ht
    have hc1 : v.1 30 d = nI c0 := by rw [hf.1 30 (by decide) (by decide)]; exact hc
    have hu1 : v.1 29 d = nI u := by rw [hf.1 29 (by decide) (by decide)]; exact hu
    refine gd_r E K 5 (pc' := 94) (lv' := [(0, .ref 27), (1, .int (nI d))]) (st' := [.int (nI d), .int (v.1 27 14), .ref 37]) (w' := v) rfl ?_
    refine gd_cg (lv' := [(0, .ref 27), (1, .int (nI d))]) (st' := [.int (nI d), .int (nI rd0.length), .ref 37]) (w' := v) ?_ (rfl) (by simp only [hl14]) rfl
    refine gd_iast E (K.1 94 (.iastore, 0) rfl).1 (j := rd0.length) (by decide) (rfl) (rfl) (hl) (by decide) ?_
    refine gd_r E K 6 (pc' := 107) (lv' := [(0, .ref 27), (1, .int (nI d))]) (st' := [.int (v.1 27 1), .int (v.1 27 14), .ref 38]) (w' := gd_rI v 37 (upd (v.1 37) rd0.length (nI d))) rfl ?_
    refine gd_cg (lv' := [(0, .ref 27), (1, .int (nI d))]) (st' := [.int t0, .int (nI rd0.length), .ref 38]) (w' := gd_rI v 37 (upd (v.1 37) rd0.length (nI d))) ?_ (rfl) (by simp only [ht1, hl14]) rfl
    refine gd_iast E (K.1 107 (.iastore, 0) rfl).1 (j := rd0.length) (by decide) (rfl) (rfl) (hl) (by decide) ?_
    refine gd_r E K 7 (pc' := 121) (lv' := [(0, .ref 27), (1, .int (nI d))]) (st' := [.int (nI d), .ref 30, .int (v.1 27 14), .ref 39]) (w' := gd_rI (gd_rI v 37 (upd (v.1 37) rd0.length (nI d))) 38 (upd ((gd_rI v 37 (upd (v.1 37) rd0.length (nI d))).1 38) rd0.length t0)) rfl ?_
    refine gd_cg (lv' := [(0, .ref 27), (1, .int (nI d))]) (st' := [.int (nI d), .ref 30, .int (nI rd0.length), .ref 39]) (w' := gd_rI (gd_rI v 37 (upd (v.1 37) rd0.length (nI d))) 38 (upd ((gd_rI v 37 (upd (v.1 37) rd0.length (nI d))).1 38) rd0.length t0)) ?_ (rfl) (by simp only [hl14]) rfl
    refine gd_ialdv E (K.1 121 (.iaload, 0) rfl).1 (j := d) (by decide) (rfl) (rfl) (hd) (by decide) (v := nI c0) (hc1) ?_
    refine gd_iast E (K.1 122 (.iastore, 0) rfl).1 (j := rd0.length) (by decide) (rfl) (rfl) (hl) (by decide) ?_
    refine gd_r E K 7 (pc' := 136) (lv' := [(0, .ref 27), (1, .int (nI d))]) (st' := [.int (nI d), .ref 29, .int (v.1 27 14), .ref 40]) (w' := gd_rI (gd_rI (gd_rI v 37 (upd (v.1 37) rd0.length (nI d))) 38 (upd ((gd_rI v 37 (upd (v.1 37) rd0.length (nI d))).1 38) rd0.length t0)) 39 (upd ((gd_rI (gd_rI v 37 (upd (v.1 37) rd0.length (nI d))) 38 (upd ((gd_rI v 37 (upd (v.1 37) rd0.length (nI d))).1 38) rd0.length t0)).1 39) rd0.length (nI c0))) rfl ?_
    refine gd_cg (lv' := [(0, .ref 27), (1, .int (nI d))]) (st' := [.int (nI d), .ref 29, .int (nI rd0.length), .ref 40]) (w' := gd_rI (gd_rI (gd_rI v 37 (upd (v.1 37) rd0.length (nI d))) 38 (upd ((gd_rI v 37 (upd (v.1 37) rd0.length (nI d))).1 38) rd0.length t0)) 39 (upd ((gd_rI (gd_rI v 37 (upd (v.1 37) rd0.length (nI d))) 38 (upd ((gd_rI v 37 (upd (v.1 37) rd0.length (nI d))).1 38) rd0.length t0)).1 39) rd0.length (nI c0))) ?_ (rfl) (by simp only [hl14]) rfl
    refine gd_ialdv E (K.1 136 (.iaload, 0) rfl).1 (j := d) (by decide) (rfl) (rfl) (hd) (by decide) (v := nI u) (hu1) ?_
    refine gd_iast E (K.1 137 (.iastore, 0) rfl).1 (j := rd0.length) (by decide) (rfl) (rfl) (hl) (by decide) ?_
    refine gd_r E K 4 (pc' := 144) (lv' := [(0, .ref 27), (1, .int (nI d))]) (st' := [.int 1, .int (v.1 27 14), .ref 27]) (w' := gd_rI (gd_rI (gd_rI (gd_rI v 37 (upd (v.1 37) rd0.length (nI d))) 38 (upd ((gd_rI v 37 (upd (v.1 37) rd0.length (nI d))).1 38) rd0.length t0)) 39 (upd ((gd_rI (gd_rI v 37 (upd (v.1 37) rd0.length (nI d))) 38 (upd ((gd_rI v 37 (upd (v.1 37) rd0.length (nI d))).1 38) rd0.length t0)).1 39) rd0.length (nI c0))) 40 (upd ((gd_rI (gd_rI (gd_rI v 37 (upd (v.1 37) rd0.length (nI d))) 38 (upd ((gd_rI v 37 (upd (v.1 37) rd0.length (nI d))).1 38) rd0.length t0)) 39 (upd ((gd_rI (gd_rI v 37 (upd (v.1 37) rd0.length (nI d))) 38 (upd ((gd_rI v 37 (upd (v.1 37) rd0.length (nI d))).1 38) rd0.length t0)).1 39) rd0.length (nI c0))).1 40) rd0.length (nI u))) rfl ?_
    refine gd_cg (lv' := [(0, .ref 27), (1, .int (nI d))]) (st' := [.int 1, .int (nI rd0.length), .ref 27]) (w' := gd_rI (gd_rI (gd_rI (gd_rI v 37 (upd (v.1 37) rd0.length (nI d))) 38 (upd ((gd_rI v 37 (upd (v.1 37) rd0.length (nI d))).1 38) rd0.length t0)) 39 (upd ((gd_rI (gd_rI v 37 (upd (v.1 37) rd0.length (nI d))) 38 (upd ((gd_rI v 37 (upd (v.1 37) rd0.length (nI d))).1 38) rd0.length t0)).1 39) rd0.length (nI c0))) 40 (upd ((gd_rI (gd_rI (gd_rI v 37 (upd (v.1 37) rd0.length (nI d))) 38 (upd ((gd_rI v 37 (upd (v.1 37) rd0.length (nI d))).1 38) rd0.length t0)) 39 (upd ((gd_rI (gd_rI v 37 (upd (v.1 37) rd0.length (nI d))) 38 (upd ((gd_rI v 37 (upd (v.1 37) rd0.length (nI d))).1 38) rd0.length t0)).1 39) rd0.length (nI c0))).1 40) rd0.length (nI u))) ?_ (rfl) (by simp only [hl14]) rfl
    refine gd_r E K 2 (pc' := 148) (lv' := [(0, .ref 27), (1, .int (nI d))]) (st' := []) (w' := gd_rI (gd_rI (gd_rI (gd_rI (gd_rI v 37 (upd (v.1 37) rd0.length (nI d))) 38 (upd ((gd_rI v 37 (upd (v.1 37) rd0.length (nI d))).1 38) rd0.length t0)) 39 (upd ((gd_rI (gd_rI v 37 (upd (v.1 37) rd0.length (nI d))) 38 (upd ((gd_rI v 37 (upd (v.1 37) rd0.length (nI d))).1 38) rd0.length t0)).1 39) rd0.length (nI c0))) 40 (upd ((gd_rI (gd_rI (gd_rI v 37 (upd (v.1 37) rd0.length (nI d))) 38 (upd ((gd_rI v 37 (upd (v.1 37) rd0.length (nI d))).1 38) rd0.length t0)) 39 (upd ((gd_rI (gd_rI v 37 (upd (v.1 37) rd0.length (nI d))) 38 (upd ((gd_rI v 37 (upd (v.1 37) rd0.length (nI d))).1 38) rd0.length t0)).1 39) rd0.length (nI c0))).1 40) rd0.length (nI u))) 27 (upd ((gd_rI (gd_rI (gd_rI (gd_rI v 37 (upd (v.1 37) rd0.length (nI d))) 38 (upd ((gd_rI v 37 (upd (v.1 37) rd0.length (nI d))).1 38) rd0.length t0)) 39 (upd ((gd_rI (gd_rI v 37 (upd (v.1 37) rd0.length (nI d))) 38 (upd ((gd_rI v 37 (upd (v.1 37) rd0.length (nI d))).1 38) rd0.length t0)).1 39) rd0.length (nI c0))) 40 (upd ((gd_rI (gd_rI (gd_rI v 37 (upd (v.1 37) rd0.length (nI d))) 38 (upd ((gd_rI v 37 (upd (v.1 37) rd0.length (nI d))).1 38) rd0.length t0)) 39 (upd ((gd_rI (gd_rI v 37 (upd (v.1 37) rd0.length (nI d))) 38 (upd ((gd_rI v 37 (upd (v.1 37) rd0.length (nI d))).1 38) rd0.length t0)).1 39) rd0.length (nI c0))).1 40) rd0.length (nI u))).1 27) 14 ((nI rd0.length) + 1))) rfl ?_
    exact gd_vretp E hr hlk (K.1 148 (.return_, 0) rfl).1 (⟨rfl, hf.trans ((gf_rd.t _ (by decide) _).trans ((gf_rd.t _ (by decide) _).trans ((gf_rd.t _ (by decide) _).trans ((gf_rd.t _ (by decide) _).trans (gf_rd.t14 _ _))))), by rw [heq]; exact gs_rr_push hr0 hl (d, t0, c0, u)⟩)
  have shift : rd.length = 50 → ∀ j k w1, k + j = 49 → gs_dn w w1 k → gd_G p l e (gd_rm 0 0) s m args below meth c D tC ad (gd_A ad 45 s.heap.size) 45 3 0 0 (MQ below (gd_Qp D tC ad 45 s.heap.size (fun r w' => r = none ∧ gf_rd w w' ∧ gs_rr w' (gs_push rd (d, t0, c0, u)))) args s 0 0 (gd_A ad 45 s.heap.size)) 11 [(0, .ref 27), (1, .int (nI d)), (2, .int (nI k))] [] w1 := by
    intro h50 j
    induction j with
    | zero =>
        intro k w1 hk hdn
        refine gd_r E K 2 (pc' := 14) (lv' := [(0, .ref 27), (1, .int (nI d)), (2, .int (nI k))]) (st' := [.int 49, .int (nI k)]) (w' := w1) rfl ?_
        refine gd_r E K 1 (pc' := if 49 ≤ (nI k) then 79 else 17) (lv' := [(0, .ref 27), (1, .int (nI d)), (2, .int (nI k))]) (st' := []) (w' := w1) rfl ?_
        refine gd_it (nI_le (show 49 ≤ k by omega) (by omega)) ?_
        refine gd_r E K 3 (pc' := 85) (lv' := [(0, .ref 27), (1, .int (nI d)), (2, .int (nI k))]) (st' := []) (w' := gd_rI w1 27 (upd (w1.1 27) 14 49)) rfl ?_
        refine gd_lvp [0, 1] (lv' := [(0, .ref 27), (1, .int (nI d))]) rfl ?_
        have hk49 : k = 49 := by omega
        rw [hk49] at hdn
        exact gd_cg (tail rd.tail _ (by rw [List.length_tail]; omega) (gs_rr_dn hrr h50 hdn) (hdn.1.trans (gf_rd.t14 _ _)) (by rw [gs_push, if_pos h50])) rfl rfl rfl
    | succ j ih =>
        intro k w1 hk hdn
        refine gd_r E K 2 (pc' := 14) (lv' := [(0, .ref 27), (1, .int (nI d)), (2, .int (nI k))]) (st' := [.int 49, .int (nI k)]) (w' := w1) rfl ?_
        refine gd_r E K 1 (pc' := if 49 ≤ (nI k) then 79 else 17) (lv' := [(0, .ref 27), (1, .int (nI d)), (2, .int (nI k))]) (st' := []) (w' := w1) rfl ?_
        refine gd_if (nI_ge (show k < 49 by omega) (by decide)) ?_
        refine gd_r E K 8 (pc' := 29) (lv' := [(0, .ref 27), (1, .int (nI d)), (2, .int (nI k))]) (st' := [.int ((nI k) + 1), .ref 37, .int (nI k), .ref 37]) (w' := w1) rfl ?_
        refine gd_ialdv E (K.1 29 (.iaload, 0) rfl).1 (j := k + 1) (by decide) (rfl) (by rw [nI_1]) (by omega) (by decide) (v := w.1 37 (k + 1)) (by rw [hdn.2.2 37 (by decide) (by decide), if_neg (by omega)]) ?_
        refine gd_iast E (K.1 30 (.iastore, 0) rfl).1 (j := k) (by decide) (rfl) (rfl) (by omega) (by decide) ?_
        refine gd_r E K 8 (pc' := 43) (lv' := [(0, .ref 27), (1, .int (nI d)), (2, .int (nI k))]) (st' := [.int ((nI k) + 1), .ref 38, .int (nI k), .ref 38]) (w' := gd_rI w1 37 (upd (w1.1 37) k (w.1 37 (k + 1)))) rfl ?_
        refine gd_ialdv E (K.1 43 (.iaload, 0) rfl).1 (j := k + 1) (by decide) (rfl) (by rw [nI_1]) (by omega) (by decide) (v := w.1 38 (k + 1)) (by rw [gd_rI_n (by decide), hdn.2.2 38 (by decide) (by decide), if_neg (by omega)]) ?_
        refine gd_iast E (K.1 44 (.iastore, 0) rfl).1 (j := k) (by decide) (rfl) (rfl) (by omega) (by decide) ?_
        refine gd_r E K 8 (pc' := 57) (lv' := [(0, .ref 27), (1, .int (nI d)), (2, .int (nI k))]) (st' := [.int ((nI k) + 1), .ref 39, .int (nI k), .ref 39]) (w' := gd_rI (gd_rI w1 37 (upd (w1.1 37) k (w.1 37 (k + 1)))) 38 (upd ((gd_rI w1 37 (upd (w1.1 37) k (w.1 37 (k + 1)))).1 38) k (w.1 38 (k + 1)))) rfl ?_
        refine gd_ialdv E (K.1 57 (.iaload, 0) rfl).1 (j := k + 1) (by decide) (rfl) (by rw [nI_1]) (by omega) (by decide) (v := w.1 39 (k + 1)) (by rw [gd_rI_n (by decide), gd_rI_n (by decide), hdn.2.2 39 (by decide) (by decide), if_neg (by omega)]) ?_
        refine gd_iast E (K.1 58 (.iastore, 0) rfl).1 (j := k) (by decide) (rfl) (rfl) (by omega) (by decide) ?_
        refine gd_r E K 8 (pc' := 71) (lv' := [(0, .ref 27), (1, .int (nI d)), (2, .int (nI k))]) (st' := [.int ((nI k) + 1), .ref 40, .int (nI k), .ref 40]) (w' := gd_rI (gd_rI (gd_rI w1 37 (upd (w1.1 37) k (w.1 37 (k + 1)))) 38 (upd ((gd_rI w1 37 (upd (w1.1 37) k (w.1 37 (k + 1)))).1 38) k (w.1 38 (k + 1)))) 39 (upd ((gd_rI (gd_rI w1 37 (upd (w1.1 37) k (w.1 37 (k + 1)))) 38 (upd ((gd_rI w1 37 (upd (w1.1 37) k (w.1 37 (k + 1)))).1 38) k (w.1 38 (k + 1)))).1 39) k (w.1 39 (k + 1)))) rfl ?_
        refine gd_ialdv E (K.1 71 (.iaload, 0) rfl).1 (j := k + 1) (by decide) (rfl) (by rw [nI_1]) (by omega) (by decide) (v := w.1 40 (k + 1)) (by rw [gd_rI_n (by decide), gd_rI_n (by decide), gd_rI_n (by decide), hdn.2.2 40 (by decide) (by decide), if_neg (by omega)]) ?_
        refine gd_iast E (K.1 72 (.iastore, 0) rfl).1 (j := k) (by decide) (rfl) (rfl) (by omega) (by decide) ?_
        refine gd_r E K 2 (pc' := 11) (lv' := [(0, .ref 27), (1, .int (nI d)), (2, .int ((nI k) + 1))]) (st' := []) (w' := gd_rI (gd_rI (gd_rI (gd_rI w1 37 (upd (w1.1 37) k (w.1 37 (k + 1)))) 38 (upd ((gd_rI w1 37 (upd (w1.1 37) k (w.1 37 (k + 1)))).1 38) k (w.1 38 (k + 1)))) 39 (upd ((gd_rI (gd_rI w1 37 (upd (w1.1 37) k (w.1 37 (k + 1)))) 38 (upd ((gd_rI w1 37 (upd (w1.1 37) k (w.1 37 (k + 1)))).1 38) k (w.1 38 (k + 1)))).1 39) k (w.1 39 (k + 1)))) 40 (upd ((gd_rI (gd_rI (gd_rI w1 37 (upd (w1.1 37) k (w.1 37 (k + 1)))) 38 (upd ((gd_rI w1 37 (upd (w1.1 37) k (w.1 37 (k + 1)))).1 38) k (w.1 38 (k + 1)))) 39 (upd ((gd_rI (gd_rI w1 37 (upd (w1.1 37) k (w.1 37 (k + 1)))) 38 (upd ((gd_rI w1 37 (upd (w1.1 37) k (w.1 37 (k + 1)))).1 38) k (w.1 38 (k + 1)))).1 39) k (w.1 39 (k + 1)))).1 40) k (w.1 40 (k + 1)))) rfl ?_
        exact gd_cg (ih (k + 1) _ (by omega) (gs_dn_step hdn rfl rfl rfl rfl)) (by rw [nI_1]) rfl rfl
  have h14 := hrr.1.1
  have h50 := hrr.1.2
  refine gd_r E K 3 (pc' := 6) (lv' := [(0, .ref 27), (1, .int (nI d))]) (st' := [.int 50, .int (w.1 27 14)]) (w' := w) rfl ?_
  refine gd_cg (lv' := [(0, .ref 27), (1, .int (nI d))]) (st' := [.int 50, .int (nI rd.length)]) (w' := w) ?_ (rfl) (by simp only [h14]) rfl
  by_cases hl : rd.length = 50
  · refine gd_r E K 1 (pc' := if (nI rd.length) = 50 then 9 else 85) (lv' := [(0, .ref 27), (1, .int (nI d))]) (st' := []) (w' := w) rfl ?_
    refine gd_it (by rw [hl]; rfl) ?_
    refine gd_r E K 2 (pc' := 11) (lv' := [(0, .ref 27), (1, .int (nI d)), (2, .int 0)]) (st' := []) (w' := w) rfl ?_
    exact gd_cg (shift hl 49 0 w (by omega) ⟨gf_rd.refl w, rfl, fun a _ _ j => by rw [if_neg (by omega)]⟩) rfl rfl rfl
  · refine gd_r E K 1 (pc' := if (nI rd.length) = 50 then 9 else 85) (lv' := [(0, .ref 27), (1, .int (nI d))]) (st' := []) (w' := w) rfl ?_
    refine gd_if (by rw [show (50 : Int32) = nI 50 from rfl, nI_eq (by omega) (by decide)]; exact hl) ?_
    exact gd_cg (tail rd w (by omega) hrr (gf_rd.refl w) (by rw [gs_push, if_neg hl])) rfl rfl rfl
set_option maxRecDepth 100000 in
theorem c2_left2 {l : Launch} {D : va_G} {tC : FieldType → ClassId} {ad : Nat → Nat} (hinj : ∀ i j, ad i = ad j → i = j) (w : gd_W) (d g0 l0 : Nat) (hd : d < 60) (h1 : w.1 34 d = nI (g0 + l0)) (h2 : w.1 35 d = nI g0) : gd_Ct l D tC ad 45 0 0 y_M_left c_M_left 2 (some .int) [.ref 27, .int (nI d)] w (some (.int (nI l0))) w := by
  refine gd_Ct_of rfl hinj (Nat.le_of_ble_eq_true rfl) ?_
  intro p e s m args below meth c E hr hlk
  have K := k_M_left
  have hA : ∀ q, gd_A ad 45 s.heap.size q → gd_A ad 45 s.heap.size q := fun _ h => h
  refine gd_r E K 3 (pc' := 5) (lv' := [(0, .ref 27), (1, .int (nI d))]) (st' := [.int (nI d), .ref 34]) (w' := w) rfl ?_
  refine gd_ialdv E (K.1 5 (.iaload, 0) rfl).1 (j := d) (by decide) (rfl) (rfl) (hd) (by decide) (v := nI (g0 + l0)) (h1) ?_
  refine gd_r E K 3 (pc' := 11) (lv' := [(0, .ref 27), (1, .int (nI d))]) (st' := [.int (nI d), .ref 35, .int (nI (g0 + l0))]) (w' := w) rfl ?_
  refine gd_ialdv E (K.1 11 (.iaload, 0) rfl).1 (j := d) (by decide) (rfl) (rfl) (hd) (by decide) (v := nI g0) (h2) ?_
  refine gd_r E K 1 (pc' := 13) (lv' := [(0, .ref 27), (1, .int (nI d))]) (st' := [.int ((nI (g0 + l0)) - (nI g0))]) (w' := w) rfl ?_
  exact gd_iretq E hr hlk (K.1 13 (.ireturn, 0) rfl).1 (by rw [pk_sub (by omega)]; congr 1; omega) (rfl)
end
section
/-! One step of time, in the abstract state. -/
def gs_adv (S : gs_T) (n : Nat) : gs_T := (S.1, fun a b => if b < n ∧ 0 < gs_u S b ∧ 0 < gs_l S b then (if a = 1 then (gm_mv (gs_c S b) (gs_m S b 0)).getD 0 else if a = 3 then gs_l S b - 1 else if 5 ≤ a then S.2.1 (a + 1) b else S.2.1 a b) else S.2.1 a b, S.2.2)
def gs_advG (S : gs_T) (G : Nat → Nat) (n b : Nat) : Nat := if b < n ∧ 0 < gs_u S b ∧ 0 < gs_l S b then G b + 1 else G b
def gs_advX (S : gs_T) (n b : Nat) : Nat := if (b < n ∧ 0 < gs_u S b ∧ 0 < gs_l S b) ∧ (gm_mv (gs_c S b) (gs_m S b 0)).getD 0 ≠ gs_c S b then (gm_mv (gs_c S b) (gs_m S b 0)).getD 0 + 64 else gs_c S b
theorem gs_adv_c (S : gs_T) (n b : Nat) : gs_c (gs_adv S n) b = if b < n ∧ 0 < gs_u S b ∧ 0 < gs_l S b then (gm_mv (gs_c S b) (gs_m S b 0)).getD 0 else gs_c S b := rfl
theorem gs_adv_l (S : gs_T) (n b : Nat) : gs_l (gs_adv S n) b = if b < n ∧ 0 < gs_u S b ∧ 0 < gs_l S b then gs_l S b - 1 else gs_l S b := rfl
theorem gs_adv_f (S : gs_T) (n b : Nat) {a : Nat} (h : a = 0 ∨ a = 2 ∨ a = 4) : (gs_adv S n).2.1 a b = S.2.1 a b := by
  show (if b < n ∧ 0 < gs_u S b ∧ 0 < gs_l S b then (if a = 1 then (gm_mv (gs_c S b) (gs_m S b 0)).getD 0 else if a = 3 then gs_l S b - 1 else if 5 ≤ a then S.2.1 (a + 1) b else S.2.1 a b) else S.2.1 a b) = S.2.1 a b
  split
  · rw [if_neg (by omega), if_neg (by omega), if_neg (by omega)]
  · rfl
theorem gs_adv_m (S : gs_T) (n b k : Nat) : gs_m (gs_adv S n) b k = if b < n ∧ 0 < gs_u S b ∧ 0 < gs_l S b then gs_m S b (k + 1) else gs_m S b k := by
  show (if b < n ∧ 0 < gs_u S b ∧ 0 < gs_l S b then (if 5 + k = 1 then (gm_mv (gs_c S b) (gs_m S b 0)).getD 0 else if 5 + k = 3 then gs_l S b - 1 else if 5 ≤ 5 + k then S.2.1 (5 + k + 1) b else S.2.1 (5 + k) b) else S.2.1 (5 + k) b) = _
  split
  · rw [if_neg (by omega), if_neg (by omega), if_pos (by omega)]; rfl
  · rfl
/-- where a cell's number and its mark stand for it -/
theorem gs_advX_c (S : gs_T) (n b : Nat) : gs_advX S n b = gs_c (gs_adv S n) b ∨ gs_advX S n b = gs_c (gs_adv S n) b + 64 := by
  rw [gs_adv_c, gs_advX]
  by_cases h : b < n ∧ 0 < gs_u S b ∧ 0 < gs_l S b
  · by_cases e : (gm_mv (gs_c S b) (gs_m S b 0)).getD 0 = gs_c S b
    · rw [if_neg (fun z => z.2 e), if_pos h, e]; exact Or.inl rfl
    · rw [if_pos ⟨h, e⟩, if_pos h]; exact Or.inr rfl
  · rw [if_neg (fun z => h z.1), if_neg h]; exact Or.inl rfl
/-- the reference's arrays, but for the marks in the cells -/
def gr_X (w : gd_W) (S : gs_T) (G X : Nat → Nat) : Prop := gr_M (gd_rI w 30 (fun d => nI (gs_c S d))) S G ∧ ∀ d, d < 60 → w.1 30 d = nI (X d)
def gs_i1 (S : gs_T) (G : Nat → Nat) (w w1 : gd_W) (n : Nat) : Prop := (∀ a, a ≠ 30 → a ≠ 35 → w1.1 a = w.1 a) ∧ w1.2 = w.2 ∧ (∀ d, d < 60 → w1.1 30 d = nI (gs_advX S n d)) ∧ ∀ d, d < 60 → w1.1 35 d = nI (gs_advG S G n d)
theorem gs_i1_0 {w : gd_W} {S : gs_T} {G : Nat → Nat} (k : gr_M w S G) : gs_i1 S G w w 0 := by
  refine ⟨fun _ _ _ => rfl, rfl, fun d hd => ?_, fun d hd => ?_⟩
  · rw [gs_advX, if_neg (fun z => by omega)]; exact (k.2.2.1 d hd).1
  · rw [gs_advG, if_neg (fun z => by omega)]; exact (k.2.2.2.1 d hd).2.1
theorem gs_i1_skip {w w1 : gd_W} {S : gs_T} {G : Nat → Nat} {n : Nat} (h : gs_i1 S G w w1 n) (hn : ¬ (0 < gs_u S n ∧ 0 < gs_l S n)) : gs_i1 S G w w1 (n + 1) := by
  have e : ∀ d, (d < n + 1 ∧ 0 < gs_u S d ∧ 0 < gs_l S d) ↔ (d < n ∧ 0 < gs_u S d ∧ 0 < gs_l S d) := fun d => by
    by_cases hd : d = n
    · subst hd; exact ⟨fun z => absurd z.2 hn, fun z => by omega⟩
    · exact ⟨fun z => ⟨by omega, z.2⟩, fun z => ⟨by omega, z.2⟩⟩
  refine ⟨h.1, h.2.1, fun d hd => ?_, fun d hd => ?_⟩
  · rw [h.2.2.1 d hd, gs_advX, gs_advX]; simp only [e d]
  · rw [h.2.2.2 d hd, gs_advG, gs_advG]; simp only [e d]
theorem gs_i1_move {w w1 : gd_W} {S : gs_T} {G : Nat → Nat} {n : Nat} (h : gs_i1 S G w w1 n) (hn : 0 < gs_u S n ∧ 0 < gs_l S n) {v : Int32} (hv : v = nI (gs_advX S (n + 1) n)) : gs_i1 S G w (gd_rI (gd_rI w1 30 (upd (w1.1 30) n v)) 35 (upd (w1.1 35) n (nI (G n) + 1))) (n + 1) := by
  have e : ∀ d, d ≠ n → ((d < n + 1 ∧ 0 < gs_u S d ∧ 0 < gs_l S d) ↔ (d < n ∧ 0 < gs_u S d ∧ 0 < gs_l S d)) := fun d hd => ⟨fun z => ⟨by omega, z.2⟩, fun z => ⟨by omega, z.2⟩⟩
  refine ⟨fun a h1 h2 => by rw [gd_rI_n h2, gd_rI_n h1]; exact h.1 a h1 h2, h.2.1, fun d hd => ?_, fun d hd => ?_⟩
  · rw [gd_rI_n (by decide), gd_rI_s]
    by_cases e0 : d = n
    · subst e0; rw [gd_u_s, hv]
    · rw [gd_u_n e0, h.2.2.1 d hd, gs_advX, gs_advX]; simp only [e d e0]
  · rw [gd_rI_s]
    by_cases e0 : d = n
    · subst e0; rw [gd_u_s, nI_1, gs_advG, if_pos ⟨by omega, hn⟩]
    · rw [gd_u_n e0, h.2.2.2 d hd, gs_advG, gs_advG]; simp only [e d e0]
theorem gs_i1_end {w w1 : gd_W} {S : gs_T} {G : Nat → Nat} (k : gr_M w S G) (hv : ∀ d, gs_alive S d → gv_way S d) (h : gs_i1 S G w w1 (gs_made S)) : gr_X w1 (gs_adv S (gs_made S)) (gs_advG S G (gs_made S)) (gs_advX S (gs_made S)) := by
  obtain ⟨a1, a2, a3, a4⟩ := h
  refine ⟨?_, a3⟩
  obtain ⟨h1, h2, h3, h4, h5, h6, h7, h8, h9, h10, h11, h12, h13, h14⟩ := k
  have e : ∀ a, a ≠ 30 → a ≠ 35 → (gd_rI w1 30 (fun d => nI (gs_c (gs_adv S (gs_made S)) d))).1 a = w.1 a := fun a q1 q2 => by rw [gd_rI_n q1]; exact a1 a q1 q2
  have e2 : (gd_rI w1 30 (fun d => nI (gs_c (gs_adv S (gs_made S)) d))).2.1 = w.2.1 := by
    show w1.2.1 = w.2.1
    rw [a2]
  refine ⟨by rw [e 27 (by decide) (by decide)]; exact h1, fun d hd => ?_, fun d hd => ?_, fun d hd => ?_, fun d hd i hi => ?_, fun d hd => ?_, by rw [e 28 (by decide) (by decide)]; exact h7, by rw [e2]; exact h8, fun d hd => ?_, by rw [e 27 (by decide) (by decide)]; exact h10, by rw [e 27 (by decide) (by decide)]; exact h11, by rw [e 27 (by decide) (by decide)]; exact h12, by rw [e 27 (by decide) (by decide)]; exact h13, by rw [e 37 (by decide) (by decide), e 38 (by decide) (by decide), e 39 (by decide) (by decide), e 40 (by decide) (by decide)]; exact h14⟩
  · rw [e 29 (by decide) (by decide), gs_u, gs_adv_f S _ d (Or.inl rfl)]; exact h2 d hd
  · refine ⟨by rw [gd_rI_s], ?_⟩
    rw [gs_adv_c]
    by_cases c : d < gs_made S ∧ 0 < gs_u S d ∧ 0 < gs_l S d
    · rw [if_pos c]
      obtain ⟨x, hx, hw⟩ := hv d ⟨c.1, c.2.1⟩ 1 (by omega)
      have hw2 : gm_mv (gs_c S d) (gs_m S d 0) = some x := hw
      rw [hw2]
      exact hx
    · rw [if_neg c]; exact (h3 d hd).2
  · rw [e 34 (by decide) (by decide), gd_rI_n (by decide), a4 d hd, gs_adv_l, gs_advG]
    obtain ⟨g1, g2, g3⟩ := h4 d hd
    by_cases c : d < gs_made S ∧ 0 < gs_u S d ∧ 0 < gs_l S d
    · rw [if_pos c, if_pos c]
      exact ⟨by rw [g1]; congr 1; omega, rfl, by omega⟩
    · rw [if_neg c, if_neg c]; exact ⟨g1, rfl, g3⟩
  · rw [gs_adv_l] at hi
    rw [e 33 (by decide) (by decide), gs_adv_m, gs_advG]
    by_cases c : d < gs_made S ∧ 0 < gs_u S d ∧ 0 < gs_l S d
    · rw [if_pos c] at hi
      rw [if_pos c, if_pos c, show 60 * d + (G d + 1) + i = 60 * d + G d + (i + 1) by omega]
      exact h5 d hd (i + 1) (by omega)
    · rw [if_neg c] at hi
      rw [if_neg c, if_neg c]
      exact h5 d hd i hi
  · rw [e 36 (by decide) (by decide), gs_i, gs_adv_f S _ d (Or.inr (Or.inr rfl))]; exact h6 d hd
  · rw [e 32 (by decide) (by decide), gs_p, gs_adv_f S _ d (Or.inr (Or.inl rfl))]; exact h9 d hd
/-- k has gone into e -/
def gs_unP (S : gs_T) (k e : Nat) : Nat × (Nat → Int64) := gs_nrm (max (gs_p S k) (gs_p S e) + 1) (fun j => gs_sh S k j * gs_pw (gs_p S e - gs_p S k) + gs_sh S e j * gs_pw (gs_p S k - gs_p S e))
def gs_unS (S : gs_T) (k e : Nat) : gs_T := (S.1, fun a b => if a = 0 ∧ b = k then 0 else if a = 0 ∧ b = e then 2 else if a = 4 ∧ b = k then 0 else if a = 2 ∧ b = e then (gs_unP S k e).1 else S.2.1 a b, fun a b => if a = e ∧ b < 4 then (gs_unP S k e).2 b else S.2.2.1 a b, S.2.2.2)
theorem gs_nrm_le : ∀ (p : Nat) (f : Nat → Int64), (gs_nrm p f).1 ≤ p
  | 0, f => Nat.le_refl _
  | p + 1, f => by
    rw [gs_nrm]
    split
    · exact Nat.le_succ_of_le (gs_nrm_le p _)
    · exact Nat.le_refl _
theorem gr_X.un {w : gd_W} {S : gs_T} {G X : Nat → Nat} (h : gr_X w S G X) {k e : Nat} (hke : k ≠ e) (hp : max (gs_p S k) (gs_p S e) + 1 ≤ 60) {w1 : gd_W} (hu : gs_ui w w1 e (gs_unP S k e).1 (gs_unP S k e).2) :
    gr_X (gd_rI (gd_rI (gd_rI w1 29 (upd (w1.1 29) e (nI 2))) 29 (upd ((gd_rI w1 29 (upd (w1.1 29) e (nI 2))).1 29) k (nI 0))) 36 (upd ((gd_rI (gd_rI w1 29 (upd (w1.1 29) e (nI 2))) 29 (upd ((gd_rI w1 29 (upd (w1.1 29) e (nI 2))).1 29) k (nI 0))).1 36) k (nI 0))) (gs_unS S k e) G X := by
  obtain ⟨hk, hx⟩ := h
  obtain ⟨u1, u2, u3, u4, u5, u6⟩ := hu
  refine ⟨?_, fun d hd => ?_⟩
  · obtain ⟨h1, h2, h3, h4, h5, h6, h7, h8, h9, h10, h11, h12, h13, h14⟩ := hk
    have E27 : w1.1 27 = w.1 27 := u1 27 (by decide)
    have E28 : w1.1 28 = w.1 28 := u1 28 (by decide)
    have E33 : w1.1 33 = w.1 33 := u1 33 (by decide)
    have E34 : w1.1 34 = w.1 34 := u1 34 (by decide)
    have E35 : w1.1 35 = w.1 35 := u1 35 (by decide)
    have E37 : w1.1 37 = w.1 37 := u1 37 (by decide)
    have E38 : w1.1 38 = w.1 38 := u1 38 (by decide)
    have E39 : w1.1 39 = w.1 39 := u1 39 (by decide)
    have E40 : w1.1 40 = w.1 40 := u1 40 (by decide)
    refine ⟨?_, fun d hd => ?_, fun d hd => h3 d hd, fun d hd => ?_, fun d hd i hi => ?_, fun d hd => ?_, ?_, fun d hd i hi => ?_, fun d hd => ?_, ?_, ?_, ?_, ?_, ?_⟩
    · show w1.1 27 3 = _ ∧ _
      rw [E27]; exact h1
    · show upd (upd (w1.1 29) e (nI 2)) k (nI 0) d = nI (if (0 : Nat) = 0 ∧ d = k then 0 else if (0 : Nat) = 0 ∧ d = e then 2 else if (0 : Nat) = 4 ∧ d = k then 0 else if (0 : Nat) = 2 ∧ d = e then (gs_unP S k e).1 else S.2.1 0 d) ∧ (if (0 : Nat) = 0 ∧ d = k then 0 else if (0 : Nat) = 0 ∧ d = e then 2 else if (0 : Nat) = 4 ∧ d = k then 0 else if (0 : Nat) = 2 ∧ d = e then (gs_unP S k e).1 else S.2.1 0 d) ≤ 2
      by_cases ek : d = k
      · subst ek; rw [gd_u_s, if_pos ⟨rfl, rfl⟩]; exact ⟨rfl, by omega⟩
      · rw [gd_u_n ek, if_neg (fun z => ek z.2)]
        by_cases ee : d = e
        · subst ee; rw [gd_u_s, if_pos ⟨rfl, rfl⟩]; exact ⟨rfl, by omega⟩
        · rw [gd_u_n ee, if_neg (fun z => ee z.2), if_neg (fun z => by omega), if_neg (fun z => by omega), u1 29 (by decide)]
          exact h2 d hd
    · show w1.1 34 d = nI (G d + gs_l S d) ∧ w1.1 35 d = nI (G d) ∧ G d + gs_l S d ≤ 60
      rw [E34, E35]; exact h4 d hd
    · show w1.1 33 (60 * d + G d + i) = nI (if 5 + i = 0 ∧ d = k then 0 else if 5 + i = 0 ∧ d = e then 2 else if 5 + i = 4 ∧ d = k then 0 else if 5 + i = 2 ∧ d = e then (gs_unP S k e).1 else S.2.1 (5 + i) d) ∧ (if 5 + i = 0 ∧ d = k then 0 else if 5 + i = 0 ∧ d = e then 2 else if 5 + i = 4 ∧ d = k then 0 else if 5 + i = 2 ∧ d = e then (gs_unP S k e).1 else S.2.1 (5 + i) d) < 5
      rw [if_neg (fun z => by omega), if_neg (fun z => by omega), if_neg (fun z => by omega), if_neg (fun z => by omega), E33]
      exact h5 d hd i hi
    · show upd (w1.1 36) k (nI 0) d = nI (if (4 : Nat) = 0 ∧ d = k then 0 else if (4 : Nat) = 0 ∧ d = e then 2 else if (4 : Nat) = 4 ∧ d = k then 0 else if (4 : Nat) = 2 ∧ d = e then (gs_unP S k e).1 else S.2.1 4 d) ∧ (if (4 : Nat) = 0 ∧ d = k then 0 else if (4 : Nat) = 0 ∧ d = e then 2 else if (4 : Nat) = 4 ∧ d = k then 0 else if (4 : Nat) = 2 ∧ d = e then (gs_unP S k e).1 else S.2.1 4 d) ≤ 60
      rw [if_neg (fun z => by omega), if_neg (fun z => by omega)]
      by_cases ek : d = k
      · subst ek; rw [gd_u_s, if_pos ⟨rfl, rfl⟩]; exact ⟨rfl, by omega⟩
      · rw [gd_u_n ek, if_neg (fun z => ek z.2), if_neg (fun z => by omega), u1 36 (by decide)]
        exact h6 d hd
    · show ∀ c, c < 64 → w1.1 28 c = nI (gs_k S c) ∧ gs_k S c < 8
      rw [E28]; exact h7
    · show w1.2.1 31 (4 * d + i) = if d = e ∧ i < 4 then (gs_unP S k e).2 i else S.2.2.1 d i
      by_cases ee : d = e
      · subst ee; rw [if_pos ⟨rfl, hi⟩]; exact u5 i hi
      · rw [if_neg (fun z => ee z.1), u6 (4 * d + i) (by omega)]
        exact h8 d hd i hi
    · show w1.1 32 d = nI (if (2 : Nat) = 0 ∧ d = k then 0 else if (2 : Nat) = 0 ∧ d = e then 2 else if (2 : Nat) = 4 ∧ d = k then 0 else if (2 : Nat) = 2 ∧ d = e then (gs_unP S k e).1 else S.2.1 2 d) ∧ (if (2 : Nat) = 0 ∧ d = k then 0 else if (2 : Nat) = 0 ∧ d = e then 2 else if (2 : Nat) = 4 ∧ d = k then 0 else if (2 : Nat) = 2 ∧ d = e then (gs_unP S k e).1 else S.2.1 2 d) ≤ 60
      rw [if_neg (fun z => by omega), if_neg (fun z => by omega), if_neg (fun z => by omega), u2]
      by_cases ee : d = e
      · subst ee
        rw [gd_u_s, if_pos ⟨rfl, rfl⟩]
        exact ⟨rfl, Nat.le_trans (gs_nrm_le _ _) hp⟩
      · rw [gd_u_n ee, if_neg (fun z => ee z.2)]; exact h9 d hd
    · show w1.1 27 1 = _
      rw [E27]; exact h10
    · show w1.1 27 12 = _ ∧ _
      rw [E27]; exact h11
    · show w1.1 27 13 = _ ∧ _
      rw [E27]; exact h12
    · show w1.1 27 14 = _ ∧ _
      rw [E27]; exact h13
    · show ∀ j r, (gs_rd S)[j]? = some r → w1.1 37 j = nI r.1 ∧ w1.1 38 j = r.2.1 ∧ w1.1 39 j = nI r.2.2.1 ∧ w1.1 40 j = nI r.2.2.2
      rw [E37, E38, E39, E40]; exact h14
  · show w1.1 30 d = nI (X d)
    rw [u1 30 (by decide)]; exact hx d hd
end
section
def gs_un2 (S : gs_T) : Nat → gs_T
  | 0 => S
  | n + 1 => if 0 < gs_u (gs_un2 S n) n ∧ 0 < gs_i (gs_un2 S n) n ∧ gs_l (gs_un2 S n) n = 0 then gs_unS (gs_un2 S n) n (gs_i (gs_un2 S n) n - 1) else gs_un2 S n
theorem gs_un2_same (S : gs_T) : ∀ n, (gs_un2 S n).1 = S.1 ∧ (gs_un2 S n).2.2.2 = S.2.2.2 ∧ (∀ d, gs_c (gs_un2 S n) d = gs_c S d) ∧ ∀ d, gs_l (gs_un2 S n) d = gs_l S d
  | 0 => ⟨rfl, rfl, fun _ => rfl, fun _ => rfl⟩
  | n + 1 => by
    have ih := gs_un2_same S n
    rw [gs_un2]
    split
    · exact ih
    · exact ih
def gs_sens (S : gs_T) (X : Nat → Nat) (d : Nat) : Bool := decide (0 < gs_u S d ∧ 63 < X d ∧ gs_k S (gs_c S d) = 3)
def gs_rdn (S : gs_T) (X : Nat → Nat) : Nat → List gs_rt
  | 0 => gs_rd S
  | n + 1 => if gs_sens S X n then gs_push (gs_rdn S X n) (n, gs_time S, gs_c S n, gs_u S n) else gs_rdn S X n
def gs_rcn (S : gs_T) (X : Nat → Nat) : Nat → Nat
  | 0 => 0
  | n + 1 => if gs_sens S X n then gs_rcn S X n + 1 else gs_rcn S X n
/-- what uniting asks of the state -/
def gs_ok2 (S : gs_T) : Prop := ∀ k, k < gs_made S → 0 < gs_u (gs_un2 S k) k → 0 < gs_i (gs_un2 S k) k → gs_l (gs_un2 S k) k = 0 → gs_i (gs_un2 S k) k - 1 < 60 ∧ gs_i (gs_un2 S k) k - 1 ≠ k ∧ gs_p (gs_un2 S k) k ≤ 59 ∧ gs_p (gs_un2 S k) (gs_i (gs_un2 S k) k - 1) ≤ 59
abbrev gs_s1 (S : gs_T) : gs_T := gs_adv (gs_tm S (gs_time S + 1)) (gs_made S)
abbrev gs_s2 (S : gs_T) : gs_T := gs_un2 (gs_s1 S) (gs_made S)
abbrev gs_sX (S : gs_T) : Nat → Nat := gs_advX S (gs_made S)
def gs_step (S : gs_T) : gs_T := gs_rset (gs_s2 S) (gs_rdn (gs_s2 S) (gs_sX S) (gs_made S))
def gs_stepn (S : gs_T) : Nat := gs_rcn (gs_s2 S) (gs_sX S) (gs_made S)
def gs_i3 (S : gs_T) (X : Nat → Nat) (w2 w3 : gd_W) (n : Nat) : Prop := (∀ a, a ≠ 27 → a ≠ 30 → (a < 37 ∨ 40 < a) → w3.1 a = w2.1 a) ∧ (∀ j, j ≠ 14 → w3.1 27 j = w2.1 27 j) ∧ w3.2 = w2.2 ∧ (∀ d, d < 60 → w3.1 30 d = nI (if d < n then gs_c S d else X d)) ∧ gs_rr w3 (gs_rdn S X n)
theorem gs_i3_cell {S : gs_T} {X : Nat → Nat} {w2 w3 : gd_W} {n : Nat} (h : gs_i3 S X w2 w3 n) {v : Int32} (hv : v = nI (gs_c S n)) (hr : ∀ l, gs_rdn S X (n + 1) = l → l = gs_rdn S X n) : gs_i3 S X w2 (gd_rI w3 30 (upd (w3.1 30) n v)) (n + 1) := by
  obtain ⟨h1, h2, h3, h4, h5⟩ := h
  refine ⟨fun a a1 a2 a3 => by rw [gd_rI_n a2]; exact h1 a a1 a2 a3, fun j hj => by rw [gd_rI_n (by decide)]; exact h2 j hj, h3, fun d hd => ?_, ?_⟩
  · rw [gd_rI_s]
    by_cases e : d = n
    · subst e; rw [gd_u_s, if_pos (by omega), hv]
    · rw [gd_u_n e, h4 d hd]
      by_cases e1 : d < n
      · rw [if_pos e1, if_pos (by omega)]
      · rw [if_neg e1, if_neg (by omega)]
  · rw [hr _ rfl]; exact h5
theorem gs_i3_cellr {S : gs_T} {X : Nat → Nat} {w2 w3 : gd_W} {n : Nat} (h : gs_i3 S X w2 w3 n) {v : Int32} (hv : v = nI (gs_c S n)) {w4 : gd_W} (hf : gf_rd (gd_rI w3 30 (upd (w3.1 30) n v)) w4) (hr : gs_rr w4 (gs_rdn S X (n + 1))) : gs_i3 S X w2 w4 (n + 1) := by
  obtain ⟨h1, h2, h3, h4, h5⟩ := h
  refine ⟨fun a a1 a2 a3 => by rw [hf.1 a a1 a3, gd_rI_n a2]; exact h1 a a1 a2 a3, fun j hj => by rw [hf.2.1 j hj, gd_rI_n (by decide)]; exact h2 j hj, by rw [hf.2.2]; exact h3, fun d hd => ?_, hr⟩
  rw [hf.1 30 (by decide) (by decide), gd_rI_s]
  by_cases e : d = n
  · subst e; rw [gd_u_s, if_pos (by omega), hv]
  · rw [gd_u_n e, h4 d hd]
    by_cases e1 : d < n
    · rw [if_pos e1, if_pos (by omega)]
    · rw [if_neg e1, if_neg (by omega)]
theorem gs_i3_end {S : gs_T} {G X : Nat → Nat} {w2 w3 : gd_W} (hx : gr_X w2 S G X) (hX : ∀ d, gs_made S ≤ d → X d = gs_c S d) (h : gs_i3 S X w2 w3 (gs_made S)) : gr_M w3 (gs_rset S (gs_rdn S X (gs_made S))) G := by
  obtain ⟨⟨k1, k2, k3, k4, k5, k6, k7, k8, k9, k10, k11, k12, -, -⟩, -⟩ := hx
  obtain ⟨h1, h2, h3, h4, h5⟩ := h
  have E29 := h1 29 (by decide) (by decide) (by decide)
  have E34 := h1 34 (by decide) (by decide) (by decide)
  have E35 := h1 35 (by decide) (by decide) (by decide)
  have E33 := h1 33 (by decide) (by decide) (by decide)
  have E36 := h1 36 (by decide) (by decide) (by decide)
  have E28 := h1 28 (by decide) (by decide) (by decide)
  have E32 := h1 32 (by decide) (by decide) (by decide)
  refine ⟨by rw [h2 3 (by decide)]; exact k1, by rw [E29]; exact k2, fun d hd => ?_, by rw [E34, E35]; exact k4, by rw [E33]; exact k5, by rw [E36]; exact k6, by rw [E28]; exact k7, by rw [h3]; exact k8, by rw [E32]; exact k9, by rw [h2 1 (by decide)]; exact k10, by rw [h2 12 (by decide)]; exact k11, by rw [h2 13 (by decide)]; exact k12, h5.1, h5.2⟩
  rw [h4 d hd]
  refine ⟨?_, (k3 d hd).2⟩
  by_cases e : d < gs_made S
  · rw [if_pos e]; rfl
  · rw [if_neg e, hX d (by omega)]; rfl
theorem gs_i1.m {S : gs_T} {G : Nat → Nat} {w w1 : gd_W} {n : Nat} (h : gs_i1 S G w w1 n) : gf_m w w1 := ⟨fun a ha => ⟨h.1 a (by omega) (by omega), by rw [h.2.1]⟩, by rw [h.2.1]⟩
theorem gs_i3.m {S : gs_T} {X : Nat → Nat} {w w1 : gd_W} {n : Nat} (h : gs_i3 S X w w1 n) : gf_m w w1 := ⟨fun a ha => ⟨h.1 a (by omega) (by omega) (by omega), by rw [h.2.2.1]⟩, by rw [h.2.2.1]⟩
theorem gs_ui.m {w w1 : gd_W} {e p : Nat} {f : Nat → Int64} (h : gs_ui w w1 e p f) : gf_m w w1 := ⟨fun a ha => ⟨h.1 a (by omega), h.2.2.1 a (by omega)⟩, h.2.2.2.1⟩
theorem gs_advX_hi (S : gs_T) {n d : Nat} (h : n ≤ d) : gs_advX S n d = gs_c (gs_adv S n) d := by
  rw [gs_advX, if_neg (fun z => by omega), gs_adv_c, if_neg (fun z => by omega)]
set_option maxHeartbeats 4000000 in
set_option maxRecDepth 100000 in
theorem c2_Mstep {l : Launch} {D : va_G} {tC : FieldType → ClassId} {ad : Nat → Nat} (hinj : ∀ i j, ad i = ad j → i = j) {S : gs_T} {G : Nat → Nat} (w : gd_W) (hR : gr_M w S G) (hv : ∀ k, gs_alive S k → gv_way S k) (hok : gs_ok2 (gs_s1 S)) : gd_Cp l D tC ad 45 2 44 y_M_step c_M_step 4 (some .int) [.ref 27] w (fun r w' => r = some (.int (nI (gs_stepn S))) ∧ (∃ G', gr_M w' (gs_step S) G') ∧ gf_m w w' ∧ w'.1 27 0 = w.1 27 0) := by
  refine gd_Cp_of rfl hinj (Nat.le_of_ble_eq_true rfl) ?_
  intro p e s m args below meth c E hr hlk
  have K := k_M_step
  have hA : ∀ q, gd_A ad 45 s.heap.size q → gd_A ad 45 s.heap.size q := fun _ h => h
  have hN := hR.1.2
  have hR0 : gr_M (gd_rI w 27 (upd (w.1 27) 1 (gs_time S + 1))) (gs_tm S (gs_time S + 1)) G := hR.time (gs_time S + 1)
  have hf0 : gf_m w (gd_rI w 27 (upd (w.1 27) 1 (gs_time S + 1))) := gf_m.I w (by decide) _
  have hc0 : (gd_rI w 27 (upd (w.1 27) 1 (gs_time S + 1))).1 27 0 = w.1 27 0 := rfl
  generalize hw0 : gd_rI w 27 (upd (w.1 27) 1 (gs_time S + 1)) = w0 at hR0 hf0 hc0
  have hX64 : ∀ d, gs_sX S d = gs_c (gs_s1 S) d ∨ gs_sX S d = gs_c (gs_s1 S) d + 64 := gs_advX_c S (gs_made S)
  have reads : ∀ w2, gr_X w2 (gs_s2 S) (gs_advG S G (gs_made S)) (gs_sX S) → gf_m w w2 → w2.1 27 0 = w.1 27 0 → ∀ j d w3, d + j = gs_made S → gs_i3 (gs_s2 S) (gs_sX S) w2 w3 d → gd_G p l e (gd_rm 2 44) s m args below meth c D tC ad (gd_A ad 45 s.heap.size) 45 4 0 0 (MQ below (gd_Qp D tC ad 45 s.heap.size (fun r w' => r = some (.int (nI (gs_stepn S))) ∧ (∃ G', gr_M w' (gs_step S) G') ∧ gf_m w w' ∧ w'.1 27 0 = w.1 27 0)) args s 0 0 (gd_A ad 45 s.heap.size)) 166 [(0, .ref 27), (1, .int (nI (gs_rcn (gs_s2 S) (gs_sX S) d))), (2, .int (nI d))] [] w3 := by
    intro w2 hx hf2 hc2 j
    induction j with
    | zero =>
        intro d w3 hd hi
        have hm3 : w3.1 27 3 = nI (gs_made S) := by rw [hi.2.1 3 (by decide)]; have := hx.1.1.1; rw [gs_made, (gs_un2_same (gs_s1 S) (gs_made S)).2.1] at this; exact this
        refine gd_r E K 3 (pc' := 171) (lv' := [(0, .ref 27), (1, .int (nI (gs_rcn (gs_s2 S) (gs_sX S) d))), (2, .int (nI d))]) (st' := [.int (w3.1 27 3), .int (nI d)]) (w' := w3) rfl ?_
        refine gd_cg (lv' := [(0, .ref 27), (1, .int (nI (gs_rcn (gs_s2 S) (gs_sX S) d))), (2, .int (nI d))]) (st' := [.int (nI (gs_made S)), .int (nI d)]) (w' := w3) ?_ (rfl) (by simp only [hm3]) rfl
        refine gd_r E K 1 (pc' := if (nI (gs_made S)) ≤ (nI d) then 249 else 174) (lv' := [(0, .ref 27), (1, .int (nI (gs_rcn (gs_s2 S) (gs_sX S) d))), (2, .int (nI d))]) (st' := []) (w' := w3) rfl ?_
        refine gd_it (nI_le (by omega) (by omega)) ?_
        refine gd_r E K 1 (pc' := 250) (lv' := [(0, .ref 27), (1, .int (nI (gs_rcn (gs_s2 S) (gs_sX S) d))), (2, .int (nI d))]) (st' := [.int (nI (gs_rcn (gs_s2 S) (gs_sX S) d))]) (w' := w3) rfl ?_
        have hdm : d = gs_made S := by omega
        rw [hdm] at hi
        have hmd : gs_made (gs_s2 S) = gs_made S := by rw [gs_made, (gs_un2_same (gs_s1 S) (gs_made S)).2.1]; rfl
        exact gd_iretp E hr hlk (K.1 250 (.ireturn, 0) rfl).1 (⟨by rw [hdm]; rfl, ⟨_, by have := gs_i3_end hx (fun d hd => by rw [hmd] at hd; rw [(gs_un2_same (gs_s1 S) (gs_made S)).2.2.1 d]; exact gs_advX_hi S hd) (by rw [hmd]; exact hi); rw [hmd] at this; exact this⟩, hf2.trans hi.m, (hi.2.1 0 (by decide)).trans hc2⟩)
    | succ j ih =>
        intro d w3 hd hi
        have hm3 : w3.1 27 3 = nI (gs_made S) := by rw [hi.2.1 3 (by decide)]; have := hx.1.1.1; rw [gs_made, (gs_un2_same (gs_s1 S) (gs_made S)).2.1] at this; exact this
        have hcs : gs_c (gs_s2 S) d = gs_c (gs_s1 S) d := (gs_un2_same (gs_s1 S) (gs_made S)).2.2.1 d
        have hc64 : gs_c (gs_s2 S) d < 64 := (hx.1.2.2.1 d (by omega)).2
        have hXd : gs_sX S d = gs_c (gs_s2 S) d ∨ gs_sX S d = gs_c (gs_s2 S) d + 64 := by rw [hcs]; exact hX64 d
        have hx30 : w3.1 30 d = nI (gs_sX S d) := by rw [hi.2.2.2.1 d (by omega), if_neg (by omega)]
        have hu3 : w3.1 29 d = nI (gs_u (gs_s2 S) d) := by rw [hi.1 29 (by decide) (by decide) (by decide)]; exact (hx.1.2.1 d (by omega)).1
        have hu2 : gs_u (gs_s2 S) d ≤ 2 := (hx.1.2.1 d (by omega)).2
        refine gd_r E K 3 (pc' := 171) (lv' := [(0, .ref 27), (1, .int (nI (gs_rcn (gs_s2 S) (gs_sX S) d))), (2, .int (nI d))]) (st' := [.int (w3.1 27 3), .int (nI d)]) (w' := w3) rfl ?_
        refine gd_cg (lv' := [(0, .ref 27), (1, .int (nI (gs_rcn (gs_s2 S) (gs_sX S) d))), (2, .int (nI d))]) (st' := [.int (nI (gs_made S)), .int (nI d)]) (w' := w3) ?_ (rfl) (by simp only [hm3]) rfl
        refine gd_r E K 1 (pc' := if (nI (gs_made S)) ≤ (nI d) then 249 else 174) (lv' := [(0, .ref 27), (1, .int (nI (gs_rcn (gs_s2 S) (gs_sX S) d))), (2, .int (nI d))]) (st' := []) (w' := w3) rfl ?_
        refine gd_if (nI_ge (by omega) (by omega)) ?_
        refine gd_r E K 3 (pc' := 179) (lv' := [(0, .ref 27), (1, .int (nI (gs_rcn (gs_s2 S) (gs_sX S) d))), (2, .int (nI d))]) (st' := [.int (nI d), .ref 30]) (w' := w3) rfl ?_
        refine gd_ialdv E (K.1 179 (.iaload, 0) rfl).1 (j := d) (by decide) (rfl) (rfl) (by omega) (by decide) (v := nI (gs_sX S d)) (hx30) ?_
        refine gd_r E K 1 (pc' := 182) (lv' := [(0, .ref 27), (1, .int (nI (gs_rcn (gs_s2 S) (gs_sX S) d))), (2, .int (nI d))]) (st' := [.int 63, .int (nI (gs_sX S d))]) (w' := w3) rfl ?_
        by_cases hfl : 63 < gs_sX S d
        · refine gd_r E K 1 (pc' := if (nI (gs_sX S d)) ≤ 63 then 189 else 185) (lv' := [(0, .ref 27), (1, .int (nI (gs_rcn (gs_s2 S) (gs_sX S) d))), (2, .int (nI d))]) (st' := []) (w' := w3) rfl ?_
          refine gd_if (nI_ge hfl (by omega)) ?_
          refine gd_r E K 9 (pc' := 201) (lv' := [(0, .ref 27), (1, .int (nI (gs_rcn (gs_s2 S) (gs_sX S) d))), (2, .int (nI d)), (3, .int 1)]) (st' := [.int (nI d), .ref 30, .int (nI d), .ref 30]) (w' := w3) rfl ?_
          refine gd_ialdv E (K.1 201 (.iaload, 0) rfl).1 (j := d) (by decide) (rfl) (rfl) (by omega) (by decide) (v := nI (gs_sX S d)) (hx30) ?_
          refine gd_r E K 2 (pc' := 205) (lv' := [(0, .ref 27), (1, .int (nI (gs_rcn (gs_s2 S) (gs_sX S) d))), (2, .int (nI d)), (3, .int 1)]) (st' := [.int ((nI (gs_sX S d)) - (nI (gs_sX S d)) / 64 * 64), .int (nI d), .ref 30]) (w' := w3) rfl ?_
          refine gd_cg (lv' := [(0, .ref 27), (1, .int (nI (gs_rcn (gs_s2 S) (gs_sX S) d))), (2, .int (nI d)), (3, .int 1)]) (st' := [.int (nI (gs_c (gs_s2 S) d)), .int (nI d), .ref 30]) (w' := w3) ?_ (rfl) (by rw [show (64 : Int32) = nI 64 from rfl, pk_rem (by omega) (by decide) (by decide)]; congr 3; omega) (rfl)
          refine gd_iast E (K.1 205 (.iastore, 0) rfl).1 (j := d) (by decide) (rfl) (rfl) (by omega) (by decide) ?_
          refine gd_r E K 3 (pc' := 211) (lv' := [(0, .ref 27), (1, .int (nI (gs_rcn (gs_s2 S) (gs_sX S) d))), (2, .int (nI d)), (3, .int 1)]) (st' := [.int (nI d), .ref 29]) (w' := gd_rI w3 30 (upd (w3.1 30) d (nI (gs_c (gs_s2 S) d)))) rfl ?_
          refine gd_ialdv E (K.1 211 (.iaload, 0) rfl).1 (j := d) (by decide) (rfl) (rfl) (by omega) (by decide) (v := nI (gs_u (gs_s2 S) d)) (by rw [gd_rI_n (by decide)]; exact hu3) ?_
          rcases Nat.eq_zero_or_pos (gs_u (gs_s2 S) d) with h0 | h0
          · refine gd_r E K 1 (pc' := if (nI (gs_u (gs_s2 S) d)) ≤ 0 then 243 else 215) (lv' := [(0, .ref 27), (1, .int (nI (gs_rcn (gs_s2 S) (gs_sX S) d))), (2, .int (nI d)), (3, .int 1)]) (st' := []) (w' := gd_rI w3 30 (upd (w3.1 30) d (nI (gs_c (gs_s2 S) d)))) rfl ?_
            refine gd_it ((gd_le0 (by omega)).mpr h0) ?_
            have hsn : gs_sens (gs_s2 S) (gs_sX S) d = false := decide_eq_false (fun z => by omega)
            refine gd_r E K 2 (pc' := 166) (lv' := [(0, .ref 27), (1, .int (nI (gs_rcn (gs_s2 S) (gs_sX S) d))), (2, .int ((nI d) + 1)), (3, .int 1)]) (st' := []) (w' := gd_rI w3 30 (upd (w3.1 30) d (nI (gs_c (gs_s2 S) d)))) rfl ?_
            refine gd_lvp [0, 1, 2] (lv' := [(0, .ref 27), (1, .int (nI (gs_rcn (gs_s2 S) (gs_sX S) d))), (2, .int ((nI d) + 1))]) rfl ?_
            exact gd_cg (ih (d + 1) _ (by omega) (gs_i3_cell hi rfl (fun l hl => by rw [← hl, gs_rdn, hsn]; rfl))) (by rw [gs_rcn, hsn, nI_1]; rfl) rfl rfl
          · refine gd_r E K 1 (pc' := if (nI (gs_u (gs_s2 S) d)) ≤ 0 then 243 else 215) (lv' := [(0, .ref 27), (1, .int (nI (gs_rcn (gs_s2 S) (gs_sX S) d))), (2, .int (nI d)), (3, .int 1)]) (st' := []) (w' := gd_rI w3 30 (upd (w3.1 30) d (nI (gs_c (gs_s2 S) d)))) rfl ?_
            refine gd_if (fun q => absurd ((gd_le0 (by omega)).mp q) (by omega)) ?_
            refine gd_r E K 7 (pc' := 228) (lv' := [(0, .ref 27), (1, .int (nI (gs_rcn (gs_s2 S) (gs_sX S) d))), (2, .int (nI d)), (3, .int 1)]) (st' := [.int (nI d), .ref 30, .ref 28]) (w' := gd_rI w3 30 (upd (w3.1 30) d (nI (gs_c (gs_s2 S) d)))) rfl ?_
            obtain ⟨k1, k2⟩ := hx.1.2.2.2.2.2.2.1 (gs_c (gs_s2 S) d) hc64
            refine gd_ialdv E (K.1 228 (.iaload, 0) rfl).1 (j := d) (by decide) (rfl) (rfl) (by omega) (by decide) (v := nI (gs_c (gs_s2 S) d)) (by rw [gd_rI_s, gd_u_s]) ?_
            refine gd_ialdv E (K.1 229 (.iaload, 0) rfl).1 (j := gs_c (gs_s2 S) d) (by decide) (rfl) (rfl) (hc64) (by decide) (v := nI (gs_k (gs_s2 S) (gs_c (gs_s2 S) d))) (by rw [gd_rI_n (by decide), hi.1 28 (by decide) (by decide) (by decide)]; exact k1) ?_
            refine gd_r E K 1 (pc' := 231) (lv' := [(0, .ref 27), (1, .int (nI (gs_rcn (gs_s2 S) (gs_sX S) d))), (2, .int (nI d)), (3, .int 1)]) (st' := [.int 3, .int (nI (gs_k (gs_s2 S) (gs_c (gs_s2 S) d)))]) (w' := gd_rI w3 30 (upd (w3.1 30) d (nI (gs_c (gs_s2 S) d)))) rfl ?_
            by_cases h3 : gs_k (gs_s2 S) (gs_c (gs_s2 S) d) = 3
            · refine gd_r E K 1 (pc' := if (nI (gs_k (gs_s2 S) (gs_c (gs_s2 S) d))) = 3 then 234 else 243) (lv' := [(0, .ref 27), (1, .int (nI (gs_rcn (gs_s2 S) (gs_sX S) d))), (2, .int (nI d)), (3, .int 1)]) (st' := []) (w' := gd_rI w3 30 (upd (w3.1 30) d (nI (gs_c (gs_s2 S) d)))) rfl ?_
              refine gd_it (by rw [h3]; rfl) ?_
              have hsn : gs_sens (gs_s2 S) (gs_sX S) d = true := decide_eq_true ⟨h0, by omega, h3⟩
              refine gd_r E K 2 (pc' := 236) (lv' := [(0, .ref 27), (1, .int (nI (gs_rcn (gs_s2 S) (gs_sX S) d))), (2, .int (nI d)), (3, .int 1)]) (st' := [.int (nI d), .ref 27]) (w' := gd_rI w3 30 (upd (w3.1 30) d (nI (gs_c (gs_s2 S) d)))) rfl ?_
              have ht3 : (gd_rI w3 30 (upd (w3.1 30) d (nI (gs_c (gs_s2 S) d)))).1 27 1 = gs_time (gs_s2 S) := by rw [gd_rI_n (by decide), hi.2.1 1 (by decide)]; exact hx.1.2.2.2.2.2.2.2.2.2.1
              have hrr4 : gs_rr (gd_rI w3 30 (upd (w3.1 30) d (nI (gs_c (gs_s2 S) d)))) (gs_rdn (gs_s2 S) (gs_sX S) d) := hi.2.2.2.2
              refine gd_cVp E hA (av := [.int (nI d)]) (rest := []) (c2_Mread hinj (gd_rI w3 30 (upd (w3.1 30) d (nI (gs_c (gs_s2 S) d)))) (gs_rdn (gs_s2 S) (gs_sX S) d) hrr4 d (gs_c (gs_s2 S) d) (gs_u (gs_s2 S) d) (gs_time (gs_s2 S)) (by omega) (by rw [gd_rI_s, gd_u_s]) (by rw [gd_rI_n (by decide)]; exact hu3) ht3) (K.1 236 (.invokevirtual 149, 0) rfl).1 ml_M_149 cv_M_read (by decide) (rfl) ⟨Nat.le_of_ble_eq_true rfl, Nat.le_of_ble_eq_true rfl⟩ ⟨Nat.zero_le _, Nat.zero_le _⟩ rfl (Nat.le_of_ble_eq_true rfl) (fun r9 w5 h9 => ?_)
              obtain ⟨rfl, hf5, hr5⟩ := h9
              refine gd_r E K 6 (pc' := 166) (lv' := [(0, .ref 27), (1, .int ((nI (gs_rcn (gs_s2 S) (gs_sX S) d)) + 1)), (2, .int ((nI d) + 1)), (3, .int 1)]) (st' := []) (w' := w5) rfl ?_
              refine gd_lvp [0, 1, 2] (lv' := [(0, .ref 27), (1, .int ((nI (gs_rcn (gs_s2 S) (gs_sX S) d)) + 1)), (2, .int ((nI d) + 1))]) rfl ?_
              exact gd_cg (ih (d + 1) w5 (by omega) (gs_i3_cellr hi rfl hf5 (by rw [gs_rdn, hsn]; exact hr5))) (by rw [gs_rcn, hsn, nI_1, nI_1]; rfl) rfl rfl
            · refine gd_r E K 1 (pc' := if (nI (gs_k (gs_s2 S) (gs_c (gs_s2 S) d))) = 3 then 234 else 243) (lv' := [(0, .ref 27), (1, .int (nI (gs_rcn (gs_s2 S) (gs_sX S) d))), (2, .int (nI d)), (3, .int 1)]) (st' := []) (w' := gd_rI w3 30 (upd (w3.1 30) d (nI (gs_c (gs_s2 S) d)))) rfl ?_
              refine gd_if (by rw [show (3 : Int32) = nI 3 from rfl, nI_eq (by omega) (by decide)]; exact h3) ?_
              have hsn : gs_sens (gs_s2 S) (gs_sX S) d = false := decide_eq_false (fun z => h3 z.2.2)
              refine gd_r E K 2 (pc' := 166) (lv' := [(0, .ref 27), (1, .int (nI (gs_rcn (gs_s2 S) (gs_sX S) d))), (2, .int ((nI d) + 1)), (3, .int 1)]) (st' := []) (w' := gd_rI w3 30 (upd (w3.1 30) d (nI (gs_c (gs_s2 S) d)))) rfl ?_
              refine gd_lvp [0, 1, 2] (lv' := [(0, .ref 27), (1, .int (nI (gs_rcn (gs_s2 S) (gs_sX S) d))), (2, .int ((nI d) + 1))]) rfl ?_
              exact gd_cg (ih (d + 1) _ (by omega) (gs_i3_cell hi rfl (fun l hl => by rw [← hl, gs_rdn, hsn]; rfl))) (by rw [gs_rcn, hsn, nI_1]; rfl) rfl rfl
        · refine gd_r E K 1 (pc' := if (nI (gs_sX S d)) ≤ 63 then 189 else 185) (lv' := [(0, .ref 27), (1, .int (nI (gs_rcn (gs_s2 S) (gs_sX S) d))), (2, .int (nI d))]) (st' := []) (w' := w3) rfl ?_
          refine gd_it (nI_le (show gs_sX S d ≤ 63 by omega) (by decide)) ?_
          refine gd_r E K 8 (pc' := 201) (lv' := [(0, .ref 27), (1, .int (nI (gs_rcn (gs_s2 S) (gs_sX S) d))), (2, .int (nI d)), (3, .int 0)]) (st' := [.int (nI d), .ref 30, .int (nI d), .ref 30]) (w' := w3) rfl ?_
          refine gd_ialdv E (K.1 201 (.iaload, 0) rfl).1 (j := d) (by decide) (rfl) (rfl) (by omega) (by decide) (v := nI (gs_sX S d)) (hx30) ?_
          refine gd_r E K 2 (pc' := 205) (lv' := [(0, .ref 27), (1, .int (nI (gs_rcn (gs_s2 S) (gs_sX S) d))), (2, .int (nI d)), (3, .int 0)]) (st' := [.int ((nI (gs_sX S d)) - (nI (gs_sX S d)) / 64 * 64), .int (nI d), .ref 30]) (w' := w3) rfl ?_
          refine gd_cg (lv' := [(0, .ref 27), (1, .int (nI (gs_rcn (gs_s2 S) (gs_sX S) d))), (2, .int (nI d)), (3, .int 0)]) (st' := [.int (nI (gs_c (gs_s2 S) d)), .int (nI d), .ref 30]) (w' := w3) ?_ (rfl) (by rw [show (64 : Int32) = nI 64 from rfl, pk_rem (by omega) (by decide) (by decide)]; congr 3; omega) (rfl)
          refine gd_iast E (K.1 205 (.iastore, 0) rfl).1 (j := d) (by decide) (rfl) (rfl) (by omega) (by decide) ?_
          refine gd_r E K 3 (pc' := 211) (lv' := [(0, .ref 27), (1, .int (nI (gs_rcn (gs_s2 S) (gs_sX S) d))), (2, .int (nI d)), (3, .int 0)]) (st' := [.int (nI d), .ref 29]) (w' := gd_rI w3 30 (upd (w3.1 30) d (nI (gs_c (gs_s2 S) d)))) rfl ?_
          refine gd_ialdv E (K.1 211 (.iaload, 0) rfl).1 (j := d) (by decide) (rfl) (rfl) (by omega) (by decide) (v := nI (gs_u (gs_s2 S) d)) (by rw [gd_rI_n (by decide)]; exact hu3) ?_
          rcases Nat.eq_zero_or_pos (gs_u (gs_s2 S) d) with h0 | h0
          · refine gd_r E K 1 (pc' := if (nI (gs_u (gs_s2 S) d)) ≤ 0 then 243 else 215) (lv' := [(0, .ref 27), (1, .int (nI (gs_rcn (gs_s2 S) (gs_sX S) d))), (2, .int (nI d)), (3, .int 0)]) (st' := []) (w' := gd_rI w3 30 (upd (w3.1 30) d (nI (gs_c (gs_s2 S) d)))) rfl ?_
            refine gd_it ((gd_le0 (by omega)).mpr h0) ?_
            have hsn : gs_sens (gs_s2 S) (gs_sX S) d = false := decide_eq_false (fun z => by omega)
            refine gd_r E K 2 (pc' := 166) (lv' := [(0, .ref 27), (1, .int (nI (gs_rcn (gs_s2 S) (gs_sX S) d))), (2, .int ((nI d) + 1)), (3, .int 0)]) (st' := []) (w' := gd_rI w3 30 (upd (w3.1 30) d (nI (gs_c (gs_s2 S) d)))) rfl ?_
            refine gd_lvp [0, 1, 2] (lv' := [(0, .ref 27), (1, .int (nI (gs_rcn (gs_s2 S) (gs_sX S) d))), (2, .int ((nI d) + 1))]) rfl ?_
            exact gd_cg (ih (d + 1) _ (by omega) (gs_i3_cell hi rfl (fun l hl => by rw [← hl, gs_rdn, hsn]; rfl))) (by rw [gs_rcn, hsn, nI_1]; rfl) rfl rfl
          · refine gd_r E K 1 (pc' := if (nI (gs_u (gs_s2 S) d)) ≤ 0 then 243 else 215) (lv' := [(0, .ref 27), (1, .int (nI (gs_rcn (gs_s2 S) (gs_sX S) d))), (2, .int (nI d)), (3, .int 0)]) (st' := []) (w' := gd_rI w3 30 (upd (w3.1 30) d (nI (gs_c (gs_s2 S) d)))) rfl ?_
            refine gd_if (fun q => absurd ((gd_le0 (by omega)).mp q) (by omega)) ?_
            have hsn : gs_sens (gs_s2 S) (gs_sX S) d = false := decide_eq_false (fun z => by omega)
            refine gd_r E K 4 (pc' := 166) (lv' := [(0, .ref 27), (1, .int (nI (gs_rcn (gs_s2 S) (gs_sX S) d))), (2, .int ((nI d) + 1)), (3, .int 0)]) (st' := []) (w' := gd_rI w3 30 (upd (w3.1 30) d (nI (gs_c (gs_s2 S) d)))) rfl ?_
            refine gd_lvp [0, 1, 2] (lv' := [(0, .ref 27), (1, .int (nI (gs_rcn (gs_s2 S) (gs_sX S) d))), (2, .int ((nI d) + 1))]) rfl ?_
            exact gd_cg (ih (d + 1) _ (by omega) (gs_i3_cell hi rfl (fun l hl => by rw [← hl, gs_rdn, hsn]; rfl))) (by rw [gs_rcn, hsn, nI_1]; rfl) rfl rfl
  have unites : ∀ j k w2, k + j = gs_made S → gr_X w2 (gs_un2 (gs_s1 S) k) (gs_advG S G (gs_made S)) (gs_sX S) → gf_m w w2 → w2.1 27 0 = w.1 27 0 → gd_G p l e (gd_rm 2 44) s m args below meth c D tC ad (gd_A ad 45 s.heap.size) 45 4 0 0 (MQ below (gd_Qp D tC ad 45 s.heap.size (fun r w' => r = some (.int (nI (gs_stepn S))) ∧ (∃ G', gr_M w' (gs_step S) G') ∧ gf_m w w' ∧ w'.1 27 0 = w.1 27 0)) args s 0 0 (gd_A ad 45 s.heap.size)) 111 [(0, .ref 27), (1, .int 0), (2, .int (nI k))] [] w2 := by
    intro j
    induction j with
    | zero =>
        intro k w2 hk hx hf2 hc2
        have hm2 : w2.1 27 3 = nI (gs_made S) := by have := hx.1.1.1; rw [gs_made, (gs_un2_same (gs_s1 S) k).2.1] at this; exact this
        refine gd_r E K 3 (pc' := 116) (lv' := [(0, .ref 27), (1, .int 0), (2, .int (nI k))]) (st' := [.int (w2.1 27 3), .int (nI k)]) (w' := w2) rfl ?_
        refine gd_cg (lv' := [(0, .ref 27), (1, .int 0), (2, .int (nI k))]) (st' := [.int (nI (gs_made S)), .int (nI k)]) (w' := w2) ?_ (rfl) (by simp only [hm2]) rfl
        refine gd_r E K 1 (pc' := if (nI (gs_made S)) ≤ (nI k) then 164 else 119) (lv' := [(0, .ref 27), (1, .int 0), (2, .int (nI k))]) (st' := []) (w' := w2) rfl ?_
        refine gd_it (nI_le (by omega) (by omega)) ?_
        refine gd_r E K 2 (pc' := 166) (lv' := [(0, .ref 27), (1, .int 0), (2, .int 0)]) (st' := []) (w' := w2) rfl ?_
        have hkm : k = gs_made S := by omega
        rw [hkm] at hx
        have hrl := hx.1.2.2.2.2.2.2.2.2.2.2.2.2
        exact gd_cg (reads w2 hx hf2 hc2 (gs_made S) 0 w2 (by omega) ⟨fun _ _ _ _ => rfl, fun _ _ => rfl, rfl, fun d hd => by rw [if_neg (by omega)]; exact hx.2 d hd, hrl⟩) rfl rfl rfl
    | succ j ih =>
        intro k w2 hk hx hf2 hc2
        have hm2 : w2.1 27 3 = nI (gs_made S) := by have := hx.1.1.1; rw [gs_made, (gs_un2_same (gs_s1 S) k).2.1] at this; exact this
        obtain ⟨u1, u2⟩ := hx.1.2.1 k (by omega)
        obtain ⟨i1, i2⟩ := hx.1.2.2.2.2.2.1 k (by omega)
        obtain ⟨g1, g2, g3⟩ := hx.1.2.2.2.1 k (by omega)
        refine gd_r E K 3 (pc' := 116) (lv' := [(0, .ref 27), (1, .int 0), (2, .int (nI k))]) (st' := [.int (w2.1 27 3), .int (nI k)]) (w' := w2) rfl ?_
        refine gd_cg (lv' := [(0, .ref 27), (1, .int 0), (2, .int (nI k))]) (st' := [.int (nI (gs_made S)), .int (nI k)]) (w' := w2) ?_ (rfl) (by simp only [hm2]) rfl
        refine gd_r E K 1 (pc' := if (nI (gs_made S)) ≤ (nI k) then 164 else 119) (lv' := [(0, .ref 27), (1, .int 0), (2, .int (nI k))]) (st' := []) (w' := w2) rfl ?_
        refine gd_if (nI_ge (by omega) (by omega)) ?_
        refine gd_r E K 3 (pc' := 124) (lv' := [(0, .ref 27), (1, .int 0), (2, .int (nI k))]) (st' := [.int (nI k), .ref 29]) (w' := w2) rfl ?_
        refine gd_ialdv E (K.1 124 (.iaload, 0) rfl).1 (j := k) (by decide) (rfl) (rfl) (by omega) (by decide) (v := nI (gs_u (gs_un2 (gs_s1 S) k) k)) (u1) ?_
        rcases Nat.eq_zero_or_pos (gs_u (gs_un2 (gs_s1 S) k) k) with h0 | h0
        · refine gd_r E K 1 (pc' := if (nI (gs_u (gs_un2 (gs_s1 S) k) k)) ≤ 0 then 158 else 128) (lv' := [(0, .ref 27), (1, .int 0), (2, .int (nI k))]) (st' := []) (w' := w2) rfl ?_
          refine gd_it ((gd_le0 (by omega)).mpr h0) ?_
          refine gd_r E K 2 (pc' := 111) (lv' := [(0, .ref 27), (1, .int 0), (2, .int ((nI k) + 1))]) (st' := []) (w' := w2) rfl ?_
          exact gd_cg (ih (k + 1) w2 (by omega) (by rw [gs_un2, if_neg (fun z => by omega)]; exact hx) hf2 hc2) (by rw [nI_1]) rfl rfl
        · refine gd_r E K 1 (pc' := if (nI (gs_u (gs_un2 (gs_s1 S) k) k)) ≤ 0 then 158 else 128) (lv' := [(0, .ref 27), (1, .int 0), (2, .int (nI k))]) (st' := []) (w' := w2) rfl ?_
          refine gd_if (fun q => absurd ((gd_le0 (by omega)).mp q) (by omega)) ?_
          refine gd_r E K 3 (pc' := 133) (lv' := [(0, .ref 27), (1, .int 0), (2, .int (nI k))]) (st' := [.int (nI k), .ref 36]) (w' := w2) rfl ?_
          refine gd_ialdv E (K.1 133 (.iaload, 0) rfl).1 (j := k) (by decide) (rfl) (rfl) (by omega) (by decide) (v := nI (gs_i (gs_un2 (gs_s1 S) k) k)) (i1) ?_
          rcases Nat.eq_zero_or_pos (gs_i (gs_un2 (gs_s1 S) k) k) with h1 | h1
          · refine gd_r E K 1 (pc' := if (nI (gs_i (gs_un2 (gs_s1 S) k) k)) ≤ 0 then 158 else 137) (lv' := [(0, .ref 27), (1, .int 0), (2, .int (nI k))]) (st' := []) (w' := w2) rfl ?_
            refine gd_it ((gd_le0 (by omega)).mpr h1) ?_
            refine gd_r E K 2 (pc' := 111) (lv' := [(0, .ref 27), (1, .int 0), (2, .int ((nI k) + 1))]) (st' := []) (w' := w2) rfl ?_
            exact gd_cg (ih (k + 1) w2 (by omega) (by rw [gs_un2, if_neg (fun z => by omega)]; exact hx) hf2 hc2) (by rw [nI_1]) rfl rfl
          · refine gd_r E K 1 (pc' := if (nI (gs_i (gs_un2 (gs_s1 S) k) k)) ≤ 0 then 158 else 137) (lv' := [(0, .ref 27), (1, .int 0), (2, .int (nI k))]) (st' := []) (w' := w2) rfl ?_
            refine gd_if (fun q => absurd ((gd_le0 (by omega)).mp q) (by omega)) ?_
            refine gd_r E K 2 (pc' := 139) (lv' := [(0, .ref 27), (1, .int 0), (2, .int (nI k))]) (st' := [.int (nI k), .ref 27]) (w' := w2) rfl ?_
            refine gd_cV E hA (av := [.int (nI k)]) (rest := []) (c2_left2 hinj w2 k (gs_advG S G (gs_made S) k) (gs_l (gs_un2 (gs_s1 S) k) k) (by omega) g1 g2) (K.1 139 (.invokevirtual 75, 0) rfl).1 ml_M_75 cv_M_left (by decide) (rfl) ⟨Nat.le_of_ble_eq_true rfl, Nat.le_of_ble_eq_true rfl⟩ ⟨Nat.zero_le _, Nat.zero_le _⟩ rfl (Nat.le_of_ble_eq_true rfl) ?_
            by_cases h2 : gs_l (gs_un2 (gs_s1 S) k) k = 0
            · refine gd_r E K 1 (pc' := if (nI (gs_l (gs_un2 (gs_s1 S) k) k)) = 0 then 145 else 158) (lv' := [(0, .ref 27), (1, .int 0), (2, .int (nI k))]) (st' := []) (w' := w2) rfl ?_
              refine gd_it (by rw [h2]; rfl) ?_
              refine gd_r E K 5 (pc' := 152) (lv' := [(0, .ref 27), (1, .int 0), (2, .int (nI k))]) (st' := [.int (nI k), .ref 36, .int (nI k), .ref 27]) (w' := w2) rfl ?_
              refine gd_ialdv E (K.1 152 (.iaload, 0) rfl).1 (j := k) (by decide) (rfl) (rfl) (by omega) (by decide) (v := nI (gs_i (gs_un2 (gs_s1 S) k) k)) (i1) ?_
              refine gd_r E K 2 (pc' := 155) (lv' := [(0, .ref 27), (1, .int 0), (2, .int (nI k))]) (st' := [.int ((nI (gs_i (gs_un2 (gs_s1 S) k) k)) - 1), .int (nI k), .ref 27]) (w' := w2) rfl ?_
              obtain ⟨o1, o2, o3, o4⟩ := hok k (show k < gs_made S by omega) h0 h1 h2
              refine gd_cg (lv' := [(0, .ref 27), (1, .int 0), (2, .int (nI k))]) (st' := [.int (nI (gs_i (gs_un2 (gs_s1 S) k) k - 1)), .int (nI k), .ref 27]) (w' := w2) ?_ (rfl) (by rw [show (1 : Int32) = nI 1 from rfl, pk_sub h1]) (rfl)
              refine gd_cVp E hA (av := [.int (nI k), .int (nI (gs_i (gs_un2 (gs_s1 S) k) k - 1))]) (rest := []) (c2_Munite hinj w2 k (gs_i (gs_un2 (gs_s1 S) k) k - 1) (by omega) o1 (Ne.symm o2) (gs_p (gs_un2 (gs_s1 S) k) k) (gs_p (gs_un2 (gs_s1 S) k) (gs_i (gs_un2 (gs_s1 S) k) k - 1)) (by omega) (by omega) (gs_sh (gs_un2 (gs_s1 S) k) k) (gs_sh (gs_un2 (gs_s1 S) k) (gs_i (gs_un2 (gs_s1 S) k) k - 1)) (hx.1.2.2.2.2.2.2.2.2.1 k (by omega)).1 (hx.1.2.2.2.2.2.2.2.2.1 _ o1).1 (hx.1.2.2.2.2.2.2.2.1 k (by omega)) (hx.1.2.2.2.2.2.2.2.1 _ o1)) (K.1 155 (.invokevirtual 146, 0) rfl).1 ml_M_146 cv_M_unite (by decide) (rfl) ⟨Nat.le_of_ble_eq_true rfl, Nat.le_of_ble_eq_true rfl⟩ ⟨Nat.zero_le _, Nat.zero_le _⟩ rfl (Nat.le_of_ble_eq_true rfl) (fun r9 w4 h9 => ?_)
              obtain ⟨rfl, w3, hu3, rfl⟩ := h9
              have hx4 := hx.un (Ne.symm o2) (by omega) hu3
              have hf4 : gf_m w (gd_rI (gd_rI (gd_rI w3 29 (upd (w3.1 29) (gs_i (gs_un2 (gs_s1 S) k) k - 1) (nI 2))) 29 (upd ((gd_rI w3 29 (upd (w3.1 29) (gs_i (gs_un2 (gs_s1 S) k) k - 1) (nI 2))).1 29) k (nI 0))) 36 (upd ((gd_rI (gd_rI w3 29 (upd (w3.1 29) (gs_i (gs_un2 (gs_s1 S) k) k - 1) (nI 2))) 29 (upd ((gd_rI w3 29 (upd (w3.1 29) (gs_i (gs_un2 (gs_s1 S) k) k - 1) (nI 2))).1 29) k (nI 0))).1 36) k (nI 0))) := hf2.trans (hu3.m.trans ((gf_m.I _ (by decide) _).trans ((gf_m.I _ (by decide) _).trans (gf_m.I _ (by decide) _))))
              have hc4 : (gd_rI (gd_rI (gd_rI w3 29 (upd (w3.1 29) (gs_i (gs_un2 (gs_s1 S) k) k - 1) (nI 2))) 29 (upd ((gd_rI w3 29 (upd (w3.1 29) (gs_i (gs_un2 (gs_s1 S) k) k - 1) (nI 2))).1 29) k (nI 0))) 36 (upd ((gd_rI (gd_rI w3 29 (upd (w3.1 29) (gs_i (gs_un2 (gs_s1 S) k) k - 1) (nI 2))) 29 (upd ((gd_rI w3 29 (upd (w3.1 29) (gs_i (gs_un2 (gs_s1 S) k) k - 1) (nI 2))).1 29) k (nI 0))).1 36) k (nI 0))).1 27 0 = w.1 27 0 := (congrFun (hu3.1 27 (by decide)) 0).trans hc2
              generalize gd_rI (gd_rI (gd_rI w3 29 (upd (w3.1 29) (gs_i (gs_un2 (gs_s1 S) k) k - 1) (nI 2))) 29 (upd ((gd_rI w3 29 (upd (w3.1 29) (gs_i (gs_un2 (gs_s1 S) k) k - 1) (nI 2))).1 29) k (nI 0))) 36 (upd ((gd_rI (gd_rI w3 29 (upd (w3.1 29) (gs_i (gs_un2 (gs_s1 S) k) k - 1) (nI 2))) 29 (upd ((gd_rI w3 29 (upd (w3.1 29) (gs_i (gs_un2 (gs_s1 S) k) k - 1) (nI 2))).1 29) k (nI 0))).1 36) k (nI 0)) = w5 at hx4 hf4 hc4 ⊢
              refine gd_r E K 2 (pc' := 111) (lv' := [(0, .ref 27), (1, .int 0), (2, .int ((nI k) + 1))]) (st' := []) (w' := w5) rfl ?_
              exact gd_cg (ih (k + 1) w5 (by omega) (by rw [gs_un2, if_pos ⟨h0, h1, h2⟩]; exact hx4) hf4 hc4) (by rw [nI_1]) rfl rfl
            · refine gd_r E K 1 (pc' := if (nI (gs_l (gs_un2 (gs_s1 S) k) k)) = 0 then 145 else 158) (lv' := [(0, .ref 27), (1, .int 0), (2, .int (nI k))]) (st' := []) (w' := w2) rfl ?_
              refine gd_if (nI_ne0 (by omega) (by omega)) ?_
              refine gd_r E K 2 (pc' := 111) (lv' := [(0, .ref 27), (1, .int 0), (2, .int ((nI k) + 1))]) (st' := []) (w' := w2) rfl ?_
              exact gd_cg (ih (k + 1) w2 (by omega) (by rw [gs_un2, if_neg (fun z => h2 z.2.2)]; exact hx) hf2 hc2) (by rw [nI_1]) rfl rfl
  have moves : ∀ j d w1, d + j = gs_made S → gs_i1 (gs_tm S (gs_time S + 1)) G w0 w1 d → gd_G p l e (gd_rm 2 44) s m args below meth c D tC ad (gd_A ad 45 s.heap.size) 45 4 0 0 (MQ below (gd_Qp D tC ad 45 s.heap.size (fun r w' => r = some (.int (nI (gs_stepn S))) ∧ (∃ G', gr_M w' (gs_step S) G') ∧ gf_m w w' ∧ w'.1 27 0 = w.1 27 0)) args s 0 0 (gd_A ad 45 s.heap.size)) 14 [(0, .ref 27), (1, .int 0), (2, .int (nI d))] [] w1 := by
    intro j
    induction j with
    | zero =>
        intro d w1 hd hi
        have hm1 : w1.1 27 3 = nI (gs_made S) := by rw [hi.1 27 (by decide) (by decide)]; exact hR0.1.1
        refine gd_r E K 3 (pc' := 19) (lv' := [(0, .ref 27), (1, .int 0), (2, .int (nI d))]) (st' := [.int (w1.1 27 3), .int (nI d)]) (w' := w1) rfl ?_
        refine gd_cg (lv' := [(0, .ref 27), (1, .int 0), (2, .int (nI d))]) (st' := [.int (nI (gs_made S)), .int (nI d)]) (w' := w1) ?_ (rfl) (by simp only [hm1]) rfl
        refine gd_r E K 1 (pc' := if (nI (gs_made S)) ≤ (nI d) then 109 else 22) (lv' := [(0, .ref 27), (1, .int 0), (2, .int (nI d))]) (st' := []) (w' := w1) rfl ?_
        refine gd_it (nI_le (by omega) (by omega)) ?_
        refine gd_r E K 2 (pc' := 111) (lv' := [(0, .ref 27), (1, .int 0), (2, .int 0)]) (st' := []) (w' := w1) rfl ?_
        have hdm : d = gs_made S := by omega
        rw [hdm] at hi
        exact gd_cg (unites (gs_made S) 0 w1 (by omega) (gs_i1_end hR0 hv hi) (hf0.trans hi.m) ((congrFun (hi.1 27 (by decide) (by decide)) 0).trans hc0)) rfl rfl rfl
    | succ j ih =>
        intro d w1 hd hi
        have hm1 : w1.1 27 3 = nI (gs_made S) := by rw [hi.1 27 (by decide) (by decide)]; exact hR0.1.1
        have hu1 : w1.1 29 d = nI (gs_u S d) := by rw [hi.1 29 (by decide) (by decide)]; exact (hR0.2.1 d (by omega)).1
        have hu2 : gs_u S d ≤ 2 := (hR0.2.1 d (by omega)).2
        obtain ⟨g1, g2, g3⟩ := hR0.2.2.2.1 d (by omega)
        have hG : w1.1 35 d = nI (G d) := by rw [hi.2.2.2 d (by omega), gs_advG, if_neg (fun z => by omega)]
        have hL : w1.1 34 d = nI (G d + gs_l S d) := by rw [hi.1 34 (by decide) (by decide)]; exact g1
        have hC : w1.1 30 d = nI (gs_c S d) := (hi.2.2.1 d (by omega)).trans (by rw [gs_advX, if_neg (fun z => by omega)]; rfl)
        have hc64 : gs_c S d < 64 := (hR0.2.2.1 d (by omega)).2
        have g3 : G d + gs_l S d ≤ 60 := g3
        refine gd_r E K 3 (pc' := 19) (lv' := [(0, .ref 27), (1, .int 0), (2, .int (nI d))]) (st' := [.int (w1.1 27 3), .int (nI d)]) (w' := w1) rfl ?_
        refine gd_cg (lv' := [(0, .ref 27), (1, .int 0), (2, .int (nI d))]) (st' := [.int (nI (gs_made S)), .int (nI d)]) (w' := w1) ?_ (rfl) (by simp only [hm1]) rfl
        refine gd_r E K 1 (pc' := if (nI (gs_made S)) ≤ (nI d) then 109 else 22) (lv' := [(0, .ref 27), (1, .int 0), (2, .int (nI d))]) (st' := []) (w' := w1) rfl ?_
        refine gd_if (nI_ge (by omega) (by omega)) ?_
        refine gd_r E K 3 (pc' := 27) (lv' := [(0, .ref 27), (1, .int 0), (2, .int (nI d))]) (st' := [.int (nI d), .ref 29]) (w' := w1) rfl ?_
        refine gd_ialdv E (K.1 27 (.iaload, 0) rfl).1 (j := d) (by decide) (rfl) (rfl) (by omega) (by decide) (v := nI (gs_u S d)) (hu1) ?_
        rcases Nat.eq_zero_or_pos (gs_u S d) with h0 | h0
        · refine gd_r E K 1 (pc' := if (nI (gs_u S d)) ≤ 0 then 103 else 31) (lv' := [(0, .ref 27), (1, .int 0), (2, .int (nI d))]) (st' := []) (w' := w1) rfl ?_
          refine gd_it ((gd_le0 (by omega)).mpr h0) ?_
          refine gd_r E K 2 (pc' := 14) (lv' := [(0, .ref 27), (1, .int 0), (2, .int ((nI d) + 1))]) (st' := []) (w' := w1) rfl ?_
          exact gd_cg (ih (d + 1) w1 (by omega) (gs_i1_skip hi (fun z => absurd z.1 (by show ¬ 0 < gs_u S d; omega)))) (by rw [nI_1]) rfl rfl
        · refine gd_r E K 1 (pc' := if (nI (gs_u S d)) ≤ 0 then 103 else 31) (lv' := [(0, .ref 27), (1, .int 0), (2, .int (nI d))]) (st' := []) (w' := w1) rfl ?_
          refine gd_if (fun q => absurd ((gd_le0 (by omega)).mp q) (by omega)) ?_
          refine gd_r E K 2 (pc' := 33) (lv' := [(0, .ref 27), (1, .int 0), (2, .int (nI d))]) (st' := [.int (nI d), .ref 27]) (w' := w1) rfl ?_
          refine gd_cV E hA (av := [.int (nI d)]) (rest := []) (c2_left2 hinj w1 d (G d) (gs_l S d) (by omega) hL hG) (K.1 33 (.invokevirtual 75, 0) rfl).1 ml_M_75 cv_M_left (by decide) (rfl) ⟨Nat.le_of_ble_eq_true rfl, Nat.le_of_ble_eq_true rfl⟩ ⟨Nat.zero_le _, Nat.zero_le _⟩ rfl (Nat.le_of_ble_eq_true rfl) ?_
          rcases Nat.eq_zero_or_pos (gs_l S d) with h1 | h1
          · refine gd_r E K 1 (pc' := if (nI (gs_l S d)) ≤ 0 then 103 else 39) (lv' := [(0, .ref 27), (1, .int 0), (2, .int (nI d))]) (st' := []) (w' := w1) rfl ?_
            refine gd_it ((gd_le0 (by omega)).mpr h1) ?_
            refine gd_r E K 2 (pc' := 14) (lv' := [(0, .ref 27), (1, .int 0), (2, .int ((nI d) + 1))]) (st' := []) (w' := w1) rfl ?_
            exact gd_cg (ih (d + 1) w1 (by omega) (gs_i1_skip hi (fun z => absurd z.2 (by show ¬ 0 < gs_l S d; omega)))) (by rw [nI_1]) rfl rfl
          · refine gd_r E K 1 (pc' := if (nI (gs_l S d)) ≤ 0 then 103 else 39) (lv' := [(0, .ref 27), (1, .int 0), (2, .int (nI d))]) (st' := []) (w' := w1) rfl ?_
            refine gd_if (fun q => absurd ((gd_le0 (by omega)).mp q) (by omega)) ?_
            refine gd_r E K 3 (pc' := 44) (lv' := [(0, .ref 27), (1, .int 0), (2, .int (nI d))]) (st' := [.int (nI d), .ref 30]) (w' := w1) rfl ?_
            refine gd_ialdv E (K.1 44 (.iaload, 0) rfl).1 (j := d) (by decide) (rfl) (rfl) (by omega) (by decide) (v := nI (gs_c S d)) (hC) ?_
            refine gd_r E K 8 (pc' := 58) (lv' := [(0, .ref 27), (1, .int 0), (2, .int (nI d))]) (st' := [.int (nI d), .ref 35, .int (60 * (nI d)), .ref 33, .int (nI (gs_c S d))]) (w' := w1) rfl ?_
            refine gd_ialdv E (K.1 58 (.iaload, 0) rfl).1 (j := d) (by decide) (rfl) (rfl) (by omega) (by decide) (v := nI (G d)) (hG) ?_
            refine gd_r E K 1 (pc' := 60) (lv' := [(0, .ref 27), (1, .int 0), (2, .int (nI d))]) (st' := [.int ((60 * (nI d)) + (nI (G d))), .ref 33, .int (nI (gs_c S d))]) (w' := w1) rfl ?_
            have hro := hR0.2.2.2.2.1 d (by omega) 0 h1
            have hro5 : gs_m S d 0 < 5 := hro.2
            refine gd_ialdv E (K.1 60 (.iaload, 0) rfl).1 (j := 60 * d + G d + 0) (by decide) (rfl) (by rw [show (60 : Int32) = nI 60 from rfl, pk_mul, nI_add]; rfl) (by omega) (by decide) (v := nI (gs_m S d 0)) (by rw [hi.1 33 (by decide) (by decide)]; exact hro.1) ?_
            refine gd_cS E hA (av := [.int (nI (gs_c S d)), .int (nI (gs_m S d 0))]) (rest := []) (c2_moved hinj (gs_c S d) (gs_m S d 0) hc64 hro5 w1) (K.1 61 (.invokestatic 82, 0) rfl).1 ml_M_82 cv_M_moved ⟨Nat.le_of_ble_eq_true rfl, Nat.le_of_ble_eq_true rfl⟩ ⟨Nat.zero_le _, Nat.zero_le _⟩ rfl (Nat.le_of_ble_eq_true rfl) ?_
            obtain ⟨t0, ht0, hw0⟩ := hv d ⟨by omega, h0⟩ 1 (by omega)
            have hmv : gm_mv (gs_c S d) (gs_m S d 0) = some t0 := hw0
            rw [hmv]
            refine gd_cg (lv' := [(0, .ref 27), (1, .int 0), (2, .int (nI d))]) (st' := [.int (nI t0)]) (w' := w1) ?_ (rfl) (rfl) (rfl)
            refine gd_r E K 8 (pc' := 76) (lv' := [(0, .ref 27), (1, .int 0), (2, .int (nI d)), (3, .int (nI t0))]) (st' := [.int (nI d), .ref 30, .int (nI t0), .int (nI d), .ref 30]) (w' := w1) rfl ?_
            refine gd_ialdv E (K.1 76 (.iaload, 0) rfl).1 (j := d) (by decide) (rfl) (rfl) (by omega) (by decide) (v := nI (gs_c S d)) (hC) ?_
            have hadv : gs_advX S (d + 1) d = if t0 ≠ gs_c S d then t0 + 64 else gs_c S d := by
              rw [gs_advX, hmv]
              by_cases e9 : t0 = gs_c S d
              · rw [if_neg (fun z => z.2 e9), if_neg (fun z => z e9)]
              · rw [if_pos ⟨⟨by omega, h0, h1⟩, e9⟩, if_pos e9]; rfl
            by_cases e9 : t0 = gs_c S d
            · refine gd_r E K 1 (pc' := if (nI t0) = (nI (gs_c S d)) then 80 else 84) (lv' := [(0, .ref 27), (1, .int 0), (2, .int (nI d)), (3, .int (nI t0))]) (st' := [.int (nI d), .ref 30]) (w' := w1) rfl ?_
              refine gd_it (by rw [e9]) ?_
              refine gd_r E K 2 (pc' := 88) (lv' := [(0, .ref 27), (1, .int 0), (2, .int (nI d)), (3, .int (nI t0))]) (st' := [.int (nI t0), .int (nI d), .ref 30]) (w' := w1) rfl ?_
              refine gd_iast E (K.1 88 (.iastore, 0) rfl).1 (j := d) (by decide) (rfl) (rfl) (by omega) (by decide) ?_
              refine gd_r E K 6 (pc' := 99) (lv' := [(0, .ref 27), (1, .int 0), (2, .int (nI d)), (3, .int (nI t0))]) (st' := [.int (nI d), .ref 35, .int (nI d), .ref 35]) (w' := gd_rI w1 30 (upd (w1.1 30) d (nI t0))) rfl ?_
              refine gd_ialdv E (K.1 99 (.iaload, 0) rfl).1 (j := d) (by decide) (rfl) (rfl) (by omega) (by decide) (v := nI (G d)) (by rw [gd_rI_n (by decide)]; exact hG) ?_
              refine gd_r E K 2 (pc' := 102) (lv' := [(0, .ref 27), (1, .int 0), (2, .int (nI d)), (3, .int (nI t0))]) (st' := [.int ((nI (G d)) + 1), .int (nI d), .ref 35]) (w' := gd_rI w1 30 (upd (w1.1 30) d (nI t0))) rfl ?_
              refine gd_iast E (K.1 102 (.iastore, 0) rfl).1 (j := d) (by decide) (rfl) (rfl) (by omega) (by decide) ?_
              refine gd_r E K 2 (pc' := 14) (lv' := [(0, .ref 27), (1, .int 0), (2, .int ((nI d) + 1)), (3, .int (nI t0))]) (st' := []) (w' := gd_rI (gd_rI w1 30 (upd (w1.1 30) d (nI t0))) 35 (upd ((gd_rI w1 30 (upd (w1.1 30) d (nI t0))).1 35) d ((nI (G d)) + 1))) rfl ?_
              refine gd_lvp [0, 1, 2] (lv' := [(0, .ref 27), (1, .int 0), (2, .int ((nI d) + 1))]) rfl ?_
              exact gd_cg (ih (d + 1) _ (by omega) (gs_i1_move hi ⟨h0, h1⟩ (by show _ = nI (gs_advX S (d + 1) d); rw [hadv, if_neg (fun z => z e9), e9]))) (by rw [nI_1]) rfl rfl
            · refine gd_r E K 1 (pc' := if (nI t0) = (nI (gs_c S d)) then 80 else 84) (lv' := [(0, .ref 27), (1, .int 0), (2, .int (nI d)), (3, .int (nI t0))]) (st' := [.int (nI d), .ref 30]) (w' := w1) rfl ?_
              refine gd_if (by rw [nI_eq (by omega) (by omega)]; exact e9) ?_
              refine gd_r E K 3 (pc' := 88) (lv' := [(0, .ref 27), (1, .int 0), (2, .int (nI d)), (3, .int (nI t0))]) (st' := [.int ((nI t0) + 64), .int (nI d), .ref 30]) (w' := w1) rfl ?_
              refine gd_iast E (K.1 88 (.iastore, 0) rfl).1 (j := d) (by decide) (rfl) (rfl) (by omega) (by decide) ?_
              refine gd_r E K 6 (pc' := 99) (lv' := [(0, .ref 27), (1, .int 0), (2, .int (nI d)), (3, .int (nI t0))]) (st' := [.int (nI d), .ref 35, .int (nI d), .ref 35]) (w' := gd_rI w1 30 (upd (w1.1 30) d ((nI t0) + 64))) rfl ?_
              refine gd_ialdv E (K.1 99 (.iaload, 0) rfl).1 (j := d) (by decide) (rfl) (rfl) (by omega) (by decide) (v := nI (G d)) (by rw [gd_rI_n (by decide)]; exact hG) ?_
              refine gd_r E K 2 (pc' := 102) (lv' := [(0, .ref 27), (1, .int 0), (2, .int (nI d)), (3, .int (nI t0))]) (st' := [.int ((nI (G d)) + 1), .int (nI d), .ref 35]) (w' := gd_rI w1 30 (upd (w1.1 30) d ((nI t0) + 64))) rfl ?_
              refine gd_iast E (K.1 102 (.iastore, 0) rfl).1 (j := d) (by decide) (rfl) (rfl) (by omega) (by decide) ?_
              refine gd_r E K 2 (pc' := 14) (lv' := [(0, .ref 27), (1, .int 0), (2, .int ((nI d) + 1)), (3, .int (nI t0))]) (st' := []) (w' := gd_rI (gd_rI w1 30 (upd (w1.1 30) d ((nI t0) + 64))) 35 (upd ((gd_rI w1 30 (upd (w1.1 30) d ((nI t0) + 64))).1 35) d ((nI (G d)) + 1))) rfl ?_
              refine gd_lvp [0, 1, 2] (lv' := [(0, .ref 27), (1, .int 0), (2, .int ((nI d) + 1))]) rfl ?_
              exact gd_cg (ih (d + 1) _ (by omega) (gs_i1_move hi ⟨h0, h1⟩ (by show _ = nI (gs_advX S (d + 1) d); rw [hadv, if_pos e9, show (64 : Int32) = nI 64 from rfl, nI_add]))) (by rw [nI_1]) rfl rfl
  have ht := hR.2.2.2.2.2.2.2.2.2.1
  refine gd_r E K 4 (pc' := 6) (lv' := [(0, .ref 27)]) (st' := [.int 1, .int (w.1 27 1), .ref 27]) (w' := w) rfl ?_
  refine gd_cg (lv' := [(0, .ref 27)]) (st' := [.int 1, .int (gs_time S), .ref 27]) (w' := w) ?_ (rfl) (by simp only [ht]) rfl
  refine gd_r E K 6 (pc' := 14) (lv' := [(0, .ref 27), (1, .int 0), (2, .int 0)]) (st' := []) (w' := gd_rI w 27 (upd (w.1 27) 1 ((gs_time S) + 1))) rfl ?_
  rw [hw0]
  exact gd_cg (moves (gs_made S) 0 w0 (by omega) (gs_i1_0 hR0)) rfl rfl rfl
end
section
def gs_it (S : gs_T) : Nat → gs_T
  | 0 => S
  | n + 1 => gs_step (gs_it S n)
def gs_its (S : gs_T) : Nat → Nat
  | 0 => 0
  | n + 1 => gs_its S n + gs_stepn (gs_it S n)
def gs_run (S : gs_T) (n : Int32) : Nat × Nat × gs_T := if n < 0 ∨ 100 < n then (1, 0, S) else (0, gs_its S n.toNatClampNeg, gs_it S n.toNatClampNeg)
def gs_okS (S : gs_T) : Prop := (∀ k, gs_alive S k → gv_way S k) ∧ gs_ok2 (gs_s1 S)
set_option maxRecDepth 100000 in
theorem c2_Mrun {l : Launch} {D : va_G} {tC : FieldType → ClassId} {ad : Nat → Nat} (hinj : ∀ i j, ad i = ad j → i = j) {S : gs_T} {G : Nat → Nat} (w : gd_W) (hR : gr_M w S G) (hg : ∀ k, k < 100 → gs_okS (gs_it S k)) (n : Int32) : gd_Cp l D tC ad 45 3 67 y_M_run c_M_run 4 (some .int) [.ref 27, .int n] w (gs_mp (gs_run S n).2.2 (gs_run S n).1 (.int (nI (gs_run S n).2.1)) w) := by
  refine gd_Cp_of rfl hinj (Nat.le_of_ble_eq_true rfl) ?_
  intro p e s m args below meth c E hr hlk
  have K := k_M_run
  have hA : ∀ q, gd_A ad 45 s.heap.size q → gd_A ad 45 s.heap.size q := fun _ h => h
  refine gd_r E K 2 (pc' := 2) (lv' := [(0, .ref 27), (1, .int n)]) (st' := [.int n, .ref 27]) (w' := w) rfl ?_
  refine gd_r E K 1 (pc' := if n < 0 then 15 else 5) (lv' := [(0, .ref 27), (1, .int n)]) (st' := [.ref 27]) (w' := w) rfl ?_
  refine gd_ite (fun h1 => ?_) (fun h1 => ?_)
  · refine gd_r E K 6 (pc' := 27) (lv' := [(0, .ref 27), (1, .int n)]) (st' := [.int 0]) (w' := gd_rI w 27 (upd (w.1 27) 0 1)) rfl ?_
    exact gd_iretp E hr hlk (K.1 27 (.ireturn, 0) rfl).1 (by rw [gs_run, if_pos (Or.inl h1)]; exact gs_mp_code hR 1 rfl rfl)
  · refine gd_r E K 2 (pc' := 8) (lv' := [(0, .ref 27), (1, .int n)]) (st' := [.int 100, .int n, .ref 27]) (w' := w) rfl ?_
    refine gd_r E K 1 (pc' := if 100 < n then 15 else 11) (lv' := [(0, .ref 27), (1, .int n)]) (st' := [.ref 27]) (w' := w) rfl ?_
    refine gd_ite (fun h2 => ?_) (fun h2 => ?_)
    · refine gd_r E K 6 (pc' := 27) (lv' := [(0, .ref 27), (1, .int n)]) (st' := [.int 0]) (w' := gd_rI w 27 (upd (w.1 27) 0 1)) rfl ?_
      exact gd_iretp E hr hlk (K.1 27 (.ireturn, 0) rfl).1 (by rw [gs_run, if_pos (Or.inr h2)]; exact gs_mp_code hR 1 rfl rfl)
    · have hno : ¬ (n < 0 ∨ 100 < n) := fun z => z.elim h1 h2
      obtain ⟨k, hk, rfl⟩ := nI_of h1
      have hk1 : k ≤ 100 := by rw [show (100 : Int32) = nI 100 from rfl, nI_ltI (by decide) hk] at h2; omega
      rw [gs_run, if_neg hno, nI_clamp hk]
      have loop : ∀ j i w1 G1, i + j = k → gr_M w1 (gs_it S i) G1 → gf_m w w1 → w1.1 27 0 = 0 → gd_G p l e (gd_rm 3 67) s m args below meth c D tC ad (gd_A ad 45 s.heap.size) 45 4 0 0 (MQ below (gd_Qp D tC ad 45 s.heap.size (gs_mp (gs_it S k) 0 (.int (nI (gs_its S k))) w)) args s 0 0 (gd_A ad 45 s.heap.size)) 32 [(0, .ref 27), (1, .int (nI k)), (2, .int (nI (gs_its S i))), (3, .int (nI i))] [] w1 := by
        intro j
        induction j with
        | zero =>
          intro i w1 G1 hi hR1 hf1 hc1
          refine gd_r E K 2 (pc' := 34) (lv' := [(0, .ref 27), (1, .int (nI k)), (2, .int (nI (gs_its S i))), (3, .int (nI i))]) (st' := [.int (nI k), .int (nI i)]) (w' := w1) rfl ?_
          refine gd_r E K 1 (pc' := if (nI k) ≤ (nI i) then 50 else 37) (lv' := [(0, .ref 27), (1, .int (nI k)), (2, .int (nI (gs_its S i))), (3, .int (nI i))]) (st' := []) (w' := w1) rfl ?_
          refine gd_it (nI_le (by omega) (by omega)) ?_
          refine gd_r E K 1 (pc' := 51) (lv' := [(0, .ref 27), (1, .int (nI k)), (2, .int (nI (gs_its S i))), (3, .int (nI i))]) (st' := [.int (nI (gs_its S i))]) (w' := w1) rfl ?_
          have hik : i = k := by omega
          subst hik
          exact gd_iretp E hr hlk (K.1 51 (.ireturn, 0) rfl).1 (⟨rfl, hc1, ⟨G1, hR1⟩, hf1⟩)
        | succ j ih =>
          intro i w1 G1 hi hR1 hf1 hc1
          refine gd_r E K 2 (pc' := 34) (lv' := [(0, .ref 27), (1, .int (nI k)), (2, .int (nI (gs_its S i))), (3, .int (nI i))]) (st' := [.int (nI k), .int (nI i)]) (w' := w1) rfl ?_
          refine gd_r E K 1 (pc' := if (nI k) ≤ (nI i) then 50 else 37) (lv' := [(0, .ref 27), (1, .int (nI k)), (2, .int (nI (gs_its S i))), (3, .int (nI i))]) (st' := []) (w' := w1) rfl ?_
          refine gd_if (nI_ge (by omega) (by omega)) ?_
          refine gd_r E K 2 (pc' := 39) (lv' := [(0, .ref 27), (1, .int (nI k)), (2, .int (nI (gs_its S i))), (3, .int (nI i))]) (st' := [.ref 27, .int (nI (gs_its S i))]) (w' := w1) rfl ?_
          refine gd_cVp E hA (av := []) (rest := [.int (nI (gs_its S i))]) (c2_Mstep hinj w1 hR1 (hg i (by omega)).1 (hg i (by omega)).2) (K.1 39 (.invokevirtual 153, 0) rfl).1 ml_M_153 cv_M_step (by decide) (rfl) ⟨Nat.le_of_ble_eq_true rfl, Nat.le_of_ble_eq_true rfl⟩ ⟨Nat.zero_le _, Nat.zero_le _⟩ rfl (Nat.le_of_ble_eq_true rfl) (fun r9 w2 h9 => ?_)
          obtain ⟨rfl, ⟨G2, hR2⟩, hf2, hc2⟩ := h9
          refine gd_r E K 4 (pc' := 32) (lv' := [(0, .ref 27), (1, .int (nI k)), (2, .int ((nI (gs_its S i)) + (nI (gs_stepn (gs_it S i))))), (3, .int ((nI i) + 1))]) (st' := []) (w' := w2) rfl ?_
          exact gd_cg (ih (i + 1) w2 G2 (by omega) hR2 (hf1.trans hf2) (hc2.trans hc1)) (by rw [nI_1, nI_add]; rfl) rfl rfl
      refine gd_r E K 10 (pc' := 32) (lv' := [(0, .ref 27), (1, .int (nI k)), (2, .int 0), (3, .int 0)]) (st' := []) (w' := gd_rI w 27 (upd (w.1 27) 0 0)) rfl ?_
      exact gd_cg (loop k 0 _ G (by omega) (hR.code 0) (gf_m.I w (by decide) _) rfl) rfl rfl rfl
end
