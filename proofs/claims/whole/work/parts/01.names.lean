/-! Names and tables, by a program of ours out of the claim's texts. -/
def gd_all : List Cond := lw_tbl.filter goodWord
def gd_nest (x : Cond) : Bool := match x with
  | .fieldLinkNest .. => true
  | .methodLinkNest .. => true
  | _ => false
def gd_nw : List Cond := tables_1.filter gd_nest
theorem gd_good : GoodIn gd_all gd_all := fun w hw => ⟨hw, good_of_word (List.mem_filter.mp hw).2⟩
theorem gd_nest_on {x : Cond} (h : gd_nest x = true) : x.onTables = true := by
  cases x <;> first | rfl | (simp [gd_nest] at h)
theorem gd_nwk : ∀ x ∈ gd_nw, gd_nest x = true ∧ x.onTables = true := fun x hx => ⟨(List.mem_filter.mp hx).2, gd_nest_on (List.mem_filter.mp hx).2⟩
set_option maxRecDepth 100000 in
theorem gd_in (i : Nat) {w : Cond} (h : tables_1[i]? = some w) (hg : goodWord w = true) : w ∈ gd_all := List.mem_filter.mpr ⟨List.mem_append_right _ (List.mem_of_getElem? h), hg⟩
set_option maxRecDepth 100000 in
theorem gd_ins (i : Nat) {w : Cond} (h : (k2_sels lw_privs)[i]? = some w) (hg : goodWord w = true) : w ∈ gd_all := List.mem_filter.mpr ⟨List.mem_append_left _ (List.mem_of_getElem? h), hg⟩
set_option maxRecDepth 100000 in
theorem gd_inn (i : Nat) {w : Cond} (h : tables_1[i]? = some w) (hg : gd_nest w = true) : w ∈ gd_nw := List.mem_filter.mpr ⟨List.mem_of_getElem? h, hg⟩
abbrev R_D : String := "GuardedDrops$Droplet"
abbrev R_L : String := "GuardedDrops$Living"
abbrev R_R : String := "GuardedDrops$Readings"
abbrev R_F : String := "GuardedDrops$WayFinder"
abbrev R_G : String := "GuardedDrops"
abbrev R_M : String := "GuardedDropsModel"
abbrev R_S : String := "GuardedDrops$Grid"
abbrev R_A : String := "GuardedDropsLaw"
abbrev R_J : String := "java/util/Arrays"
abbrev R_K : String := "java/lang/Math"
def T_D : u_T := fun k => match k with
  | 0 => ("GuardedDrops$Droplet", "moves", "[I", true)
  | 1 => ("GuardedDrops$Droplet", "numerators", "[J", true)
  | 2 => ("GuardedDrops$Droplet", "number", "I", false)
  | 3 => ("GuardedDrops$Droplet", "place", "I", false)
  | 4 => ("GuardedDrops$Droplet", "volume", "I", false)
  | 5 => ("GuardedDrops$Droplet", "exponent", "I", false)
  | 6 => ("GuardedDrops$Droplet", "length", "I", false)
  | 7 => ("GuardedDrops$Droplet", "done", "I", false)
  | 8 => ("GuardedDrops$Droplet", "into", "I", false)
  | 9 => ("GuardedDrops$Droplet", "awaits", "I", false)
  | _ => ("GuardedDrops$Droplet", "moved", "Z", false)
def ty_D : Nat → FieldType := fun k => match k with
  | 0 => .array .int
  | 1 => .array (.long)
  | 2 => .int
  | 3 => .int
  | 4 => .int
  | 5 => .int
  | 6 => .int
  | 7 => .int
  | 8 => .int
  | 9 => .int
  | _ => .boolean
def T_L : u_T := fun k => match k with
  | 0 => ("GuardedDrops$Living", "list", "[LGuardedDrops$Droplet;", true)
  | 1 => ("GuardedDrops$Living", "count", "I", false)
  | _ => ("GuardedDrops$Living", "made", "I", false)
def ty_L : Nat → FieldType := fun k => match k with
  | 0 => .array (.object "GuardedDrops$Droplet")
  | 1 => .int
  | _ => .int
def T_R : u_T := fun k => match k with
  | 0 => ("GuardedDrops$Readings", "rows", "[I", true)
  | 1 => ("GuardedDrops$Readings", "oldest", "I", false)
  | _ => ("GuardedDrops$Readings", "count", "I", false)
def ty_R : Nat → FieldType := fun k => match k with
  | 0 => .array .int
  | 1 => .int
  | _ => .int
def T_F : u_T := fun k => match k with
  | 0 => ("GuardedDrops$WayFinder", "taken", "[J", true)
  | _ => ("GuardedDrops$WayFinder", "reached", "[J", true)
def ty_F : Nat → FieldType := fun k => match k with
  | 0 => .array (.long)
  | _ => .array (.long)
def T_G : u_T := fun k => match k with
  | 0 => ("GuardedDrops", "kinds", "[I", true)
  | 1 => ("GuardedDrops", "living", "LGuardedDrops$Living;", true)
  | 2 => ("GuardedDrops", "ways", "LGuardedDrops$WayFinder;", true)
  | 3 => ("GuardedDrops", "readings", "LGuardedDrops$Readings;", true)
  | 4 => ("GuardedDrops", "dead", "J", false)
  | 5 => ("GuardedDrops", "now", "I", false)
  | 6 => ("GuardedDrops", "letOut", "I", false)
  | _ => ("GuardedDrops", "thrownAway", "I", false)
def ty_G : Nat → FieldType := fun k => match k with
  | 0 => .array .int
  | 1 => .object "GuardedDrops$Living"
  | 2 => .object "GuardedDrops$WayFinder"
  | 3 => .object "GuardedDrops$Readings"
  | 4 => .long
  | 5 => .int
  | 6 => .int
  | _ => .int
def T_M : u_T := fun k => match k with
  | 0 => ("GuardedDropsModel", "code", "I", false)
  | 1 => ("GuardedDropsModel", "time", "I", false)
  | 2 => ("GuardedDropsModel", "kinds", "[I", true)
  | 3 => ("GuardedDropsModel", "made", "I", false)
  | 4 => ("GuardedDropsModel", "units", "[I", true)
  | 5 => ("GuardedDropsModel", "cells", "[I", true)
  | 6 => ("GuardedDropsModel", "shares", "[J", true)
  | 7 => ("GuardedDropsModel", "powers", "[I", true)
  | 8 => ("GuardedDropsModel", "routes", "[I", true)
  | 9 => ("GuardedDropsModel", "lengths", "[I", true)
  | 10 => ("GuardedDropsModel", "gone", "[I", true)
  | 11 => ("GuardedDropsModel", "into", "[I", true)
  | 12 => ("GuardedDropsModel", "out", "I", false)
  | 13 => ("GuardedDropsModel", "thrownAway", "I", false)
  | 14 => ("GuardedDropsModel", "readings", "I", false)
  | 15 => ("GuardedDropsModel", "readDrops", "[I", true)
  | 16 => ("GuardedDropsModel", "readTimes", "[I", true)
  | 17 => ("GuardedDropsModel", "readCells", "[I", true)
  | 18 => ("GuardedDropsModel", "readUnits", "[I", true)
  | 19 => ("GuardedDropsModel", "others", "I", false)
  | 20 => ("GuardedDropsModel", "table", "[I", true)
  | 21 => ("GuardedDropsModel", "reach", "[Z", true)
  | _ => ("GuardedDropsModel", "leads", "[Z", true)
def ty_M : Nat → FieldType := fun k => match k with
  | 0 => .int
  | 1 => .int
  | 2 => .array .int
  | 3 => .int
  | 4 => .array .int
  | 5 => .array .int
  | 6 => .array (.long)
  | 7 => .array .int
  | 8 => .array .int
  | 9 => .array .int
  | 10 => .array .int
  | 11 => .array .int
  | 12 => .int
  | 13 => .int
  | 14 => .int
  | 15 => .array .int
  | 16 => .array .int
  | 17 => .array .int
  | 18 => .array .int
  | 19 => .int
  | 20 => .array .int
  | 21 => .array (.boolean)
  | _ => .array (.boolean)
abbrev gd_cl : List vw_C := [(R_D, T_D, 11), (R_L, T_L, 3), (R_R, T_R, 3), (R_F, T_F, 2), (R_G, T_G, 8), (R_M, T_M, 23)]
def gd_ft (ci : Nat) : List FieldType := match ci with
  | 0 => [.array .int, .array (.long), .int, .int, .int, .int, .int, .int, .int, .int, .boolean]
  | 1 => [.array (.object "GuardedDrops$Droplet"), .int, .int]
  | 2 => [.array .int, .int, .int]
  | 3 => [.array (.long), .array (.long)]
  | 4 => [.array .int, .object "GuardedDrops$Living", .object "GuardedDrops$WayFinder", .object "GuardedDrops$Readings", .long, .int, .int, .int]
  | 5 => [.int, .int, .array .int, .int, .array .int, .array .int, .array (.long), .array .int, .array .int, .array .int, .array .int, .array .int, .int, .int, .int, .array .int, .array .int, .array .int, .array .int, .int, .array .int, .array (.boolean), .array (.boolean)]
  | _ => []
abbrev gd_S : Type := Nat ⊕ (FieldType × Nat)
def gd_shl : List gd_S := [.inl 4, .inr (.int, 64), .inl 1, .inr (.object "GuardedDrops$Droplet", 6), .inl 0, .inr (.int, 60), .inr (.long, 4), .inl 0, .inr (.int, 60), .inr (.long, 4), .inl 0, .inr (.int, 60), .inr (.long, 4), .inl 0, .inr (.int, 60), .inr (.long, 4), .inl 0, .inr (.int, 60), .inr (.long, 4), .inl 0, .inr (.int, 60), .inr (.long, 4), .inl 3, .inr (.long, 61), .inr (.long, 61), .inl 2, .inr (.int, 200), .inl 5, .inr (.int, 64), .inr (.int, 60), .inr (.int, 60), .inr (.long, 240), .inr (.int, 60), .inr (.int, 3600), .inr (.int, 60), .inr (.int, 60), .inr (.int, 60), .inr (.int, 50), .inr (.int, 50), .inr (.int, 50), .inr (.int, 50), .inr (.int, 384), .inr (.boolean, 3904), .inr (.boolean, 3904), .inr (.long, 1)]
def gd_sh (k : Nat) : gd_S := gd_shl.getD k (.inr (.int, 0))
-- the references that objects hold: they never change
def gd_fxl : List (List Nat) := [[1, 2, 22, 25], [], [3], [], [5, 6], [], [], [8, 9], [], [], [11, 12], [], [], [14, 15], [], [], [17, 18], [], [], [20, 21], [], [], [23, 24], [], [], [26], [], [0, 0, 28, 0, 29, 30, 31, 32, 33, 34, 35, 36, 0, 0, 0, 37, 38, 39, 40, 0, 41, 42, 43], [], [], [], [], [], [], [], [], [], [], [], [], [], [], [], [], []]
def gd_fix (k j : Nat) : Option Nat := (gd_fxl.getD k [])[j]?
abbrev c_A_discard : ByteArray := method_7_code
def y_A_discard : MethodName := ⟨R_A, "discard", "(LGuardedDrops;I[J)I"⟩
abbrev c_A_dispense : ByteArray := method_3_code
def y_A_dispense : MethodName := ⟨R_A, "dispense", "(LGuardedDrops;I[J)I"⟩
abbrev c_A_halve : ByteArray := method_6_code
def y_A_halve : MethodName := ⟨R_A, "halve", "(LGuardedDrops;IZ[J)I"⟩
abbrev c_A_join : ByteArray := method_5_code
def y_A_join : MethodName := ⟨R_A, "join", "(LGuardedDrops;II[J)I"⟩
abbrev c_A_law : ByteArray := code
def y_A_law : MethodName := ⟨R_A, "law", "([I)Z"⟩
abbrev c_A_look : ByteArray := method_9_code
def y_A_look : MethodName := ⟨R_A, "look", "(LGuardedDrops;II[J)I"⟩
abbrev c_A_reading : ByteArray := method_11_code
def y_A_reading : MethodName := ⟨R_A, "reading", "(LGuardedDrops;II[J)I"⟩
abbrev c_A_run : ByteArray := method_8_code
def y_A_run : MethodName := ⟨R_A, "run", "(LGuardedDrops;I[J)I"⟩
abbrev c_A_send : ByteArray := method_4_code
def y_A_send : MethodName := ⟨R_A, "send", "(LGuardedDrops;III[J)I"⟩
abbrev c_A_share : ByteArray := method_10_code
def y_A_share : MethodName := ⟨R_A, "share", "(LGuardedDrops;II[J)I"⟩
abbrev c_D_allEven : ByteArray := prog_2_method_12_code
def y_D_allEven : MethodName := ⟨R_D, "allEven", "()Z"⟩
abbrev c_D_comeToBe : ByteArray := prog_2_method_2_code
def y_D_comeToBe : MethodName := ⟨R_D, "comeToBe", "(II)V"⟩
abbrev c_D_fillLike : ByteArray := prog_2_method_4_code
def y_D_fillLike : MethodName := ⟨R_D, "fillLike", "(LGuardedDrops$Droplet;)V"⟩
abbrev c_D_fillWith : ByteArray := prog_2_method_3_code
def y_D_fillWith : MethodName := ⟨R_D, "fillWith", "(I)V"⟩
abbrev c_D_init : ByteArray := prog_2_method_1_code
def y_D_init : MethodName := ⟨R_D, "<init>", "()V"⟩
abbrev c_D_isFree : ByteArray := prog_2_method_5_code
def y_D_isFree : MethodName := ⟨R_D, "isFree", "()Z"⟩
abbrev c_D_lowerExponent : ByteArray := prog_2_method_11_code
def y_D_lowerExponent : MethodName := ⟨R_D, "lowerExponent", "()V"⟩
abbrev c_D_makeMove : ByteArray := prog_2_method_8_code
def y_D_makeMove : MethodName := ⟨R_D, "makeMove", "()V"⟩
abbrev c_D_movesLeft : ByteArray := prog_2_method_6_code
def y_D_movesLeft : MethodName := ⟨R_D, "movesLeft", "()I"⟩
abbrev c_D_placeAfter : ByteArray := prog_2_method_9_code
def y_D_placeAfter : MethodName := ⟨R_D, "placeAfter", "(I)I"⟩
abbrev c_D_takeIn : ByteArray := prog_2_method_10_code
def y_D_takeIn : MethodName := ⟨R_D, "takeIn", "(LGuardedDrops$Droplet;)V"⟩
abbrev c_D_takeRoute : ByteArray := prog_2_method_7_code
def y_D_takeRoute : MethodName := ⟨R_D, "takeRoute", "(I)V"⟩
abbrev c_F_clearFrom : ByteArray := prog_6_method_6_code
def y_F_clearFrom : MethodName := ⟨R_F, "clearFrom", "(I)I"⟩
abbrev c_F_everShut : ByteArray := prog_6_method_5_code
def y_F_everShut : MethodName := ⟨R_F, "everShut", "()J"⟩
abbrev c_F_forget : ByteArray := prog_6_method_2_code
def y_F_forget : MethodName := ⟨R_F, "forget", "()V"⟩
abbrev c_F_heed : ByteArray := prog_6_method_3_code
def y_F_heed : MethodName := ⟨R_F, "heed", "(LGuardedDrops$Droplet;)V"⟩
abbrev c_F_init : ByteArray := prog_6_method_1_code
def y_F_init : MethodName := ⟨R_F, "<init>", "()V"⟩
abbrev c_F_leastMove : ByteArray := prog_6_method_9_code
def y_F_leastMove : MethodName := ⟨R_F, "leastMove", "(IJ)I"⟩
abbrev c_F_search : ByteArray := prog_6_method_7_code
def y_F_search : MethodName := ⟨R_F, "search", "(IIJI)I"⟩
abbrev c_F_shutAt : ByteArray := prog_6_method_4_code
def y_F_shutAt : MethodName := ⟨R_F, "shutAt", "(I)J"⟩
abbrev c_F_trace : ByteArray := prog_6_method_8_code
def y_F_trace : MethodName := ⟨R_F, "trace", "(LGuardedDrops$Droplet;II)V"⟩
abbrev c_G_ahead : ByteArray := prog_1_method_12_code
def y_G_ahead : MethodName := ⟨R_G, "ahead", "(II)I"⟩
abbrev c_G_cell : ByteArray := prog_1_method_2_code
def y_G_cell : MethodName := ⟨R_G, "cell", "(III)Z"⟩
abbrev c_G_clearSource : ByteArray := prog_1_method_17_code
def y_G_clearSource : MethodName := ⟨R_G, "clearSource", "(I)I"⟩
abbrev c_G_discard : ByteArray := prog_1_method_7_code
def y_G_discard : MethodName := ⟨R_G, "discard", "(I)I"⟩
abbrev c_G_dispense : ByteArray := prog_1_method_3_code
def y_G_dispense : MethodName := ⟨R_G, "dispense", "(I)I"⟩
abbrev c_G_droplets : ByteArray := prog_1_method_10_code
def y_G_droplets : MethodName := ⟨R_G, "droplets", "()I"⟩
abbrev c_G_halve : ByteArray := prog_1_method_6_code
def y_G_halve : MethodName := ⟨R_G, "halve", "(IZ)I"⟩
abbrev c_G_heedAllBut : ByteArray := prog_1_method_19_code
def y_G_heedAllBut : MethodName := ⟨R_G, "heedAllBut", "(LGuardedDrops$Droplet;LGuardedDrops$Droplet;)V"⟩
abbrev c_G_init : ByteArray := prog_1_method_1_code
def y_G_init : MethodName := ⟨R_G, "<init>", "()V"⟩
abbrev c_G_isOpen : ByteArray := prog_1_method_18_code
def y_G_isOpen : MethodName := ⟨R_G, "isOpen", "(IJ)Z"⟩
abbrev c_G_join : ByteArray := prog_1_method_5_code
def y_G_join : MethodName := ⟨R_G, "join", "(II)I"⟩
abbrev c_G_joinArrived : ByteArray := prog_1_method_22_code
def y_G_joinArrived : MethodName := ⟨R_G, "joinArrived", "()V"⟩
abbrev c_G_kind : ByteArray := prog_1_method_16_code
def y_G_kind : MethodName := ⟨R_G, "kind", "(II)I"⟩
abbrev c_G_look : ByteArray := prog_1_method_11_code
def y_G_look : MethodName := ⟨R_G, "look", "(II)I"⟩
abbrev c_G_moveAll : ByteArray := prog_1_method_21_code
def y_G_moveAll : MethodName := ⟨R_G, "moveAll", "()V"⟩
abbrev c_G_readMoved : ByteArray := prog_1_method_23_code
def y_G_readMoved : MethodName := ⟨R_G, "readMoved", "()I"⟩
abbrev c_G_reading : ByteArray := prog_1_method_14_code
def y_G_reading : MethodName := ⟨R_G, "reading", "(II)I"⟩
abbrev c_G_run : ByteArray := prog_1_method_8_code
def y_G_run : MethodName := ⟨R_G, "run", "(I)I"⟩
abbrev c_G_send : ByteArray := prog_1_method_4_code
def y_G_send : MethodName := ⟨R_G, "send", "(III)I"⟩
abbrev c_G_share : ByteArray := prog_1_method_13_code
def y_G_share : MethodName := ⟨R_G, "share", "(II)J"⟩
abbrev c_G_splitUp : ByteArray := prog_1_method_20_code
def y_G_splitUp : MethodName := ⟨R_G, "splitUp", "(LGuardedDrops$Droplet;II)I"⟩
abbrev c_G_time : ByteArray := prog_1_method_9_code
def y_G_time : MethodName := ⟨R_G, "time", "()I"⟩
abbrev c_G_units : ByteArray := prog_1_method_15_code
def y_G_units : MethodName := ⟨R_G, "units", "(I)I"⟩
abbrev c_J_fill : ByteArray := prog_18_method_101_code
def y_J_fill : MethodName := ⟨R_J, "fill", "([JJ)V"⟩
abbrev c_K_max : ByteArray := prog_13_method_65_code
def y_K_max : MethodName := ⟨R_K, "max", "(II)I"⟩
abbrev c_L_add : ByteArray := prog_4_method_3_code
def y_L_add : MethodName := ⟨R_L, "add", "(I)LGuardedDrops$Droplet;"⟩
abbrev c_L_find : ByteArray := prog_4_method_2_code
def y_L_find : MethodName := ⟨R_L, "find", "(I)LGuardedDrops$Droplet;"⟩
abbrev c_L_init : ByteArray := prog_4_method_1_code
def y_L_init : MethodName := ⟨R_L, "<init>", "()V"⟩
abbrev c_L_remove : ByteArray := prog_4_method_4_code
def y_L_remove : MethodName := ⟨R_L, "remove", "(LGuardedDrops$Droplet;)V"⟩
abbrev c_M_add : ByteArray := prog_8_method_22_code
def y_M_add : MethodName := ⟨R_M, "add", "(II)I"⟩
abbrev c_M_ahead : ByteArray := prog_8_method_35_code
def y_M_ahead : MethodName := ⟨R_M, "ahead", "(II)I"⟩
abbrev c_M_areNear : ByteArray := prog_8_method_4_code
def y_M_areNear : MethodName := ⟨R_M, "areNear", "(II)Z"⟩
abbrev c_M_canBe : ByteArray := prog_8_method_17_code
def y_M_canBe : MethodName := ⟨R_M, "canBe", "(II)Z"⟩
abbrev c_M_canEnd : ByteArray := prog_8_method_18_code
def y_M_canEnd : MethodName := ⟨R_M, "canEnd", "(IIZ)Z"⟩
abbrev c_M_canRest : ByteArray := prog_8_method_16_code
def y_M_canRest : MethodName := ⟨R_M, "canRest", "(II)Z"⟩
abbrev c_M_cell : ByteArray := prog_8_method_7_code
def y_M_cell : MethodName := ⟨R_M, "cell", "(III)Z"⟩
abbrev c_M_comer : ByteArray := prog_8_method_10_code
def y_M_comer : MethodName := ⟨R_M, "comer", "(I)I"⟩
abbrev c_M_count : ByteArray := prog_8_method_6_code
def y_M_count : MethodName := ⟨R_M, "count", "()I"⟩
abbrev c_M_discard : ByteArray := prog_8_method_27_code
def y_M_discard : MethodName := ⟨R_M, "discard", "(I)I"⟩
abbrev c_M_dispense : ByteArray := prog_8_method_23_code
def y_M_dispense : MethodName := ⟨R_M, "dispense", "(I)I"⟩
abbrev c_M_droplets : ByteArray := prog_8_method_33_code
def y_M_droplets : MethodName := ⟨R_M, "droplets", "()I"⟩
abbrev c_M_foresee : ByteArray := prog_8_method_14_code
def y_M_foresee : MethodName := ⟨R_M, "foresee", "(II)V"⟩
abbrev c_M_halve : ByteArray := prog_8_method_26_code
def y_M_halve : MethodName := ⟨R_M, "halve", "(IZ)I"⟩
abbrev c_M_init : ByteArray := prog_8_method_1_code
def y_M_init : MethodName := ⟨R_M, "<init>", "()V"⟩
abbrev c_M_isCell : ByteArray := prog_8_method_3_code
def y_M_isCell : MethodName := ⟨R_M, "isCell", "(II)Z"⟩
abbrev c_M_isDrop : ByteArray := prog_8_method_9_code
def y_M_isDrop : MethodName := ⟨R_M, "isDrop", "(I)Z"⟩
abbrev c_M_isFree : ByteArray := prog_8_method_12_code
def y_M_isFree : MethodName := ⟨R_M, "isFree", "(I)Z"⟩
abbrev c_M_isMet : ByteArray := prog_8_method_15_code
def y_M_isMet : MethodName := ⟨R_M, "isMet", "(II)Z"⟩
abbrev c_M_isNext : ByteArray := prog_8_method_19_code
def y_M_isNext : MethodName := ⟨R_M, "isNext", "(II)Z"⟩
abbrev c_M_join : ByteArray := prog_8_method_25_code
def y_M_join : MethodName := ⟨R_M, "join", "(II)I"⟩
abbrev c_M_kind : ByteArray := prog_8_method_8_code
def y_M_kind : MethodName := ⟨R_M, "kind", "(II)I"⟩
abbrev c_M_lay : ByteArray := prog_8_method_21_code
def y_M_lay : MethodName := ⟨R_M, "lay", "(IIZ)I"⟩
abbrev c_M_left : ByteArray := prog_8_method_11_code
def y_M_left : MethodName := ⟨R_M, "left", "(I)I"⟩
abbrev c_M_look : ByteArray := prog_8_method_34_code
def y_M_look : MethodName := ⟨R_M, "look", "(II)I"⟩
abbrev c_M_moved : ByteArray := prog_8_method_5_code
def y_M_moved : MethodName := ⟨R_M, "moved", "(II)I"⟩
abbrev c_M_placeAfter : ByteArray := prog_8_method_13_code
def y_M_placeAfter : MethodName := ⟨R_M, "placeAfter", "(II)I"⟩
abbrev c_M_read : ByteArray := prog_8_method_29_code
def y_M_read : MethodName := ⟨R_M, "read", "(I)V"⟩
abbrev c_M_reading : ByteArray := prog_8_method_37_code
def y_M_reading : MethodName := ⟨R_M, "reading", "(II)I"⟩
abbrev c_M_run : ByteArray := prog_8_method_31_code
def y_M_run : MethodName := ⟨R_M, "run", "(I)I"⟩
abbrev c_M_send : ByteArray := prog_8_method_24_code
def y_M_send : MethodName := ⟨R_M, "send", "(III)I"⟩
abbrev c_M_share : ByteArray := prog_8_method_36_code
def y_M_share : MethodName := ⟨R_M, "share", "(II)J"⟩
abbrev c_M_spread : ByteArray := prog_8_method_20_code
def y_M_spread : MethodName := ⟨R_M, "spread", "(IIZ)I"⟩
abbrev c_M_step : ByteArray := prog_8_method_30_code
def y_M_step : MethodName := ⟨R_M, "step", "()I"⟩
abbrev c_M_thrown : ByteArray := prog_8_method_2_code
def y_M_thrown : MethodName := ⟨R_M, "thrown", "()I"⟩
abbrev c_M_time : ByteArray := prog_8_method_32_code
def y_M_time : MethodName := ⟨R_M, "time", "()I"⟩
abbrev c_M_unite : ByteArray := prog_8_method_28_code
def y_M_unite : MethodName := ⟨R_M, "unite", "(II)V"⟩
abbrev c_M_units : ByteArray := prog_8_method_38_code
def y_M_units : MethodName := ⟨R_M, "units", "(I)I"⟩
abbrev c_R_add : ByteArray := prog_5_method_2_code
def y_R_add : MethodName := ⟨R_R, "add", "(LGuardedDrops$Droplet;I)V"⟩
abbrev c_R_get : ByteArray := prog_5_method_4_code
def y_R_get : MethodName := ⟨R_R, "get", "(II)I"⟩
abbrev c_R_has : ByteArray := prog_5_method_3_code
def y_R_has : MethodName := ⟨R_R, "has", "(II)Z"⟩
abbrev c_R_init : ByteArray := prog_5_method_1_code
def y_R_init : MethodName := ⟨R_R, "<init>", "()V"⟩
abbrev c_S_after : ByteArray := prog_3_method_5_code
def y_S_after : MethodName := ⟨R_S, "after", "(II)I"⟩
abbrev c_S_at : ByteArray := prog_3_method_3_code
def y_S_at : MethodName := ⟨R_S, "at", "(II)I"⟩
abbrev c_S_has : ByteArray := prog_3_method_2_code
def y_S_has : MethodName := ⟨R_S, "has", "(II)Z"⟩
abbrev c_S_near : ByteArray := prog_3_method_7_code
def y_S_near : MethodName := ⟨R_S, "near", "(J)J"⟩
abbrev c_S_oneMoveFrom : ByteArray := prog_3_method_6_code
def y_S_oneMoveFrom : MethodName := ⟨R_S, "oneMoveFrom", "(J)J"⟩
abbrev c_S_only : ByteArray := prog_3_method_4_code
def y_S_only : MethodName := ⟨R_S, "only", "(I)J"⟩
abbrev c_S_sideways : ByteArray := prog_3_method_9_code
def y_S_sideways : MethodName := ⟨R_S, "sideways", "(J)J"⟩
abbrev c_S_upAndDown : ByteArray := prog_3_method_8_code
def y_S_upAndDown : MethodName := ⟨R_S, "upAndDown", "(J)J"⟩
def gd_cf (ci : Nat) (C : String) (T : u_T) (N : Nat) : Prop := gd_cl[ci]? = some (C, T, N) ∧ (∀ w ∈ u_ws C T N, w ∈ gd_all) ∧ (∃ ty0 : Nat → FieldType, (∀ k, k < N → parseFieldDescriptor (T k).2.2.1 = some (ty0 k)) ∧ ∀ k, k < N → (gd_ft ci)[k]? = some (ty0 k)) ∧ (∀ a, a < N → ∀ b, b < N → a ≠ b → (T a).2.1 ≠ (T b).2.1)
def gd_lk (own : String) (x : Nat) (q : String × String × String × Bool) : Prop := Cond.fieldLink own x q.1 q.2.1 q.2.2.1 ∈ gd_all ∨ ∃ host, Cond.fieldLinkNest own x q.1 q.2.1 q.2.2.1 host ∈ gd_nw
theorem gd_uws {C : String} {T : u_T} {N : Nat} (h : ∀ k, k < N → u_lay C T k ∈ gd_all) : ∀ w ∈ u_ws C T N, w ∈ gd_all := by
  intro w hw
  obtain ⟨k, hk, rfl⟩ := List.mem_map.mp hw
  exact h k (List.mem_range.mp hk)
set_option maxRecDepth 100000 in
theorem ul_D_0 : u_lay R_D T_D 0 ∈ gd_all := gd_in 66 rfl rfl
set_option maxRecDepth 100000 in
theorem ul_D_1 : u_lay R_D T_D 1 ∈ gd_all := gd_in 68 rfl rfl
set_option maxRecDepth 100000 in
theorem ul_D_2 : u_lay R_D T_D 2 ∈ gd_all := gd_in 70 rfl rfl
set_option maxRecDepth 100000 in
theorem ul_D_3 : u_lay R_D T_D 3 ∈ gd_all := gd_in 72 rfl rfl
set_option maxRecDepth 100000 in
theorem ul_D_4 : u_lay R_D T_D 4 ∈ gd_all := gd_in 74 rfl rfl
set_option maxRecDepth 100000 in
theorem ul_D_5 : u_lay R_D T_D 5 ∈ gd_all := gd_in 76 rfl rfl
set_option maxRecDepth 100000 in
theorem ul_D_6 : u_lay R_D T_D 6 ∈ gd_all := gd_in 78 rfl rfl
set_option maxRecDepth 100000 in
theorem ul_D_7 : u_lay R_D T_D 7 ∈ gd_all := gd_in 80 rfl rfl
set_option maxRecDepth 100000 in
theorem ul_D_8 : u_lay R_D T_D 8 ∈ gd_all := gd_in 82 rfl rfl
set_option maxRecDepth 100000 in
theorem ul_D_9 : u_lay R_D T_D 9 ∈ gd_all := gd_in 84 rfl rfl
set_option maxRecDepth 100000 in
theorem ul_D_10 : u_lay R_D T_D 10 ∈ gd_all := gd_in 86 rfl rfl
set_option maxRecDepth 100000 in
theorem cf_D : gd_cf 0 R_D T_D 11 := by
  refine ⟨rfl, gd_uws fun k hk => ?_, ⟨ty_D, by decide +kernel, by decide +kernel⟩, by decide +kernel⟩
  rcases (by omega : k = 0 ∨ k = 1 ∨ k = 2 ∨ k = 3 ∨ k = 4 ∨ k = 5 ∨ k = 6 ∨ k = 7 ∨ k = 8 ∨ k = 9 ∨ k = 10) with rfl | rfl | rfl | rfl | rfl | rfl | rfl | rfl | rfl | rfl | rfl
  · exact ul_D_0
  · exact ul_D_1
  · exact ul_D_2
  · exact ul_D_3
  · exact ul_D_4
  · exact ul_D_5
  · exact ul_D_6
  · exact ul_D_7
  · exact ul_D_8
  · exact ul_D_9
  · exact ul_D_10
set_option maxRecDepth 100000 in
theorem ul_L_0 : u_lay R_L T_L 0 ∈ gd_all := gd_in 97 rfl rfl
set_option maxRecDepth 100000 in
theorem ul_L_1 : u_lay R_L T_L 1 ∈ gd_all := gd_in 99 rfl rfl
set_option maxRecDepth 100000 in
theorem ul_L_2 : u_lay R_L T_L 2 ∈ gd_all := gd_in 101 rfl rfl
set_option maxRecDepth 100000 in
theorem cf_L : gd_cf 1 R_L T_L 3 := by
  refine ⟨rfl, gd_uws fun k hk => ?_, ⟨ty_L, by decide +kernel, by decide +kernel⟩, by decide +kernel⟩
  rcases (by omega : k = 0 ∨ k = 1 ∨ k = 2) with rfl | rfl | rfl
  · exact ul_L_0
  · exact ul_L_1
  · exact ul_L_2
set_option maxRecDepth 100000 in
theorem ul_R_0 : u_lay R_R T_R 0 ∈ gd_all := gd_in 126 rfl rfl
set_option maxRecDepth 100000 in
theorem ul_R_1 : u_lay R_R T_R 1 ∈ gd_all := gd_in 128 rfl rfl
set_option maxRecDepth 100000 in
theorem ul_R_2 : u_lay R_R T_R 2 ∈ gd_all := gd_in 130 rfl rfl
set_option maxRecDepth 100000 in
theorem cf_R : gd_cf 2 R_R T_R 3 := by
  refine ⟨rfl, gd_uws fun k hk => ?_, ⟨ty_R, by decide +kernel, by decide +kernel⟩, by decide +kernel⟩
  rcases (by omega : k = 0 ∨ k = 1 ∨ k = 2) with rfl | rfl | rfl
  · exact ul_R_0
  · exact ul_R_1
  · exact ul_R_2
set_option maxRecDepth 100000 in
theorem ul_F_0 : u_lay R_F T_F 0 ∈ gd_all := gd_in 112 rfl rfl
set_option maxRecDepth 100000 in
theorem ul_F_1 : u_lay R_F T_F 1 ∈ gd_all := gd_in 114 rfl rfl
set_option maxRecDepth 100000 in
theorem cf_F : gd_cf 3 R_F T_F 2 := by
  refine ⟨rfl, gd_uws fun k hk => ?_, ⟨ty_F, by decide +kernel, by decide +kernel⟩, by decide +kernel⟩
  rcases (by omega : k = 0 ∨ k = 1) with rfl | rfl
  · exact ul_F_0
  · exact ul_F_1
set_option maxRecDepth 100000 in
theorem ul_G_0 : u_lay R_G T_G 0 ∈ gd_all := gd_in 141 rfl rfl
set_option maxRecDepth 100000 in
theorem ul_G_1 : u_lay R_G T_G 1 ∈ gd_all := gd_in 143 rfl rfl
set_option maxRecDepth 100000 in
theorem ul_G_2 : u_lay R_G T_G 2 ∈ gd_all := gd_in 145 rfl rfl
set_option maxRecDepth 100000 in
theorem ul_G_3 : u_lay R_G T_G 3 ∈ gd_all := gd_in 147 rfl rfl
set_option maxRecDepth 100000 in
theorem ul_G_4 : u_lay R_G T_G 4 ∈ gd_all := gd_in 149 rfl rfl
set_option maxRecDepth 100000 in
theorem ul_G_5 : u_lay R_G T_G 5 ∈ gd_all := gd_in 151 rfl rfl
set_option maxRecDepth 100000 in
theorem ul_G_6 : u_lay R_G T_G 6 ∈ gd_all := gd_in 153 rfl rfl
set_option maxRecDepth 100000 in
theorem ul_G_7 : u_lay R_G T_G 7 ∈ gd_all := gd_in 155 rfl rfl
set_option maxRecDepth 100000 in
theorem cf_G : gd_cf 4 R_G T_G 8 := by
  refine ⟨rfl, gd_uws fun k hk => ?_, ⟨ty_G, by decide +kernel, by decide +kernel⟩, by decide +kernel⟩
  rcases (by omega : k = 0 ∨ k = 1 ∨ k = 2 ∨ k = 3 ∨ k = 4 ∨ k = 5 ∨ k = 6 ∨ k = 7) with rfl | rfl | rfl | rfl | rfl | rfl | rfl | rfl
  · exact ul_G_0
  · exact ul_G_1
  · exact ul_G_2
  · exact ul_G_3
  · exact ul_G_4
  · exact ul_G_5
  · exact ul_G_6
  · exact ul_G_7
set_option maxRecDepth 100000 in
theorem ul_M_0 : u_lay R_M T_M 0 ∈ gd_all := gd_in 578 rfl rfl
set_option maxRecDepth 100000 in
theorem ul_M_1 : u_lay R_M T_M 1 ∈ gd_all := gd_in 580 rfl rfl
set_option maxRecDepth 100000 in
theorem ul_M_2 : u_lay R_M T_M 2 ∈ gd_all := gd_in 582 rfl rfl
set_option maxRecDepth 100000 in
theorem ul_M_3 : u_lay R_M T_M 3 ∈ gd_all := gd_in 584 rfl rfl
set_option maxRecDepth 100000 in
theorem ul_M_4 : u_lay R_M T_M 4 ∈ gd_all := gd_in 586 rfl rfl
set_option maxRecDepth 100000 in
theorem ul_M_5 : u_lay R_M T_M 5 ∈ gd_all := gd_in 588 rfl rfl
set_option maxRecDepth 100000 in
theorem ul_M_6 : u_lay R_M T_M 6 ∈ gd_all := gd_in 590 rfl rfl
set_option maxRecDepth 100000 in
theorem ul_M_7 : u_lay R_M T_M 7 ∈ gd_all := gd_in 592 rfl rfl
set_option maxRecDepth 100000 in
theorem ul_M_8 : u_lay R_M T_M 8 ∈ gd_all := gd_in 594 rfl rfl
set_option maxRecDepth 100000 in
theorem ul_M_9 : u_lay R_M T_M 9 ∈ gd_all := gd_in 596 rfl rfl
set_option maxRecDepth 100000 in
theorem ul_M_10 : u_lay R_M T_M 10 ∈ gd_all := gd_in 598 rfl rfl
set_option maxRecDepth 100000 in
theorem ul_M_11 : u_lay R_M T_M 11 ∈ gd_all := gd_in 600 rfl rfl
set_option maxRecDepth 100000 in
theorem ul_M_12 : u_lay R_M T_M 12 ∈ gd_all := gd_in 602 rfl rfl
set_option maxRecDepth 100000 in
theorem ul_M_13 : u_lay R_M T_M 13 ∈ gd_all := gd_in 604 rfl rfl
set_option maxRecDepth 100000 in
theorem ul_M_14 : u_lay R_M T_M 14 ∈ gd_all := gd_in 606 rfl rfl
set_option maxRecDepth 100000 in
theorem ul_M_15 : u_lay R_M T_M 15 ∈ gd_all := gd_in 608 rfl rfl
set_option maxRecDepth 100000 in
theorem ul_M_16 : u_lay R_M T_M 16 ∈ gd_all := gd_in 610 rfl rfl
set_option maxRecDepth 100000 in
theorem ul_M_17 : u_lay R_M T_M 17 ∈ gd_all := gd_in 612 rfl rfl
set_option maxRecDepth 100000 in
theorem ul_M_18 : u_lay R_M T_M 18 ∈ gd_all := gd_in 614 rfl rfl
set_option maxRecDepth 100000 in
theorem ul_M_19 : u_lay R_M T_M 19 ∈ gd_all := gd_in 616 rfl rfl
set_option maxRecDepth 100000 in
theorem ul_M_20 : u_lay R_M T_M 20 ∈ gd_all := gd_in 618 rfl rfl
set_option maxRecDepth 100000 in
theorem ul_M_21 : u_lay R_M T_M 21 ∈ gd_all := gd_in 620 rfl rfl
set_option maxRecDepth 100000 in
theorem ul_M_22 : u_lay R_M T_M 22 ∈ gd_all := gd_in 622 rfl rfl
set_option maxRecDepth 100000 in
theorem cf_M : gd_cf 5 R_M T_M 23 := by
  refine ⟨rfl, gd_uws fun k hk => ?_, ⟨ty_M, by decide +kernel, by decide +kernel⟩, by decide +kernel⟩
  rcases (by omega : k = 0 ∨ k = 1 ∨ k = 2 ∨ k = 3 ∨ k = 4 ∨ k = 5 ∨ k = 6 ∨ k = 7 ∨ k = 8 ∨ k = 9 ∨ k = 10 ∨ k = 11 ∨ k = 12 ∨ k = 13 ∨ k = 14 ∨ k = 15 ∨ k = 16 ∨ k = 17 ∨ k = 18 ∨ k = 19 ∨ k = 20 ∨ k = 21 ∨ k = 22) with rfl | rfl | rfl | rfl | rfl | rfl | rfl | rfl | rfl | rfl | rfl | rfl | rfl | rfl | rfl | rfl | rfl | rfl | rfl | rfl | rfl | rfl | rfl
  · exact ul_M_0
  · exact ul_M_1
  · exact ul_M_2
  · exact ul_M_3
  · exact ul_M_4
  · exact ul_M_5
  · exact ul_M_6
  · exact ul_M_7
  · exact ul_M_8
  · exact ul_M_9
  · exact ul_M_10
  · exact ul_M_11
  · exact ul_M_12
  · exact ul_M_13
  · exact ul_M_14
  · exact ul_M_15
  · exact ul_M_16
  · exact ul_M_17
  · exact ul_M_18
  · exact ul_M_19
  · exact ul_M_20
  · exact ul_M_21
  · exact ul_M_22
abbrev gd_F : Type := List (Nat × Nat × Nat × Bool)
def gd_FB (own : String) (fl : gd_F) : Prop := ∀ q ∈ fl, ∃ (C : String) (T : u_T) (N : Nat), gd_cf q.2.1 C T N ∧ q.2.2.1 < N ∧ gd_lk own q.1 (T q.2.2.1) ∧ (q.2.2.2 = true → (T q.2.2.1).2.2.2 = false)
theorem gd_FB0 {own : String} : gd_FB own [] := fun _ h => nomatch h
theorem gd_FBc {own : String} {q : Nat × Nat × Nat × Bool} {fl : gd_F} (h : ∃ (C : String) (T : u_T) (N : Nat), gd_cf q.2.1 C T N ∧ q.2.2.1 < N ∧ gd_lk own q.1 (T q.2.2.1) ∧ (q.2.2.2 = true → (T q.2.2.1).2.2.2 = false)) (t : gd_FB own fl) : gd_FB own (q :: fl) := fun x hx => (List.mem_cons.mp hx).elim (fun e => e ▸ h) (t x)
set_option maxRecDepth 100000 in
theorem lk_D_44 : gd_lk R_D 44 (T_D 10) := Or.inl (gd_in 64 rfl rfl)
set_option maxRecDepth 100000 in
theorem lk_D_41 : gd_lk R_D 41 (T_D 9) := Or.inl (gd_in 62 rfl rfl)
set_option maxRecDepth 100000 in
theorem lk_D_38 : gd_lk R_D 38 (T_D 8) := Or.inl (gd_in 59 rfl rfl)
set_option maxRecDepth 100000 in
theorem lk_D_35 : gd_lk R_D 35 (T_D 7) := Or.inl (gd_in 57 rfl rfl)
set_option maxRecDepth 100000 in
theorem lk_D_32 : gd_lk R_D 32 (T_D 6) := Or.inl (gd_in 56 rfl rfl)
set_option maxRecDepth 100000 in
theorem lk_D_29 : gd_lk R_D 29 (T_D 5) := Or.inl (gd_in 54 rfl rfl)
set_option maxRecDepth 100000 in
theorem lk_D_26 : gd_lk R_D 26 (T_D 4) := Or.inl (gd_in 51 rfl rfl)
set_option maxRecDepth 100000 in
theorem lk_D_23 : gd_lk R_D 23 (T_D 3) := Or.inl (gd_in 47 rfl rfl)
set_option maxRecDepth 100000 in
theorem lk_D_19 : gd_lk R_D 19 (T_D 2) := Or.inl (gd_in 43 rfl rfl)
set_option maxRecDepth 100000 in
theorem lk_D_15 : gd_lk R_D 15 (T_D 1) := Or.inl (gd_in 41 rfl rfl)
set_option maxRecDepth 100000 in
theorem lk_D_9 : gd_lk R_D 9 (T_D 0) := Or.inl (gd_in 39 rfl rfl)
def fl_D : gd_F := [(9, 0, 0, false), (15, 0, 1, false), (19, 0, 2, true), (23, 0, 3, true), (26, 0, 4, true), (29, 0, 5, true), (32, 0, 6, true), (35, 0, 7, true), (38, 0, 8, true), (41, 0, 9, true), (44, 0, 10, true)]
theorem fb_D : gd_FB R_D fl_D := gd_FBc ⟨R_D, T_D, 11, cf_D, by decide, lk_D_9, fun h => nomatch h⟩ (gd_FBc ⟨R_D, T_D, 11, cf_D, by decide, lk_D_15, fun h => nomatch h⟩ (gd_FBc ⟨R_D, T_D, 11, cf_D, by decide, lk_D_19, fun _ => rfl⟩ (gd_FBc ⟨R_D, T_D, 11, cf_D, by decide, lk_D_23, fun _ => rfl⟩ (gd_FBc ⟨R_D, T_D, 11, cf_D, by decide, lk_D_26, fun _ => rfl⟩ (gd_FBc ⟨R_D, T_D, 11, cf_D, by decide, lk_D_29, fun _ => rfl⟩ (gd_FBc ⟨R_D, T_D, 11, cf_D, by decide, lk_D_32, fun _ => rfl⟩ (gd_FBc ⟨R_D, T_D, 11, cf_D, by decide, lk_D_35, fun _ => rfl⟩ (gd_FBc ⟨R_D, T_D, 11, cf_D, by decide, lk_D_38, fun _ => rfl⟩ (gd_FBc ⟨R_D, T_D, 11, cf_D, by decide, lk_D_41, fun _ => rfl⟩ (gd_FBc ⟨R_D, T_D, 11, cf_D, by decide, lk_D_44, fun _ => rfl⟩ (gd_FB0)))))))))))
set_option maxRecDepth 100000 in
theorem lk_L_25 : gd_lk R_L 25 (T_D 2) := Or.inr ⟨"GuardedDrops", gd_inn 44 rfl rfl⟩
set_option maxRecDepth 100000 in
theorem lk_L_21 : gd_lk R_L 21 (T_L 2) := Or.inl (gd_in 95 rfl rfl)
set_option maxRecDepth 100000 in
theorem lk_L_17 : gd_lk R_L 17 (T_L 1) := Or.inl (gd_in 93 rfl rfl)
set_option maxRecDepth 100000 in
theorem lk_L_11 : gd_lk R_L 11 (T_L 0) := Or.inl (gd_in 91 rfl rfl)
def fl_L : gd_F := [(11, 1, 0, false), (17, 1, 1, true), (21, 1, 2, true), (25, 0, 2, true)]
theorem fb_L : gd_FB R_L fl_L := gd_FBc ⟨R_L, T_L, 3, cf_L, by decide, lk_L_11, fun h => nomatch h⟩ (gd_FBc ⟨R_L, T_L, 3, cf_L, by decide, lk_L_17, fun _ => rfl⟩ (gd_FBc ⟨R_L, T_L, 3, cf_L, by decide, lk_L_21, fun _ => rfl⟩ (gd_FBc ⟨R_D, T_D, 11, cf_D, by decide, lk_L_25, fun _ => rfl⟩ (gd_FB0))))
set_option maxRecDepth 100000 in
theorem lk_R_30 : gd_lk R_R 30 (T_D 4) := Or.inr ⟨"GuardedDrops", gd_inn 52 rfl rfl⟩
set_option maxRecDepth 100000 in
theorem lk_R_27 : gd_lk R_R 27 (T_D 3) := Or.inr ⟨"GuardedDrops", gd_inn 48 rfl rfl⟩
set_option maxRecDepth 100000 in
theorem lk_R_22 : gd_lk R_R 22 (T_D 2) := Or.inr ⟨"GuardedDrops", gd_inn 45 rfl rfl⟩
set_option maxRecDepth 100000 in
theorem lk_R_19 : gd_lk R_R 19 (T_R 2) := Or.inl (gd_in 125 rfl rfl)
set_option maxRecDepth 100000 in
theorem lk_R_15 : gd_lk R_R 15 (T_R 1) := Or.inl (gd_in 124 rfl rfl)
set_option maxRecDepth 100000 in
theorem lk_R_11 : gd_lk R_R 11 (T_R 0) := Or.inl (gd_in 123 rfl rfl)
def fl_R : gd_F := [(11, 2, 0, false), (15, 2, 1, true), (19, 2, 2, true), (22, 0, 2, true), (27, 0, 3, true), (30, 0, 4, true)]
theorem fb_R : gd_FB R_R fl_R := gd_FBc ⟨R_R, T_R, 3, cf_R, by decide, lk_R_11, fun h => nomatch h⟩ (gd_FBc ⟨R_R, T_R, 3, cf_R, by decide, lk_R_15, fun _ => rfl⟩ (gd_FBc ⟨R_R, T_R, 3, cf_R, by decide, lk_R_19, fun _ => rfl⟩ (gd_FBc ⟨R_D, T_D, 11, cf_D, by decide, lk_R_22, fun _ => rfl⟩ (gd_FBc ⟨R_D, T_D, 11, cf_D, by decide, lk_R_27, fun _ => rfl⟩ (gd_FBc ⟨R_D, T_D, 11, cf_D, by decide, lk_R_30, fun _ => rfl⟩ (gd_FB0))))))
set_option maxRecDepth 100000 in
theorem lk_F_47 : gd_lk R_F 47 (T_D 7) := Or.inr ⟨"GuardedDrops", gd_inn 58 rfl rfl⟩
set_option maxRecDepth 100000 in
theorem lk_F_43 : gd_lk R_F 43 (T_D 0) := Or.inr ⟨"GuardedDrops", gd_inn 40 rfl rfl⟩
set_option maxRecDepth 100000 in
theorem lk_F_34 : gd_lk R_F 34 (T_D 3) := Or.inr ⟨"GuardedDrops", gd_inn 49 rfl rfl⟩
set_option maxRecDepth 100000 in
theorem lk_F_30 : gd_lk R_F 30 (T_D 8) := Or.inr ⟨"GuardedDrops", gd_inn 60 rfl rfl⟩
set_option maxRecDepth 100000 in
theorem lk_F_15 : gd_lk R_F 15 (T_F 1) := Or.inl (gd_in 111 rfl rfl)
set_option maxRecDepth 100000 in
theorem lk_F_9 : gd_lk R_F 9 (T_F 0) := Or.inl (gd_in 110 rfl rfl)
def fl_F : gd_F := [(9, 3, 0, false), (15, 3, 1, false), (30, 0, 8, true), (34, 0, 3, true), (43, 0, 0, false), (47, 0, 7, true)]
theorem fb_F : gd_FB R_F fl_F := gd_FBc ⟨R_F, T_F, 2, cf_F, by decide, lk_F_9, fun h => nomatch h⟩ (gd_FBc ⟨R_F, T_F, 2, cf_F, by decide, lk_F_15, fun h => nomatch h⟩ (gd_FBc ⟨R_D, T_D, 11, cf_D, by decide, lk_F_30, fun _ => rfl⟩ (gd_FBc ⟨R_D, T_D, 11, cf_D, by decide, lk_F_34, fun _ => rfl⟩ (gd_FBc ⟨R_D, T_D, 11, cf_D, by decide, lk_F_43, fun h => nomatch h⟩ (gd_FBc ⟨R_D, T_D, 11, cf_D, by decide, lk_F_47, fun _ => rfl⟩ (gd_FB0))))))
set_option maxRecDepth 100000 in
theorem lk_G_232 : gd_lk R_G 232 (T_D 10) := Or.inr ⟨"GuardedDrops", gd_inn 65 rfl rfl⟩
set_option maxRecDepth 100000 in
theorem lk_G_216 : gd_lk R_G 216 (T_L 0) := Or.inr ⟨"GuardedDrops", gd_inn 92 rfl rfl⟩
set_option maxRecDepth 100000 in
theorem lk_G_200 : gd_lk R_G 200 (T_D 1) := Or.inr ⟨"GuardedDrops", gd_inn 42 rfl rfl⟩
set_option maxRecDepth 100000 in
theorem lk_G_197 : gd_lk R_G 197 (T_D 5) := Or.inr ⟨"GuardedDrops", gd_inn 55 rfl rfl⟩
set_option maxRecDepth 100000 in
theorem lk_G_145 : gd_lk R_G 145 (T_D 9) := Or.inr ⟨"GuardedDrops", gd_inn 63 rfl rfl⟩
set_option maxRecDepth 100000 in
theorem lk_G_142 : gd_lk R_G 142 (T_D 8) := Or.inr ⟨"GuardedDrops", gd_inn 61 rfl rfl⟩
set_option maxRecDepth 100000 in
theorem lk_G_137 : gd_lk R_G 137 (T_D 4) := Or.inr ⟨"GuardedDrops", gd_inn 53 rfl rfl⟩
set_option maxRecDepth 100000 in
theorem lk_G_119 : gd_lk R_G 119 (T_D 3) := Or.inr ⟨"GuardedDrops", gd_inn 50 rfl rfl⟩
set_option maxRecDepth 100000 in
theorem lk_G_101 : gd_lk R_G 101 (T_D 2) := Or.inr ⟨"GuardedDrops", gd_inn 46 rfl rfl⟩
set_option maxRecDepth 100000 in
theorem lk_G_83 : gd_lk R_G 83 (T_L 2) := Or.inr ⟨"GuardedDrops", gd_inn 96 rfl rfl⟩
set_option maxRecDepth 100000 in
theorem lk_G_54 : gd_lk R_G 54 (T_L 1) := Or.inr ⟨"GuardedDrops", gd_inn 94 rfl rfl⟩
set_option maxRecDepth 100000 in
theorem lk_G_45 : gd_lk R_G 45 (T_G 7) := Or.inl (gd_in 140 rfl rfl)
set_option maxRecDepth 100000 in
theorem lk_G_42 : gd_lk R_G 42 (T_G 6) := Or.inl (gd_in 139 rfl rfl)
set_option maxRecDepth 100000 in
theorem lk_G_38 : gd_lk R_G 38 (T_G 5) := Or.inl (gd_in 138 rfl rfl)
set_option maxRecDepth 100000 in
theorem lk_G_34 : gd_lk R_G 34 (T_G 4) := Or.inl (gd_in 137 rfl rfl)
set_option maxRecDepth 100000 in
theorem lk_G_30 : gd_lk R_G 30 (T_G 3) := Or.inl (gd_in 136 rfl rfl)
set_option maxRecDepth 100000 in
theorem lk_G_23 : gd_lk R_G 23 (T_G 2) := Or.inl (gd_in 135 rfl rfl)
set_option maxRecDepth 100000 in
theorem lk_G_16 : gd_lk R_G 16 (T_G 1) := Or.inl (gd_in 134 rfl rfl)
set_option maxRecDepth 100000 in
theorem lk_G_9 : gd_lk R_G 9 (T_G 0) := Or.inl (gd_in 133 rfl rfl)
def fl_G : gd_F := [(9, 4, 0, false), (16, 4, 1, false), (23, 4, 2, false), (30, 4, 3, false), (34, 4, 4, true), (38, 4, 5, true), (42, 4, 6, true), (45, 4, 7, true), (54, 1, 1, true), (83, 1, 2, true), (101, 0, 2, true), (119, 0, 3, true), (137, 0, 4, true), (142, 0, 8, true), (145, 0, 9, true), (197, 0, 5, true), (200, 0, 1, false), (216, 1, 0, false), (232, 0, 10, true)]
theorem fb_G : gd_FB R_G fl_G := gd_FBc ⟨R_G, T_G, 8, cf_G, by decide, lk_G_9, fun h => nomatch h⟩ (gd_FBc ⟨R_G, T_G, 8, cf_G, by decide, lk_G_16, fun h => nomatch h⟩ (gd_FBc ⟨R_G, T_G, 8, cf_G, by decide, lk_G_23, fun h => nomatch h⟩ (gd_FBc ⟨R_G, T_G, 8, cf_G, by decide, lk_G_30, fun h => nomatch h⟩ (gd_FBc ⟨R_G, T_G, 8, cf_G, by decide, lk_G_34, fun _ => rfl⟩ (gd_FBc ⟨R_G, T_G, 8, cf_G, by decide, lk_G_38, fun _ => rfl⟩ (gd_FBc ⟨R_G, T_G, 8, cf_G, by decide, lk_G_42, fun _ => rfl⟩ (gd_FBc ⟨R_G, T_G, 8, cf_G, by decide, lk_G_45, fun _ => rfl⟩ (gd_FBc ⟨R_L, T_L, 3, cf_L, by decide, lk_G_54, fun _ => rfl⟩ (gd_FBc ⟨R_L, T_L, 3, cf_L, by decide, lk_G_83, fun _ => rfl⟩ (gd_FBc ⟨R_D, T_D, 11, cf_D, by decide, lk_G_101, fun _ => rfl⟩ (gd_FBc ⟨R_D, T_D, 11, cf_D, by decide, lk_G_119, fun _ => rfl⟩ (gd_FBc ⟨R_D, T_D, 11, cf_D, by decide, lk_G_137, fun _ => rfl⟩ (gd_FBc ⟨R_D, T_D, 11, cf_D, by decide, lk_G_142, fun _ => rfl⟩ (gd_FBc ⟨R_D, T_D, 11, cf_D, by decide, lk_G_145, fun _ => rfl⟩ (gd_FBc ⟨R_D, T_D, 11, cf_D, by decide, lk_G_197, fun _ => rfl⟩ (gd_FBc ⟨R_D, T_D, 11, cf_D, by decide, lk_G_200, fun h => nomatch h⟩ (gd_FBc ⟨R_L, T_L, 3, cf_L, by decide, lk_G_216, fun h => nomatch h⟩ (gd_FBc ⟨R_D, T_D, 11, cf_D, by decide, lk_G_232, fun _ => rfl⟩ (gd_FB0)))))))))))))))))))
set_option maxRecDepth 100000 in
theorem lk_M_143 : gd_lk R_M 143 (T_M 1) := Or.inl (gd_in 556 rfl rfl)
set_option maxRecDepth 100000 in
theorem lk_M_140 : gd_lk R_M 140 (T_M 14) := Or.inl (gd_in 569 rfl rfl)
set_option maxRecDepth 100000 in
theorem lk_M_135 : gd_lk R_M 135 (T_M 13) := Or.inl (gd_in 568 rfl rfl)
set_option maxRecDepth 100000 in
theorem lk_M_122 : gd_lk R_M 122 (T_M 12) := Or.inl (gd_in 567 rfl rfl)
set_option maxRecDepth 100000 in
theorem lk_M_86 : gd_lk R_M 86 (T_M 19) := Or.inl (gd_in 574 rfl rfl)
set_option maxRecDepth 100000 in
theorem lk_M_68 : gd_lk R_M 68 (T_M 3) := Or.inl (gd_in 558 rfl rfl)
set_option maxRecDepth 100000 in
theorem lk_M_60 : gd_lk R_M 60 (T_M 0) := Or.inl (gd_in 555 rfl rfl)
set_option maxRecDepth 100000 in
theorem lk_M_57 : gd_lk R_M 57 (T_M 22) := Or.inl (gd_in 577 rfl rfl)
set_option maxRecDepth 100000 in
theorem lk_M_53 : gd_lk R_M 53 (T_M 21) := Or.inl (gd_in 576 rfl rfl)
set_option maxRecDepth 100000 in
theorem lk_M_50 : gd_lk R_M 50 (T_M 20) := Or.inl (gd_in 575 rfl rfl)
set_option maxRecDepth 100000 in
theorem lk_M_47 : gd_lk R_M 47 (T_M 18) := Or.inl (gd_in 573 rfl rfl)
set_option maxRecDepth 100000 in
theorem lk_M_44 : gd_lk R_M 44 (T_M 17) := Or.inl (gd_in 572 rfl rfl)
set_option maxRecDepth 100000 in
theorem lk_M_41 : gd_lk R_M 41 (T_M 16) := Or.inl (gd_in 571 rfl rfl)
set_option maxRecDepth 100000 in
theorem lk_M_38 : gd_lk R_M 38 (T_M 15) := Or.inl (gd_in 570 rfl rfl)
set_option maxRecDepth 100000 in
theorem lk_M_35 : gd_lk R_M 35 (T_M 11) := Or.inl (gd_in 566 rfl rfl)
set_option maxRecDepth 100000 in
theorem lk_M_32 : gd_lk R_M 32 (T_M 10) := Or.inl (gd_in 565 rfl rfl)
set_option maxRecDepth 100000 in
theorem lk_M_29 : gd_lk R_M 29 (T_M 9) := Or.inl (gd_in 564 rfl rfl)
set_option maxRecDepth 100000 in
theorem lk_M_26 : gd_lk R_M 26 (T_M 8) := Or.inl (gd_in 563 rfl rfl)
set_option maxRecDepth 100000 in
theorem lk_M_23 : gd_lk R_M 23 (T_M 7) := Or.inl (gd_in 562 rfl rfl)
set_option maxRecDepth 100000 in
theorem lk_M_19 : gd_lk R_M 19 (T_M 6) := Or.inl (gd_in 561 rfl rfl)
set_option maxRecDepth 100000 in
theorem lk_M_16 : gd_lk R_M 16 (T_M 5) := Or.inl (gd_in 560 rfl rfl)
set_option maxRecDepth 100000 in
theorem lk_M_13 : gd_lk R_M 13 (T_M 4) := Or.inl (gd_in 559 rfl rfl)
set_option maxRecDepth 100000 in
theorem lk_M_7 : gd_lk R_M 7 (T_M 2) := Or.inl (gd_in 557 rfl rfl)
def fl_M : gd_F := [(7, 5, 2, false), (13, 5, 4, false), (16, 5, 5, false), (19, 5, 6, false), (23, 5, 7, false), (26, 5, 8, false), (29, 5, 9, false), (32, 5, 10, false), (35, 5, 11, false), (38, 5, 15, false), (41, 5, 16, false), (44, 5, 17, false), (47, 5, 18, false), (50, 5, 20, false), (53, 5, 21, false), (57, 5, 22, false), (60, 5, 0, true), (68, 5, 3, true), (86, 5, 19, true), (122, 5, 12, true), (135, 5, 13, true), (140, 5, 14, true), (143, 5, 1, true)]
theorem fb_M : gd_FB R_M fl_M := gd_FBc ⟨R_M, T_M, 23, cf_M, by decide, lk_M_7, fun h => nomatch h⟩ (gd_FBc ⟨R_M, T_M, 23, cf_M, by decide, lk_M_13, fun h => nomatch h⟩ (gd_FBc ⟨R_M, T_M, 23, cf_M, by decide, lk_M_16, fun h => nomatch h⟩ (gd_FBc ⟨R_M, T_M, 23, cf_M, by decide, lk_M_19, fun h => nomatch h⟩ (gd_FBc ⟨R_M, T_M, 23, cf_M, by decide, lk_M_23, fun h => nomatch h⟩ (gd_FBc ⟨R_M, T_M, 23, cf_M, by decide, lk_M_26, fun h => nomatch h⟩ (gd_FBc ⟨R_M, T_M, 23, cf_M, by decide, lk_M_29, fun h => nomatch h⟩ (gd_FBc ⟨R_M, T_M, 23, cf_M, by decide, lk_M_32, fun h => nomatch h⟩ (gd_FBc ⟨R_M, T_M, 23, cf_M, by decide, lk_M_35, fun h => nomatch h⟩ (gd_FBc ⟨R_M, T_M, 23, cf_M, by decide, lk_M_38, fun h => nomatch h⟩ (gd_FBc ⟨R_M, T_M, 23, cf_M, by decide, lk_M_41, fun h => nomatch h⟩ (gd_FBc ⟨R_M, T_M, 23, cf_M, by decide, lk_M_44, fun h => nomatch h⟩ (gd_FBc ⟨R_M, T_M, 23, cf_M, by decide, lk_M_47, fun h => nomatch h⟩ (gd_FBc ⟨R_M, T_M, 23, cf_M, by decide, lk_M_50, fun h => nomatch h⟩ (gd_FBc ⟨R_M, T_M, 23, cf_M, by decide, lk_M_53, fun h => nomatch h⟩ (gd_FBc ⟨R_M, T_M, 23, cf_M, by decide, lk_M_57, fun h => nomatch h⟩ (gd_FBc ⟨R_M, T_M, 23, cf_M, by decide, lk_M_60, fun _ => rfl⟩ (gd_FBc ⟨R_M, T_M, 23, cf_M, by decide, lk_M_68, fun _ => rfl⟩ (gd_FBc ⟨R_M, T_M, 23, cf_M, by decide, lk_M_86, fun _ => rfl⟩ (gd_FBc ⟨R_M, T_M, 23, cf_M, by decide, lk_M_122, fun _ => rfl⟩ (gd_FBc ⟨R_M, T_M, 23, cf_M, by decide, lk_M_135, fun _ => rfl⟩ (gd_FBc ⟨R_M, T_M, 23, cf_M, by decide, lk_M_140, fun _ => rfl⟩ (gd_FBc ⟨R_M, T_M, 23, cf_M, by decide, lk_M_143, fun _ => rfl⟩ (gd_FB0)))))))))))))))))))))))
def fl_S : gd_F := []
theorem fb_S : gd_FB R_S fl_S := gd_FB0
def fl_A : gd_F := []
theorem fb_A : gd_FB R_A fl_A := gd_FB0
def fl_J : gd_F := []
theorem fb_J : gd_FB R_J fl_J := gd_FB0
def fl_K : gd_F := []
theorem fb_K : gd_FB R_K fl_K := gd_FB0
abbrev gd_L : Type := List (Nat × Int64)
def gd_LB (own : String) (lc : gd_L) : Prop := ∀ q ∈ lc, Cond.constantLong own q.1 q.2 ∈ gd_all
theorem gd_LB0 {own : String} : gd_LB own [] := fun _ h => nomatch h
theorem gd_LBc {own : String} {q : Nat × Int64} {lc : gd_L} (h : Cond.constantLong own q.1 q.2 ∈ gd_all) (t : gd_LB own lc) : gd_LB own (q :: lc) := fun x hx => (List.mem_cons.mp hx).elim (fun e => e ▸ h) (t x)
def lc_D : gd_L := []
theorem lb_D : gd_LB R_D lc_D := gd_LB0
def lc_L : gd_L := []
theorem lb_L : gd_LB R_L lc_L := gd_LB0
def lc_R : gd_L := []
theorem lb_R : gd_LB R_R lc_R := gd_LB0
def lc_F : gd_L := [(64, -1)]
set_option maxRecDepth 100000 in
theorem lb_F : gd_LB R_F lc_F := gd_LBc (gd_in 401 rfl rfl) (gd_LB0)
def lc_G : gd_L := [(65, -1)]
set_option maxRecDepth 100000 in
theorem lb_G : gd_LB R_G lc_G := gd_LBc (gd_in 171 rfl rfl) (gd_LB0)
def lc_M : gd_L := [(138, 2)]
set_option maxRecDepth 100000 in
theorem lb_M : gd_LB R_M lc_M := gd_LBc (gd_in 739 rfl rfl) (gd_LB0)
def lc_S : gd_L := [(26, 9187201950435737471), (28, -72340172838076674)]
set_option maxRecDepth 100000 in
theorem lb_S : gd_LB R_S lc_S := gd_LBc (gd_in 320 rfl rfl) (gd_LBc (gd_in 321 rfl rfl) (gd_LB0))
def lc_A : gd_L := []
theorem lb_A : gd_LB R_A lc_A := gd_LB0
def lc_J : gd_L := []
theorem lb_J : gd_LB R_J lc_J := gd_LB0
def lc_K : gd_L := []
theorem lb_K : gd_LB R_K lc_K := gd_LB0
def gd_ml (own : String) (idx : Nat) (y : MethodName) : Prop := Cond.methodLink own idx y ∈ gd_all ∨ ∃ host, Cond.methodLinkNest own idx y host ∈ gd_nw
set_option maxRecDepth 100000 in
theorem ml_A_49 : gd_ml R_A 49 y_G_init := Or.inl (gd_in 20 rfl rfl)
set_option maxRecDepth 100000 in
theorem ml_G_15 : gd_ml R_G 15 y_L_init := Or.inl (gd_in 28 rfl rfl)
set_option maxRecDepth 100000 in
theorem ml_L_24 : gd_ml R_L 24 y_D_init := Or.inr ⟨"GuardedDrops", gd_inn 35 rfl rfl⟩
set_option maxRecDepth 100000 in
theorem ml_G_22 : gd_ml R_G 22 y_F_init := Or.inr ⟨"GuardedDrops", gd_inn 106 rfl rfl⟩
set_option maxRecDepth 100000 in
theorem ml_G_29 : gd_ml R_G 29 y_R_init := Or.inr ⟨"GuardedDrops", gd_inn 119 rfl rfl⟩
set_option maxRecDepth 100000 in
theorem ml_A_53 : gd_ml R_A 53 y_G_cell := Or.inl (gd_in 158 rfl rfl)
set_option maxRecDepth 100000 in
theorem ml_G_48 : gd_ml R_G 48 y_S_has := Or.inl (gd_in 162 rfl rfl)
set_option maxRecDepth 100000 in
theorem ml_G_57 : gd_ml R_G 57 y_S_at := Or.inl (gd_in 165 rfl rfl)
set_option maxRecDepth 100000 in
theorem ml_G_61 : gd_ml R_G 61 y_S_only := Or.inl (gd_in 168 rfl rfl)
set_option maxRecDepth 100000 in
theorem ml_A_86 : gd_ml R_A 86 y_G_time := Or.inl (gd_in 172 rfl rfl)
set_option maxRecDepth 100000 in
theorem ml_A_90 : gd_ml R_A 90 y_G_droplets := Or.inl (gd_in 176 rfl rfl)
set_option maxRecDepth 100000 in
theorem ml_A_97 : gd_ml R_A 97 y_G_ahead := Or.inl (gd_in 180 rfl rfl)
set_option maxRecDepth 100000 in
theorem ml_G_104 : gd_ml R_G 104 y_L_find := Or.inl (gd_in 184 rfl rfl)
set_option maxRecDepth 100000 in
theorem ml_G_192 : gd_ml R_G 192 y_D_placeAfter := Or.inl (gd_in 188 rfl rfl)
set_option maxRecDepth 100000 in
theorem ml_D_60 : gd_ml R_D 60 y_D_movesLeft := Or.inl (gd_in 192 rfl rfl)
set_option maxRecDepth 100000 in
theorem ml_D_64 : gd_ml R_D 64 y_S_after := Or.inl (gd_in 196 rfl rfl)
set_option maxRecDepth 100000 in
theorem ml_S_9 : gd_ml R_S 9 y_S_has := Or.inl (gd_in 199 rfl rfl)
set_option maxRecDepth 100000 in
theorem ml_S_15 : gd_ml R_S 15 y_S_at := Or.inl (gd_in 200 rfl rfl)
set_option maxRecDepth 100000 in
theorem ml_A_107 : gd_ml R_A 107 y_G_units := Or.inl (gd_in 201 rfl rfl)
set_option maxRecDepth 100000 in
theorem ml_A_111 : gd_ml R_A 111 y_G_kind := Or.inl (gd_in 205 rfl rfl)
set_option maxRecDepth 100000 in
theorem ml_A_58 : gd_ml R_A 58 y_A_dispense := Or.inl (gd_in 209 rfl rfl)
set_option maxRecDepth 100000 in
theorem ml_A_7 : gd_ml R_A 7 y_G_dispense := Or.inl (gd_in 215 rfl rfl)
set_option maxRecDepth 100000 in
theorem ml_G_74 : gd_ml R_G 74 y_G_clearSource := Or.inl (gd_in 288 rfl rfl)
set_option maxRecDepth 100000 in
theorem ml_G_115 : gd_ml R_G 115 y_G_heedAllBut := Or.inl (gd_in 292 rfl rfl)
set_option maxRecDepth 100000 in
theorem ml_G_213 : gd_ml R_G 213 y_F_forget := Or.inl (gd_in 296 rfl rfl)
set_option maxRecDepth 100000 in
theorem ml_F_18 : gd_ml R_F 18 y_J_fill := Or.inl (gd_in 300 rfl rfl)
set_option maxRecDepth 100000 in
theorem ml_G_220 : gd_ml R_G 220 y_F_heed := Or.inl (gd_in 303 rfl rfl)
set_option maxRecDepth 100000 in
theorem ml_F_24 : gd_ml R_F 24 y_D_movesLeft := Or.inl (gd_in 307 rfl rfl)
set_option maxRecDepth 100000 in
theorem ml_F_37 : gd_ml R_F 37 y_S_only := Or.inl (gd_in 308 rfl rfl)
set_option maxRecDepth 100000 in
theorem ml_F_50 : gd_ml R_F 50 y_S_after := Or.inl (gd_in 309 rfl rfl)
set_option maxRecDepth 100000 in
theorem ml_G_155 : gd_ml R_G 155 y_F_everShut := Or.inl (gd_in 310 rfl rfl)
set_option maxRecDepth 100000 in
theorem ml_F_54 : gd_ml R_F 54 y_S_near := Or.inl (gd_in 314 rfl rfl)
set_option maxRecDepth 100000 in
theorem ml_S_23 : gd_ml R_S 23 y_S_sideways := Or.inl (gd_in 317 rfl rfl)
set_option maxRecDepth 100000 in
theorem ml_S_19 : gd_ml R_S 19 y_S_upAndDown := Or.inl (gd_in 322 rfl rfl)
set_option maxRecDepth 100000 in
theorem ml_G_159 : gd_ml R_G 159 y_G_isOpen := Or.inl (gd_in 325 rfl rfl)
set_option maxRecDepth 100000 in
theorem ml_G_91 : gd_ml R_G 91 y_L_add := Or.inl (gd_in 360 rfl rfl)
set_option maxRecDepth 100000 in
theorem ml_L_28 : gd_ml R_L 28 y_D_comeToBe := Or.inl (gd_in 364 rfl rfl)
set_option maxRecDepth 100000 in
theorem ml_G_95 : gd_ml R_G 95 y_D_fillWith := Or.inl (gd_in 368 rfl rfl)
set_option maxRecDepth 100000 in
theorem ml_D_48 : gd_ml R_D 48 y_J_fill := Or.inl (gd_in 372 rfl rfl)
set_option maxRecDepth 100000 in
theorem ml_A_68 : gd_ml R_A 68 y_A_send := Or.inl (gd_in 373 rfl rfl)
set_option maxRecDepth 100000 in
theorem ml_A_19 : gd_ml R_A 19 y_G_send := Or.inl (gd_in 376 rfl rfl)
set_option maxRecDepth 100000 in
theorem ml_G_109 : gd_ml R_G 109 y_D_isFree := Or.inl (gd_in 381 rfl rfl)
set_option maxRecDepth 100000 in
theorem ml_G_122 : gd_ml R_G 122 y_F_clearFrom := Or.inl (gd_in 386 rfl rfl)
set_option maxRecDepth 100000 in
theorem ml_F_58 : gd_ml R_F 58 y_F_shutAt := Or.inl (gd_in 390 rfl rfl)
set_option maxRecDepth 100000 in
theorem ml_G_125 : gd_ml R_G 125 y_F_search := Or.inl (gd_in 394 rfl rfl)
set_option maxRecDepth 100000 in
theorem ml_F_61 : gd_ml R_F 61 y_S_oneMoveFrom := Or.inl (gd_in 398 rfl rfl)
set_option maxRecDepth 100000 in
theorem ml_G_131 : gd_ml R_G 131 y_F_trace := Or.inl (gd_in 403 rfl rfl)
set_option maxRecDepth 100000 in
theorem ml_F_66 : gd_ml R_F 66 y_F_leastMove := Or.inl (gd_in 407 rfl rfl)
set_option maxRecDepth 100000 in
theorem ml_F_70 : gd_ml R_F 70 y_D_takeRoute := Or.inl (gd_in 410 rfl rfl)
set_option maxRecDepth 100000 in
theorem ml_A_72 : gd_ml R_A 72 y_A_join := Or.inl (gd_in 414 rfl rfl)
set_option maxRecDepth 100000 in
theorem ml_A_23 : gd_ml R_A 23 y_G_join := Or.inl (gd_in 417 rfl rfl)
set_option maxRecDepth 100000 in
theorem ml_A_76 : gd_ml R_A 76 y_A_halve := Or.inl (gd_in 423 rfl rfl)
set_option maxRecDepth 100000 in
theorem ml_A_27 : gd_ml R_A 27 y_G_halve := Or.inl (gd_in 426 rfl rfl)
set_option maxRecDepth 100000 in
theorem ml_G_152 : gd_ml R_G 152 y_S_after := Or.inl (gd_in 432 rfl rfl)
set_option maxRecDepth 100000 in
theorem ml_G_165 : gd_ml R_G 165 y_G_splitUp := Or.inl (gd_in 434 rfl rfl)
set_option maxRecDepth 100000 in
theorem ml_G_223 : gd_ml R_G 223 y_D_fillLike := Or.inl (gd_in 438 rfl rfl)
set_option maxRecDepth 100000 in
theorem ml_G_171 : gd_ml R_G 171 y_L_remove := Or.inl (gd_in 445 rfl rfl)
set_option maxRecDepth 100000 in
theorem ml_A_80 : gd_ml R_A 80 y_A_discard := Or.inl (gd_in 449 rfl rfl)
set_option maxRecDepth 100000 in
theorem ml_A_31 : gd_ml R_A 31 y_G_discard := Or.inl (gd_in 452 rfl rfl)
set_option maxRecDepth 100000 in
theorem ml_A_83 : gd_ml R_A 83 y_A_run := Or.inl (gd_in 457 rfl rfl)
set_option maxRecDepth 100000 in
theorem ml_A_34 : gd_ml R_A 34 y_G_run := Or.inl (gd_in 460 rfl rfl)
set_option maxRecDepth 100000 in
theorem ml_G_177 : gd_ml R_G 177 y_G_moveAll := Or.inl (gd_in 465 rfl rfl)
set_option maxRecDepth 100000 in
theorem ml_G_226 : gd_ml R_G 226 y_D_makeMove := Or.inl (gd_in 469 rfl rfl)
set_option maxRecDepth 100000 in
theorem ml_G_180 : gd_ml R_G 180 y_G_joinArrived := Or.inl (gd_in 473 rfl rfl)
set_option maxRecDepth 100000 in
theorem ml_G_187 : gd_ml R_G 187 y_D_movesLeft := Or.inl (gd_in 477 rfl rfl)
set_option maxRecDepth 100000 in
theorem ml_G_229 : gd_ml R_G 229 y_D_takeIn := Or.inl (gd_in 478 rfl rfl)
set_option maxRecDepth 100000 in
theorem ml_D_70 : gd_ml R_D 70 y_K_max := Or.inl (gd_in 482 rfl rfl)
set_option maxRecDepth 100000 in
theorem ml_D_75 : gd_ml R_D 75 y_D_lowerExponent := Or.inl (gd_in 485 rfl rfl)
set_option maxRecDepth 100000 in
theorem ml_D_78 : gd_ml R_D 78 y_D_allEven := Or.inl (gd_in 489 rfl rfl)
set_option maxRecDepth 100000 in
theorem ml_G_183 : gd_ml R_G 183 y_G_readMoved := Or.inl (gd_in 493 rfl rfl)
set_option maxRecDepth 100000 in
theorem ml_G_236 : gd_ml R_G 236 y_R_add := Or.inl (gd_in 497 rfl rfl)
set_option maxRecDepth 100000 in
theorem ml_A_94 : gd_ml R_A 94 y_A_look := Or.inl (gd_in 501 rfl rfl)
set_option maxRecDepth 100000 in
theorem ml_A_37 : gd_ml R_A 37 y_G_look := Or.inl (gd_in 504 rfl rfl)
set_option maxRecDepth 100000 in
theorem ml_A_101 : gd_ml R_A 101 y_A_share := Or.inl (gd_in 509 rfl rfl)
set_option maxRecDepth 100000 in
theorem ml_A_40 : gd_ml R_A 40 y_G_share := Or.inl (gd_in 512 rfl rfl)
set_option maxRecDepth 100000 in
theorem ml_A_104 : gd_ml R_A 104 y_A_reading := Or.inl (gd_in 517 rfl rfl)
set_option maxRecDepth 100000 in
theorem ml_A_44 : gd_ml R_A 44 y_G_reading := Or.inl (gd_in 521 rfl rfl)
set_option maxRecDepth 100000 in
theorem ml_G_204 : gd_ml R_G 204 y_R_has := Or.inl (gd_in 525 rfl rfl)
set_option maxRecDepth 100000 in
theorem ml_G_210 : gd_ml R_G 210 y_R_get := Or.inl (gd_in 545 rfl rfl)
set_option maxRecDepth 100000 in
theorem ml_A_52 : gd_ml R_A 52 y_M_init := Or.inl (gd_in 551 rfl rfl)
set_option maxRecDepth 100000 in
theorem ml_A_64 : gd_ml R_A 64 y_M_thrown := Or.inl (gd_in 626 rfl rfl)
set_option maxRecDepth 100000 in
theorem ml_A_57 : gd_ml R_A 57 y_M_cell := Or.inl (gd_in 630 rfl rfl)
set_option maxRecDepth 100000 in
theorem ml_M_64 : gd_ml R_M 64 y_M_isCell := Or.inl (gd_in 634 rfl rfl)
set_option maxRecDepth 100000 in
theorem ml_M_71 : gd_ml R_M 71 y_M_count := Or.inl (gd_in 637 rfl rfl)
set_option maxRecDepth 100000 in
theorem ml_A_114 : gd_ml R_A 114 y_M_kind := Or.inl (gd_in 641 rfl rfl)
set_option maxRecDepth 100000 in
theorem ml_A_63 : gd_ml R_A 63 y_M_dispense := Or.inl (gd_in 645 rfl rfl)
set_option maxRecDepth 100000 in
theorem ml_M_115 : gd_ml R_M 115 y_M_foresee := Or.inl (gd_in 649 rfl rfl)
set_option maxRecDepth 100000 in
theorem ml_M_89 : gd_ml R_M 89 y_M_placeAfter := Or.inl (gd_in 653 rfl rfl)
set_option maxRecDepth 100000 in
theorem ml_M_75 : gd_ml R_M 75 y_M_left := Or.inl (gd_in 657 rfl rfl)
set_option maxRecDepth 100000 in
theorem ml_M_82 : gd_ml R_M 82 y_M_moved := Or.inl (gd_in 661 rfl rfl)
set_option maxRecDepth 100000 in
theorem ml_M_98 : gd_ml R_M 98 y_M_canRest := Or.inl (gd_in 664 rfl rfl)
set_option maxRecDepth 100000 in
theorem ml_M_95 : gd_ml R_M 95 y_M_isMet := Or.inl (gd_in 668 rfl rfl)
set_option maxRecDepth 100000 in
theorem ml_M_92 : gd_ml R_M 92 y_M_areNear := Or.inl (gd_in 672 rfl rfl)
set_option maxRecDepth 100000 in
theorem ml_M_119 : gd_ml R_M 119 y_M_add := Or.inl (gd_in 675 rfl rfl)
set_option maxRecDepth 100000 in
theorem ml_A_71 : gd_ml R_A 71 y_M_send := Or.inl (gd_in 679 rfl rfl)
set_option maxRecDepth 100000 in
theorem ml_M_125 : gd_ml R_M 125 y_M_isDrop := Or.inl (gd_in 683 rfl rfl)
set_option maxRecDepth 100000 in
theorem ml_M_129 : gd_ml R_M 129 y_M_isFree := Or.inl (gd_in 687 rfl rfl)
set_option maxRecDepth 100000 in
theorem ml_M_79 : gd_ml R_M 79 y_M_comer := Or.inl (gd_in 691 rfl rfl)
set_option maxRecDepth 100000 in
theorem ml_M_132 : gd_ml R_M 132 y_M_lay := Or.inl (gd_in 695 rfl rfl)
set_option maxRecDepth 100000 in
theorem ml_M_111 : gd_ml R_M 111 y_M_spread := Or.inl (gd_in 699 rfl rfl)
set_option maxRecDepth 100000 in
theorem ml_M_101 : gd_ml R_M 101 y_M_canEnd := Or.inl (gd_in 703 rfl rfl)
set_option maxRecDepth 100000 in
theorem ml_M_105 : gd_ml R_M 105 y_M_isNext := Or.inl (gd_in 707 rfl rfl)
set_option maxRecDepth 100000 in
theorem ml_M_108 : gd_ml R_M 108 y_M_canBe := Or.inl (gd_in 711 rfl rfl)
set_option maxRecDepth 100000 in
theorem ml_A_75 : gd_ml R_A 75 y_M_join := Or.inl (gd_in 715 rfl rfl)
set_option maxRecDepth 100000 in
theorem ml_A_79 : gd_ml R_A 79 y_M_halve := Or.inl (gd_in 719 rfl rfl)
set_option maxRecDepth 100000 in
theorem ml_A_82 : gd_ml R_A 82 y_M_discard := Or.inl (gd_in 723 rfl rfl)
set_option maxRecDepth 100000 in
theorem ml_A_85 : gd_ml R_A 85 y_M_run := Or.inl (gd_in 727 rfl rfl)
set_option maxRecDepth 100000 in
theorem ml_M_153 : gd_ml R_M 153 y_M_step := Or.inl (gd_in 731 rfl rfl)
set_option maxRecDepth 100000 in
theorem ml_M_146 : gd_ml R_M 146 y_M_unite := Or.inl (gd_in 735 rfl rfl)
set_option maxRecDepth 100000 in
theorem ml_M_149 : gd_ml R_M 149 y_M_read := Or.inl (gd_in 740 rfl rfl)
set_option maxRecDepth 100000 in
theorem ml_A_89 : gd_ml R_A 89 y_M_time := Or.inl (gd_in 744 rfl rfl)
set_option maxRecDepth 100000 in
theorem ml_A_93 : gd_ml R_A 93 y_M_droplets := Or.inl (gd_in 748 rfl rfl)
set_option maxRecDepth 100000 in
theorem ml_A_96 : gd_ml R_A 96 y_M_look := Or.inl (gd_in 752 rfl rfl)
set_option maxRecDepth 100000 in
theorem ml_A_100 : gd_ml R_A 100 y_M_ahead := Or.inl (gd_in 756 rfl rfl)
set_option maxRecDepth 100000 in
theorem ml_A_103 : gd_ml R_A 103 y_M_share := Or.inl (gd_in 760 rfl rfl)
set_option maxRecDepth 100000 in
theorem ml_A_106 : gd_ml R_A 106 y_M_reading := Or.inl (gd_in 764 rfl rfl)
set_option maxRecDepth 100000 in
theorem ml_A_110 : gd_ml R_A 110 y_M_units := Or.inl (gd_in 768 rfl rfl)
/-- what a call of an object's method asks of the tables -/
def gd_CV (y : MethodName) (bytes : ByteArray) (maxL : Nat) (ret : Option FieldType) (ci na : Nat) : Prop := (Cond.instanceMethod y ∈ gd_all ∧ Cond.selects y.cls y y ∈ gd_all ∧ Cond.initialized y.cls ∈ gd_all ∧ Cond.code y bytes maxL ret ∈ gd_all) ∧ (∃ (T : u_T) (N : Nat), gd_cl[ci]? = some (y.cls, T, N)) ∧ y.cls ≠ "java/lang/invoke/MethodHandle" ∧ y.cls ≠ "java/lang/invoke/VarHandle" ∧ (parseMethodDescriptor y.desc).map (fun d => d.parameters.length) = some na
def gd_CS (y : MethodName) (bytes : ByteArray) (maxL : Nat) (ret : Option FieldType) (na : Nat) : Prop := (Cond.static y ∈ gd_all ∧ Cond.initialized y.cls ∈ gd_all ∧ Cond.code y bytes maxL ret ∈ gd_all) ∧ y.cls ≠ "java/lang/invoke/MethodHandle" ∧ y.cls ≠ "java/lang/invoke/VarHandle" ∧ (parseMethodDescriptor y.desc).map (fun d => d.parameters.length) = some na
set_option maxRecDepth 100000 in
theorem cv_D_allEven : gd_CV y_D_allEven c_D_allEven 4 (some .boolean) 0 0 := ⟨⟨gd_in 491 rfl rfl, gd_ins 8 rfl rfl, gd_in 3 rfl rfl, gd_in 492 rfl rfl⟩, ⟨T_D, 11, rfl⟩, by decide, by decide, by decide +kernel⟩
set_option maxRecDepth 100000 in
theorem cv_D_comeToBe : gd_CV y_D_comeToBe c_D_comeToBe 3 none 0 2 := ⟨⟨gd_in 365 rfl rfl, gd_in 366 rfl rfl, gd_in 3 rfl rfl, gd_in 367 rfl rfl⟩, ⟨T_D, 11, rfl⟩, by decide, by decide, by decide +kernel⟩
set_option maxRecDepth 100000 in
theorem cv_D_fillLike : gd_CV y_D_fillLike c_D_fillLike 2 none 0 1 := ⟨⟨gd_in 439 rfl rfl, gd_in 440 rfl rfl, gd_in 3 rfl rfl, gd_in 441 rfl rfl⟩, ⟨T_D, 11, rfl⟩, by decide, by decide, by decide +kernel⟩
set_option maxRecDepth 100000 in
theorem cv_D_fillWith : gd_CV y_D_fillWith c_D_fillWith 2 none 0 1 := ⟨⟨gd_in 369 rfl rfl, gd_in 370 rfl rfl, gd_in 3 rfl rfl, gd_in 371 rfl rfl⟩, ⟨T_D, 11, rfl⟩, by decide, by decide, by decide +kernel⟩
set_option maxRecDepth 100000 in
theorem cv_D_isFree : gd_CV y_D_isFree c_D_isFree 1 (some .boolean) 0 0 := ⟨⟨gd_in 382 rfl rfl, gd_in 383 rfl rfl, gd_in 3 rfl rfl, gd_in 384 rfl rfl⟩, ⟨T_D, 11, rfl⟩, by decide, by decide, by decide +kernel⟩
set_option maxRecDepth 100000 in
theorem cv_D_lowerExponent : gd_CV y_D_lowerExponent c_D_lowerExponent 2 none 0 0 := ⟨⟨gd_in 487 rfl rfl, gd_ins 7 rfl rfl, gd_in 3 rfl rfl, gd_in 488 rfl rfl⟩, ⟨T_D, 11, rfl⟩, by decide, by decide, by decide +kernel⟩
set_option maxRecDepth 100000 in
theorem cv_D_makeMove : gd_CV y_D_makeMove c_D_makeMove 1 none 0 0 := ⟨⟨gd_in 470 rfl rfl, gd_in 471 rfl rfl, gd_in 3 rfl rfl, gd_in 472 rfl rfl⟩, ⟨T_D, 11, rfl⟩, by decide, by decide, by decide +kernel⟩
set_option maxRecDepth 100000 in
theorem cv_D_movesLeft : gd_CV y_D_movesLeft c_D_movesLeft 1 (some .int) 0 0 := ⟨⟨gd_in 193 rfl rfl, gd_in 194 rfl rfl, gd_in 3 rfl rfl, gd_in 195 rfl rfl⟩, ⟨T_D, 11, rfl⟩, by decide, by decide, by decide +kernel⟩
set_option maxRecDepth 100000 in
theorem cv_D_placeAfter : gd_CV y_D_placeAfter c_D_placeAfter 5 (some .int) 0 1 := ⟨⟨gd_in 189 rfl rfl, gd_in 190 rfl rfl, gd_in 3 rfl rfl, gd_in 191 rfl rfl⟩, ⟨T_D, 11, rfl⟩, by decide, by decide, by decide +kernel⟩
set_option maxRecDepth 100000 in
theorem cv_D_takeIn : gd_CV y_D_takeIn c_D_takeIn 4 none 0 1 := ⟨⟨gd_in 479 rfl rfl, gd_in 480 rfl rfl, gd_in 3 rfl rfl, gd_in 481 rfl rfl⟩, ⟨T_D, 11, rfl⟩, by decide, by decide, by decide +kernel⟩
set_option maxRecDepth 100000 in
theorem cv_D_takeRoute : gd_CV y_D_takeRoute c_D_takeRoute 2 none 0 1 := ⟨⟨gd_in 411 rfl rfl, gd_in 412 rfl rfl, gd_in 3 rfl rfl, gd_in 413 rfl rfl⟩, ⟨T_D, 11, rfl⟩, by decide, by decide, by decide +kernel⟩
set_option maxRecDepth 100000 in
theorem cv_F_clearFrom : gd_CV y_F_clearFrom c_F_clearFrom 3 (some .int) 3 1 := ⟨⟨gd_in 387 rfl rfl, gd_in 388 rfl rfl, gd_in 4 rfl rfl, gd_in 389 rfl rfl⟩, ⟨T_F, 2, rfl⟩, by decide, by decide, by decide +kernel⟩
set_option maxRecDepth 100000 in
theorem cv_F_everShut : gd_CV y_F_everShut c_F_everShut 4 (some .long) 3 0 := ⟨⟨gd_in 311 rfl rfl, gd_in 312 rfl rfl, gd_in 4 rfl rfl, gd_in 313 rfl rfl⟩, ⟨T_F, 2, rfl⟩, by decide, by decide, by decide +kernel⟩
set_option maxRecDepth 100000 in
theorem cv_F_forget : gd_CV y_F_forget c_F_forget 1 none 3 0 := ⟨⟨gd_in 297 rfl rfl, gd_in 298 rfl rfl, gd_in 4 rfl rfl, gd_in 299 rfl rfl⟩, ⟨T_F, 2, rfl⟩, by decide, by decide, by decide +kernel⟩
set_option maxRecDepth 100000 in
theorem cv_F_heed : gd_CV y_F_heed c_F_heed 6 none 3 1 := ⟨⟨gd_in 304 rfl rfl, gd_in 305 rfl rfl, gd_in 4 rfl rfl, gd_in 306 rfl rfl⟩, ⟨T_F, 2, rfl⟩, by decide, by decide, by decide +kernel⟩
set_option maxRecDepth 100000 in
theorem cv_F_leastMove : gd_CS y_F_leastMove c_F_leastMove 5 (some .int) 2 := ⟨⟨gd_in 408 rfl rfl, gd_in 4 rfl rfl, gd_in 409 rfl rfl⟩, by decide, by decide, by decide +kernel⟩
set_option maxRecDepth 100000 in
theorem cv_F_search : gd_CV y_F_search c_F_search 9 (some .int) 3 4 := ⟨⟨gd_in 395 rfl rfl, gd_in 396 rfl rfl, gd_in 4 rfl rfl, gd_in 397 rfl rfl⟩, ⟨T_F, 2, rfl⟩, by decide, by decide, by decide +kernel⟩
set_option maxRecDepth 100000 in
theorem cv_F_shutAt : gd_CV y_F_shutAt c_F_shutAt 4 (some .long) 3 1 := ⟨⟨gd_in 392 rfl rfl, gd_ins 3 rfl rfl, gd_in 4 rfl rfl, gd_in 393 rfl rfl⟩, ⟨T_F, 2, rfl⟩, by decide, by decide, by decide +kernel⟩
set_option maxRecDepth 100000 in
theorem cv_F_trace : gd_CV y_F_trace c_F_trace 7 none 3 3 := ⟨⟨gd_in 404 rfl rfl, gd_in 405 rfl rfl, gd_in 4 rfl rfl, gd_in 406 rfl rfl⟩, ⟨T_F, 2, rfl⟩, by decide, by decide, by decide +kernel⟩
set_option maxRecDepth 100000 in
theorem cv_G_ahead : gd_CV y_G_ahead c_G_ahead 4 (some .int) 4 2 := ⟨⟨gd_in 181 rfl rfl, gd_in 182 rfl rfl, gd_in 1 rfl rfl, gd_in 183 rfl rfl⟩, ⟨T_G, 8, rfl⟩, by decide, by decide, by decide +kernel⟩
set_option maxRecDepth 100000 in
theorem cv_G_cell : gd_CV y_G_cell c_G_cell 5 (some .boolean) 4 3 := ⟨⟨gd_in 159 rfl rfl, gd_in 160 rfl rfl, gd_in 1 rfl rfl, gd_in 161 rfl rfl⟩, ⟨T_G, 8, rfl⟩, by decide, by decide, by decide +kernel⟩
set_option maxRecDepth 100000 in
theorem cv_G_clearSource : gd_CV y_G_clearSource c_G_clearSource 5 (some .int) 4 1 := ⟨⟨gd_in 290 rfl rfl, gd_ins 1 rfl rfl, gd_in 1 rfl rfl, gd_in 291 rfl rfl⟩, ⟨T_G, 8, rfl⟩, by decide, by decide, by decide +kernel⟩
set_option maxRecDepth 100000 in
theorem cv_G_discard : gd_CV y_G_discard c_G_discard 4 (some .int) 4 1 := ⟨⟨gd_in 453 rfl rfl, gd_in 454 rfl rfl, gd_in 1 rfl rfl, gd_in 455 rfl rfl⟩, ⟨T_G, 8, rfl⟩, by decide, by decide, by decide +kernel⟩
set_option maxRecDepth 100000 in
theorem cv_G_dispense : gd_CV y_G_dispense c_G_dispense 4 (some .int) 4 1 := ⟨⟨gd_in 216 rfl rfl, gd_in 217 rfl rfl, gd_in 1 rfl rfl, gd_in 218 rfl rfl⟩, ⟨T_G, 8, rfl⟩, by decide, by decide, by decide +kernel⟩
set_option maxRecDepth 100000 in
theorem cv_G_droplets : gd_CV y_G_droplets c_G_droplets 1 (some .int) 4 0 := ⟨⟨gd_in 177 rfl rfl, gd_in 178 rfl rfl, gd_in 1 rfl rfl, gd_in 179 rfl rfl⟩, ⟨T_G, 8, rfl⟩, by decide, by decide, by decide +kernel⟩
set_option maxRecDepth 100000 in
theorem cv_G_halve : gd_CV y_G_halve c_G_halve 8 (some .int) 4 2 := ⟨⟨gd_in 427 rfl rfl, gd_in 428 rfl rfl, gd_in 1 rfl rfl, gd_in 429 rfl rfl⟩, ⟨T_G, 8, rfl⟩, by decide, by decide, by decide +kernel⟩
set_option maxRecDepth 100000 in
theorem cv_G_heedAllBut : gd_CV y_G_heedAllBut c_G_heedAllBut 5 none 4 2 := ⟨⟨gd_in 294 rfl rfl, gd_ins 2 rfl rfl, gd_in 1 rfl rfl, gd_in 295 rfl rfl⟩, ⟨T_G, 8, rfl⟩, by decide, by decide, by decide +kernel⟩
set_option maxRecDepth 100000 in
theorem cv_G_isOpen : gd_CS y_G_isOpen c_G_isOpen 3 (some .boolean) 2 := ⟨⟨gd_in 326 rfl rfl, gd_in 1 rfl rfl, gd_in 327 rfl rfl⟩, by decide, by decide, by decide +kernel⟩
set_option maxRecDepth 100000 in
theorem cv_G_join : gd_CV y_G_join c_G_join 6 (some .int) 4 2 := ⟨⟨gd_in 418 rfl rfl, gd_in 419 rfl rfl, gd_in 1 rfl rfl, gd_in 420 rfl rfl⟩, ⟨T_G, 8, rfl⟩, by decide, by decide, by decide +kernel⟩
set_option maxRecDepth 100000 in
theorem cv_G_joinArrived : gd_CV y_G_joinArrived c_G_joinArrived 4 none 4 0 := ⟨⟨gd_in 475 rfl rfl, gd_ins 6 rfl rfl, gd_in 1 rfl rfl, gd_in 476 rfl rfl⟩, ⟨T_G, 8, rfl⟩, by decide, by decide, by decide +kernel⟩
set_option maxRecDepth 100000 in
theorem cv_G_kind : gd_CV y_G_kind c_G_kind 3 (some .int) 4 2 := ⟨⟨gd_in 206 rfl rfl, gd_in 207 rfl rfl, gd_in 1 rfl rfl, gd_in 208 rfl rfl⟩, ⟨T_G, 8, rfl⟩, by decide, by decide, by decide +kernel⟩
set_option maxRecDepth 100000 in
theorem cv_G_look : gd_CV y_G_look c_G_look 4 (some .int) 4 2 := ⟨⟨gd_in 505 rfl rfl, gd_in 506 rfl rfl, gd_in 1 rfl rfl, gd_in 507 rfl rfl⟩, ⟨T_G, 8, rfl⟩, by decide, by decide, by decide +kernel⟩
set_option maxRecDepth 100000 in
theorem cv_G_moveAll : gd_CV y_G_moveAll c_G_moveAll 2 none 4 0 := ⟨⟨gd_in 467 rfl rfl, gd_ins 5 rfl rfl, gd_in 1 rfl rfl, gd_in 468 rfl rfl⟩, ⟨T_G, 8, rfl⟩, by decide, by decide, by decide +kernel⟩
set_option maxRecDepth 100000 in
theorem cv_G_readMoved : gd_CV y_G_readMoved c_G_readMoved 4 (some .int) 4 0 := ⟨⟨gd_in 495 rfl rfl, gd_ins 9 rfl rfl, gd_in 1 rfl rfl, gd_in 496 rfl rfl⟩, ⟨T_G, 8, rfl⟩, by decide, by decide, by decide +kernel⟩
set_option maxRecDepth 100000 in
theorem cv_G_reading : gd_CV y_G_reading c_G_reading 3 (some .int) 4 2 := ⟨⟨gd_in 522 rfl rfl, gd_in 523 rfl rfl, gd_in 1 rfl rfl, gd_in 524 rfl rfl⟩, ⟨T_G, 8, rfl⟩, by decide, by decide, by decide +kernel⟩
set_option maxRecDepth 100000 in
theorem cv_G_run : gd_CV y_G_run c_G_run 4 (some .int) 4 1 := ⟨⟨gd_in 461 rfl rfl, gd_in 462 rfl rfl, gd_in 1 rfl rfl, gd_in 463 rfl rfl⟩, ⟨T_G, 8, rfl⟩, by decide, by decide, by decide +kernel⟩
set_option maxRecDepth 100000 in
theorem cv_G_send : gd_CV y_G_send c_G_send 7 (some .int) 4 3 := ⟨⟨gd_in 377 rfl rfl, gd_in 378 rfl rfl, gd_in 1 rfl rfl, gd_in 379 rfl rfl⟩, ⟨T_G, 8, rfl⟩, by decide, by decide, by decide +kernel⟩
set_option maxRecDepth 100000 in
theorem cv_G_share : gd_CV y_G_share c_G_share 4 (some .long) 4 2 := ⟨⟨gd_in 513 rfl rfl, gd_in 514 rfl rfl, gd_in 1 rfl rfl, gd_in 515 rfl rfl⟩, ⟨T_G, 8, rfl⟩, by decide, by decide, by decide +kernel⟩
set_option maxRecDepth 100000 in
theorem cv_G_splitUp : gd_CV y_G_splitUp c_G_splitUp 6 (some .int) 4 3 := ⟨⟨gd_in 436 rfl rfl, gd_ins 4 rfl rfl, gd_in 1 rfl rfl, gd_in 437 rfl rfl⟩, ⟨T_G, 8, rfl⟩, by decide, by decide, by decide +kernel⟩
set_option maxRecDepth 100000 in
theorem cv_G_time : gd_CV y_G_time c_G_time 1 (some .int) 4 0 := ⟨⟨gd_in 173 rfl rfl, gd_in 174 rfl rfl, gd_in 1 rfl rfl, gd_in 175 rfl rfl⟩, ⟨T_G, 8, rfl⟩, by decide, by decide, by decide +kernel⟩
set_option maxRecDepth 100000 in
theorem cv_G_units : gd_CV y_G_units c_G_units 2 (some .int) 4 1 := ⟨⟨gd_in 202 rfl rfl, gd_in 203 rfl rfl, gd_in 1 rfl rfl, gd_in 204 rfl rfl⟩, ⟨T_G, 8, rfl⟩, by decide, by decide, by decide +kernel⟩
set_option maxRecDepth 100000 in
theorem cv_J_fill : gd_CS y_J_fill c_J_fill 5 none 2 := ⟨⟨gd_in 301 rfl rfl, gd_in 12 rfl rfl, gd_in 302 rfl rfl⟩, by decide, by decide, by decide +kernel⟩
set_option maxRecDepth 100000 in
theorem cv_K_max : gd_CS y_K_max c_K_max 2 (some .int) 2 := ⟨⟨gd_in 483 rfl rfl, gd_in 16 rfl rfl, gd_in 484 rfl rfl⟩, by decide, by decide, by decide +kernel⟩
set_option maxRecDepth 100000 in
theorem cv_L_add : gd_CV y_L_add c_L_add 3 (some (.object "GuardedDrops$Droplet")) 1 1 := ⟨⟨gd_in 361 rfl rfl, gd_in 362 rfl rfl, gd_in 2 rfl rfl, gd_in 363 rfl rfl⟩, ⟨T_L, 3, rfl⟩, by decide, by decide, by decide +kernel⟩
set_option maxRecDepth 100000 in
theorem cv_L_find : gd_CV y_L_find c_L_find 3 (some (.object "GuardedDrops$Droplet")) 1 1 := ⟨⟨gd_in 185 rfl rfl, gd_in 186 rfl rfl, gd_in 2 rfl rfl, gd_in 187 rfl rfl⟩, ⟨T_L, 3, rfl⟩, by decide, by decide, by decide +kernel⟩
set_option maxRecDepth 100000 in
theorem cv_L_remove : gd_CV y_L_remove c_L_remove 4 none 1 1 := ⟨⟨gd_in 446 rfl rfl, gd_in 447 rfl rfl, gd_in 2 rfl rfl, gd_in 448 rfl rfl⟩, ⟨T_L, 3, rfl⟩, by decide, by decide, by decide +kernel⟩
set_option maxRecDepth 100000 in
theorem cv_M_add : gd_CV y_M_add c_M_add 3 (some .int) 5 2 := ⟨⟨gd_in 677 rfl rfl, gd_ins 16 rfl rfl, gd_in 6 rfl rfl, gd_in 678 rfl rfl⟩, ⟨T_M, 23, rfl⟩, by decide, by decide, by decide +kernel⟩
set_option maxRecDepth 100000 in
theorem cv_M_ahead : gd_CV y_M_ahead c_M_ahead 3 (some .int) 5 2 := ⟨⟨gd_in 757 rfl rfl, gd_in 758 rfl rfl, gd_in 6 rfl rfl, gd_in 759 rfl rfl⟩, ⟨T_M, 23, rfl⟩, by decide, by decide, by decide +kernel⟩
set_option maxRecDepth 100000 in
theorem cv_M_areNear : gd_CS y_M_areNear c_M_areNear 4 (some .boolean) 2 := ⟨⟨gd_in 673 rfl rfl, gd_in 6 rfl rfl, gd_in 674 rfl rfl⟩, by decide, by decide, by decide +kernel⟩
set_option maxRecDepth 100000 in
theorem cv_M_canBe : gd_CV y_M_canBe c_M_canBe 3 (some .boolean) 5 2 := ⟨⟨gd_in 713 rfl rfl, gd_ins 24 rfl rfl, gd_in 6 rfl rfl, gd_in 714 rfl rfl⟩, ⟨T_M, 23, rfl⟩, by decide, by decide, by decide +kernel⟩
set_option maxRecDepth 100000 in
theorem cv_M_canEnd : gd_CV y_M_canEnd c_M_canEnd 4 (some .boolean) 5 3 := ⟨⟨gd_in 705 rfl rfl, gd_ins 22 rfl rfl, gd_in 6 rfl rfl, gd_in 706 rfl rfl⟩, ⟨T_M, 23, rfl⟩, by decide, by decide, by decide +kernel⟩
set_option maxRecDepth 100000 in
theorem cv_M_canRest : gd_CV y_M_canRest c_M_canRest 5 (some .boolean) 5 2 := ⟨⟨gd_in 666 rfl rfl, gd_ins 14 rfl rfl, gd_in 6 rfl rfl, gd_in 667 rfl rfl⟩, ⟨T_M, 23, rfl⟩, by decide, by decide, by decide +kernel⟩
set_option maxRecDepth 100000 in
theorem cv_M_cell : gd_CV y_M_cell c_M_cell 4 (some .boolean) 5 3 := ⟨⟨gd_in 631 rfl rfl, gd_in 632 rfl rfl, gd_in 6 rfl rfl, gd_in 633 rfl rfl⟩, ⟨T_M, 23, rfl⟩, by decide, by decide, by decide +kernel⟩
set_option maxRecDepth 100000 in
theorem cv_M_comer : gd_CV y_M_comer c_M_comer 4 (some .int) 5 1 := ⟨⟨gd_in 693 rfl rfl, gd_ins 19 rfl rfl, gd_in 6 rfl rfl, gd_in 694 rfl rfl⟩, ⟨T_M, 23, rfl⟩, by decide, by decide, by decide +kernel⟩
set_option maxRecDepth 100000 in
theorem cv_M_count : gd_CV y_M_count c_M_count 3 (some .int) 5 0 := ⟨⟨gd_in 639 rfl rfl, gd_ins 10 rfl rfl, gd_in 6 rfl rfl, gd_in 640 rfl rfl⟩, ⟨T_M, 23, rfl⟩, by decide, by decide, by decide +kernel⟩
set_option maxRecDepth 100000 in
theorem cv_M_discard : gd_CV y_M_discard c_M_discard 3 (some .int) 5 1 := ⟨⟨gd_in 724 rfl rfl, gd_in 725 rfl rfl, gd_in 6 rfl rfl, gd_in 726 rfl rfl⟩, ⟨T_M, 23, rfl⟩, by decide, by decide, by decide +kernel⟩
set_option maxRecDepth 100000 in
theorem cv_M_dispense : gd_CV y_M_dispense c_M_dispense 5 (some .int) 5 1 := ⟨⟨gd_in 646 rfl rfl, gd_in 647 rfl rfl, gd_in 6 rfl rfl, gd_in 648 rfl rfl⟩, ⟨T_M, 23, rfl⟩, by decide, by decide, by decide +kernel⟩
set_option maxRecDepth 100000 in
theorem cv_M_droplets : gd_CV y_M_droplets c_M_droplets 1 (some .int) 5 0 := ⟨⟨gd_in 749 rfl rfl, gd_in 750 rfl rfl, gd_in 6 rfl rfl, gd_in 751 rfl rfl⟩, ⟨T_M, 23, rfl⟩, by decide, by decide, by decide +kernel⟩
set_option maxRecDepth 100000 in
theorem cv_M_foresee : gd_CV y_M_foresee c_M_foresee 5 none 5 2 := ⟨⟨gd_in 651 rfl rfl, gd_ins 11 rfl rfl, gd_in 6 rfl rfl, gd_in 652 rfl rfl⟩, ⟨T_M, 23, rfl⟩, by decide, by decide, by decide +kernel⟩
set_option maxRecDepth 100000 in
theorem cv_M_halve : gd_CV y_M_halve c_M_halve 9 (some .int) 5 2 := ⟨⟨gd_in 720 rfl rfl, gd_in 721 rfl rfl, gd_in 6 rfl rfl, gd_in 722 rfl rfl⟩, ⟨T_M, 23, rfl⟩, by decide, by decide, by decide +kernel⟩
set_option maxRecDepth 100000 in
theorem cv_M_isCell : gd_CS y_M_isCell c_M_isCell 2 (some .boolean) 2 := ⟨⟨gd_in 635 rfl rfl, gd_in 6 rfl rfl, gd_in 636 rfl rfl⟩, by decide, by decide, by decide +kernel⟩
set_option maxRecDepth 100000 in
theorem cv_M_isDrop : gd_CV y_M_isDrop c_M_isDrop 2 (some .boolean) 5 1 := ⟨⟨gd_in 685 rfl rfl, gd_ins 17 rfl rfl, gd_in 6 rfl rfl, gd_in 686 rfl rfl⟩, ⟨T_M, 23, rfl⟩, by decide, by decide, by decide +kernel⟩
set_option maxRecDepth 100000 in
theorem cv_M_isFree : gd_CV y_M_isFree c_M_isFree 2 (some .boolean) 5 1 := ⟨⟨gd_in 689 rfl rfl, gd_ins 18 rfl rfl, gd_in 6 rfl rfl, gd_in 690 rfl rfl⟩, ⟨T_M, 23, rfl⟩, by decide, by decide, by decide +kernel⟩
set_option maxRecDepth 100000 in
theorem cv_M_isMet : gd_CV y_M_isMet c_M_isMet 6 (some .boolean) 5 2 := ⟨⟨gd_in 670 rfl rfl, gd_ins 15 rfl rfl, gd_in 6 rfl rfl, gd_in 671 rfl rfl⟩, ⟨T_M, 23, rfl⟩, by decide, by decide, by decide +kernel⟩
set_option maxRecDepth 100000 in
theorem cv_M_isNext : gd_CV y_M_isNext c_M_isNext 6 (some .boolean) 5 2 := ⟨⟨gd_in 709 rfl rfl, gd_ins 23 rfl rfl, gd_in 6 rfl rfl, gd_in 710 rfl rfl⟩, ⟨T_M, 23, rfl⟩, by decide, by decide, by decide +kernel⟩
set_option maxRecDepth 100000 in
theorem cv_M_join : gd_CV y_M_join c_M_join 4 (some .int) 5 2 := ⟨⟨gd_in 716 rfl rfl, gd_in 717 rfl rfl, gd_in 6 rfl rfl, gd_in 718 rfl rfl⟩, ⟨T_M, 23, rfl⟩, by decide, by decide, by decide +kernel⟩
set_option maxRecDepth 100000 in
theorem cv_M_kind : gd_CV y_M_kind c_M_kind 3 (some .int) 5 2 := ⟨⟨gd_in 642 rfl rfl, gd_in 643 rfl rfl, gd_in 6 rfl rfl, gd_in 644 rfl rfl⟩, ⟨T_M, 23, rfl⟩, by decide, by decide, by decide +kernel⟩
set_option maxRecDepth 100000 in
theorem cv_M_lay : gd_CV y_M_lay c_M_lay 10 (some .int) 5 3 := ⟨⟨gd_in 697 rfl rfl, gd_ins 20 rfl rfl, gd_in 6 rfl rfl, gd_in 698 rfl rfl⟩, ⟨T_M, 23, rfl⟩, by decide, by decide, by decide +kernel⟩
set_option maxRecDepth 100000 in
theorem cv_M_left : gd_CV y_M_left c_M_left 2 (some .int) 5 1 := ⟨⟨gd_in 659 rfl rfl, gd_ins 13 rfl rfl, gd_in 6 rfl rfl, gd_in 660 rfl rfl⟩, ⟨T_M, 23, rfl⟩, by decide, by decide, by decide +kernel⟩
set_option maxRecDepth 100000 in
theorem cv_M_look : gd_CV y_M_look c_M_look 3 (some .int) 5 2 := ⟨⟨gd_in 753 rfl rfl, gd_in 754 rfl rfl, gd_in 6 rfl rfl, gd_in 755 rfl rfl⟩, ⟨T_M, 23, rfl⟩, by decide, by decide, by decide +kernel⟩
set_option maxRecDepth 100000 in
theorem cv_M_moved : gd_CS y_M_moved c_M_moved 4 (some .int) 2 := ⟨⟨gd_in 662 rfl rfl, gd_in 6 rfl rfl, gd_in 663 rfl rfl⟩, by decide, by decide, by decide +kernel⟩
set_option maxRecDepth 100000 in
theorem cv_M_placeAfter : gd_CV y_M_placeAfter c_M_placeAfter 5 (some .int) 5 2 := ⟨⟨gd_in 655 rfl rfl, gd_ins 12 rfl rfl, gd_in 6 rfl rfl, gd_in 656 rfl rfl⟩, ⟨T_M, 23, rfl⟩, by decide, by decide, by decide +kernel⟩
set_option maxRecDepth 100000 in
theorem cv_M_read : gd_CV y_M_read c_M_read 3 none 5 1 := ⟨⟨gd_in 742 rfl rfl, gd_ins 27 rfl rfl, gd_in 6 rfl rfl, gd_in 743 rfl rfl⟩, ⟨T_M, 23, rfl⟩, by decide, by decide, by decide +kernel⟩
set_option maxRecDepth 100000 in
theorem cv_M_reading : gd_CV y_M_reading c_M_reading 3 (some .int) 5 2 := ⟨⟨gd_in 765 rfl rfl, gd_in 766 rfl rfl, gd_in 6 rfl rfl, gd_in 767 rfl rfl⟩, ⟨T_M, 23, rfl⟩, by decide, by decide, by decide +kernel⟩
set_option maxRecDepth 100000 in
theorem cv_M_run : gd_CV y_M_run c_M_run 4 (some .int) 5 1 := ⟨⟨gd_in 728 rfl rfl, gd_in 729 rfl rfl, gd_in 6 rfl rfl, gd_in 730 rfl rfl⟩, ⟨T_M, 23, rfl⟩, by decide, by decide, by decide +kernel⟩
set_option maxRecDepth 100000 in
theorem cv_M_send : gd_CV y_M_send c_M_send 5 (some .int) 5 3 := ⟨⟨gd_in 680 rfl rfl, gd_in 681 rfl rfl, gd_in 6 rfl rfl, gd_in 682 rfl rfl⟩, ⟨T_M, 23, rfl⟩, by decide, by decide, by decide +kernel⟩
set_option maxRecDepth 100000 in
theorem cv_M_share : gd_CV y_M_share c_M_share 3 (some .long) 5 2 := ⟨⟨gd_in 761 rfl rfl, gd_in 762 rfl rfl, gd_in 6 rfl rfl, gd_in 763 rfl rfl⟩, ⟨T_M, 23, rfl⟩, by decide, by decide, by decide +kernel⟩
set_option maxRecDepth 100000 in
theorem cv_M_spread : gd_CV y_M_spread c_M_spread 6 (some .int) 5 3 := ⟨⟨gd_in 701 rfl rfl, gd_ins 21 rfl rfl, gd_in 6 rfl rfl, gd_in 702 rfl rfl⟩, ⟨T_M, 23, rfl⟩, by decide, by decide, by decide +kernel⟩
set_option maxRecDepth 100000 in
theorem cv_M_step : gd_CV y_M_step c_M_step 4 (some .int) 5 0 := ⟨⟨gd_in 733 rfl rfl, gd_ins 25 rfl rfl, gd_in 6 rfl rfl, gd_in 734 rfl rfl⟩, ⟨T_M, 23, rfl⟩, by decide, by decide, by decide +kernel⟩
set_option maxRecDepth 100000 in
theorem cv_M_thrown : gd_CV y_M_thrown c_M_thrown 1 (some .int) 5 0 := ⟨⟨gd_in 627 rfl rfl, gd_in 628 rfl rfl, gd_in 6 rfl rfl, gd_in 629 rfl rfl⟩, ⟨T_M, 23, rfl⟩, by decide, by decide, by decide +kernel⟩
set_option maxRecDepth 100000 in
theorem cv_M_time : gd_CV y_M_time c_M_time 1 (some .int) 5 0 := ⟨⟨gd_in 745 rfl rfl, gd_in 746 rfl rfl, gd_in 6 rfl rfl, gd_in 747 rfl rfl⟩, ⟨T_M, 23, rfl⟩, by decide, by decide, by decide +kernel⟩
set_option maxRecDepth 100000 in
theorem cv_M_unite : gd_CV y_M_unite c_M_unite 9 none 5 2 := ⟨⟨gd_in 737 rfl rfl, gd_ins 26 rfl rfl, gd_in 6 rfl rfl, gd_in 738 rfl rfl⟩, ⟨T_M, 23, rfl⟩, by decide, by decide, by decide +kernel⟩
set_option maxRecDepth 100000 in
theorem cv_M_units : gd_CV y_M_units c_M_units 4 (some .int) 5 1 := ⟨⟨gd_in 769 rfl rfl, gd_in 770 rfl rfl, gd_in 6 rfl rfl, gd_in 771 rfl rfl⟩, ⟨T_M, 23, rfl⟩, by decide, by decide, by decide +kernel⟩
set_option maxRecDepth 100000 in
theorem cv_R_add : gd_CV y_R_add c_R_add 4 none 2 2 := ⟨⟨gd_in 498 rfl rfl, gd_in 499 rfl rfl, gd_in 5 rfl rfl, gd_in 500 rfl rfl⟩, ⟨T_R, 3, rfl⟩, by decide, by decide, by decide +kernel⟩
set_option maxRecDepth 100000 in
theorem cv_R_get : gd_CV y_R_get c_R_get 3 (some .int) 2 2 := ⟨⟨gd_in 546 rfl rfl, gd_in 547 rfl rfl, gd_in 5 rfl rfl, gd_in 548 rfl rfl⟩, ⟨T_R, 3, rfl⟩, by decide, by decide, by decide +kernel⟩
set_option maxRecDepth 100000 in
theorem cv_R_has : gd_CV y_R_has c_R_has 3 (some .boolean) 2 2 := ⟨⟨gd_in 526 rfl rfl, gd_in 527 rfl rfl, gd_in 5 rfl rfl, gd_in 528 rfl rfl⟩, ⟨T_R, 3, rfl⟩, by decide, by decide, by decide +kernel⟩
set_option maxRecDepth 100000 in
theorem cv_S_after : gd_CS y_S_after c_S_after 4 (some .int) 2 := ⟨⟨gd_in 197 rfl rfl, gd_in 7 rfl rfl, gd_in 198 rfl rfl⟩, by decide, by decide, by decide +kernel⟩
set_option maxRecDepth 100000 in
theorem cv_S_at : gd_CS y_S_at c_S_at 2 (some .int) 2 := ⟨⟨gd_in 166 rfl rfl, gd_in 7 rfl rfl, gd_in 167 rfl rfl⟩, by decide, by decide, by decide +kernel⟩
set_option maxRecDepth 100000 in
theorem cv_S_has : gd_CS y_S_has c_S_has 2 (some .boolean) 2 := ⟨⟨gd_in 163 rfl rfl, gd_in 7 rfl rfl, gd_in 164 rfl rfl⟩, by decide, by decide, by decide +kernel⟩
set_option maxRecDepth 100000 in
theorem cv_S_near : gd_CS y_S_near c_S_near 2 (some .long) 1 := ⟨⟨gd_in 315 rfl rfl, gd_in 7 rfl rfl, gd_in 316 rfl rfl⟩, by decide, by decide, by decide +kernel⟩
set_option maxRecDepth 100000 in
theorem cv_S_oneMoveFrom : gd_CS y_S_oneMoveFrom c_S_oneMoveFrom 2 (some .long) 1 := ⟨⟨gd_in 399 rfl rfl, gd_in 7 rfl rfl, gd_in 400 rfl rfl⟩, by decide, by decide, by decide +kernel⟩
set_option maxRecDepth 100000 in
theorem cv_S_only : gd_CS y_S_only c_S_only 1 (some .long) 1 := ⟨⟨gd_in 169 rfl rfl, gd_in 7 rfl rfl, gd_in 170 rfl rfl⟩, by decide, by decide, by decide +kernel⟩
set_option maxRecDepth 100000 in
theorem cv_S_sideways : gd_CS y_S_sideways c_S_sideways 2 (some .long) 1 := ⟨⟨gd_in 318 rfl rfl, gd_in 7 rfl rfl, gd_in 319 rfl rfl⟩, by decide, by decide, by decide +kernel⟩
set_option maxRecDepth 100000 in
theorem cv_S_upAndDown : gd_CS y_S_upAndDown c_S_upAndDown 2 (some .long) 1 := ⟨⟨gd_in 323 rfl rfl, gd_in 7 rfl rfl, gd_in 324 rfl rfl⟩, by decide, by decide, by decide +kernel⟩
