/-! The state that both sides stand for, and what the document's words say of it. -/
-- kinds; of each droplet: 0 units, 1 cell, 2 power, 3 moves left, 4 into (number + 1, or 0), 5 + k: its k-th move to come; shares; scalars (0 made, 1 let out, 2 thrown away); time; readings
abbrev gs_T : Type := (Nat → Nat) × (Nat → Nat → Nat) × (Nat → Nat → Int64) × (Nat → Nat) × Int32 × List (Nat × Int32 × Nat × Nat)
abbrev gs_k (s : gs_T) (c : Nat) : Nat := s.1 c
abbrev gs_u (s : gs_T) (d : Nat) : Nat := s.2.1 0 d
abbrev gs_c (s : gs_T) (d : Nat) : Nat := s.2.1 1 d
abbrev gs_p (s : gs_T) (d : Nat) : Nat := s.2.1 2 d
abbrev gs_l (s : gs_T) (d : Nat) : Nat := s.2.1 3 d
abbrev gs_i (s : gs_T) (d : Nat) : Nat := s.2.1 4 d
abbrev gs_m (s : gs_T) (d k : Nat) : Nat := s.2.1 (5 + k) d
abbrev gs_sh (s : gs_T) (d k : Nat) : Int64 := s.2.2.1 d k
abbrev gs_made (s : gs_T) : Nat := s.2.2.2.1 0
abbrev gs_out (s : gs_T) : Nat := s.2.2.2.1 1
abbrev gs_thr (s : gs_T) : Nat := s.2.2.2.1 2
abbrev gs_time (s : gs_T) : Int32 := s.2.2.2.2.1
abbrev gs_rd (s : gs_T) : List (Nat × Int32 × Nat × Nat) := s.2.2.2.2.2
/-- n moves from a cell -/
def gs_wk (c : Nat) (ms : Nat → Nat) : Nat → Option Nat
  | 0 => some c
  | n + 1 => match gs_wk c ms n with
    | some x => gm_mv x (ms n)
    | none => none
/-- where a droplet is after n steps; none once it has gone into another -/
def gs_pos (s : gs_T) (d n : Nat) : Option Nat := if 0 < gs_i s d ∧ gs_l s d ≤ n then none else gs_wk (gs_c s d) (gs_m s d) (min n (gs_l s d))
def gs_alive (s : gs_T) (d : Nat) : Prop := d < gs_made s ∧ 0 < gs_u s d
def gs_nearO (c : Nat) (x : Option Nat) : Bool := match x with
  | some b => gm_near c b
  | none => false
/-- some droplet but d and e (numbers + 1; 0: none) is near the cell after n steps -/
def gs_met (s : gs_T) (d e c n : Nat) : Prop := ∃ k, gs_alive s k ∧ k + 1 ≠ d ∧ k + 1 ≠ e ∧ gs_nearO c (gs_pos s k n) = true
