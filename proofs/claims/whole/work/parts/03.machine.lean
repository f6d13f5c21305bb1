/-! A MACHINE OF MY OWN: cells by the order of their making, frames with what is known of the locals; what an instruction does there. An entry of a method's table: the instruction, the place behind it, the target, three numbers (a local, a field, a method .. and the place of its word in lw_tbl), an int, a long, the pairs of a switch. -/
abbrev am_I : Type := Instr × Nat × Nat × Nat × Nat × Nat × Int32 × Int64 × List (Int32 × Nat)
abbrev am_T : Type := List (List (Option am_I))
abbrev am_C : Type := (Bool × Nat × (Nat → Int32)) ⊕ (Nat × List Value)
abbrev am_H : Type := List am_C
abbrev am_L : Type := List (Option Value)
abbrev am_F : Type := Nat × am_L × List Value × am_H
abbrev am_R : Type := am_F ⊕ ((Prop × am_F × am_F) ⊕ ((Prop × am_F) ⊕ ((Prop × Option Value) ⊕ ((Nat × List Value × am_F) ⊕ Unit))))
def am_fetch (t : am_T) (pc : Nat) : Option am_I := match t[pc / 16]? with
  | some r => (match r[pc % 16]? with
    | some (some e) => some e
    | _ => none)
  | none => none
def am_ty : Nat → Nat → FieldType
  | 0 => tyX0
  | 1 => tyX1
  | 2 => tyX2
  | 3 => tyX3
  | 4 => tyX4
  | 5 => tyX5
  | 6 => tyX6
  | 7 => tyX7
  | 8 => tyX8
  | _ => tyX9
