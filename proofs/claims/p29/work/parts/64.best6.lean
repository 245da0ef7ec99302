/-! the model: best (printed by wip/whole/m15.py) -/
def sp_X6_best (N : Nat → Int32) (Z : Nat → Nat → Int32) (x1 : Int32) : Int32 × ((Nat → Int32) × (Nat → Nat → Int32)) :=
  if (sp_X6_in x1 (0 : Int32) (2 : Int32)) = 0 then (((-1 : Int32), (N, Z))) else (let k12_1 : Nat → Nat → Int32 := sp_X6_finds N Z; if (k12_1 0 4) = 0 then (((-4 : Int32), (N, k12_1))) else (if x1 = 0 then (((k12_1 0 2), (N, k12_1))) else (if x1 = (1 : Int32) then (((k12_1 0 3), (N, k12_1))) else (((k12_1 0 4), (N, k12_1))))))
