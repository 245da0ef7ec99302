/-! the model: its smallest methods (printed by wip/whole/m4.py) -/
def sp_X6_of (N : Nat → Int32) (Z : Nat → Nat → Int32) (x1 x2 : Int32) : Int32 :=
  (N ((ix (((16 : Int32) + ((11 : Int32) * x1)) + x2))))
def sp_X6_lays (N : Nat → Int32) (Z : Nat → Nat → Int32) (x1 x2 x3 : Int32) : Nat → Int32 :=
  let N1 : Nat → Int32 := upd N ((ix (((16 : Int32) + ((11 : Int32) * x1)) + x2))) x3; N1
def sp_X6_adds (N : Nat → Int32) (Z : Nat → Nat → Int32) (x1 x2 : Int32) : Nat → Int32 :=
  let N1 : Nat → Int32 := upd N ((ix ((5 : Int32) + x1))) ((N ((ix ((5 : Int32) + x1)))) + x2); N1
def sp_X6_isGood (N : Nat → Int32) (Z : Nat → Nat → Int32) (x1 : Int32) : Int32 :=
  (sp_X6_in x1 (0 : Int32) ((N 0) - (1 : Int32)))
theorem zb_X6_isGood {N : Nat → Int32} {Z : Nat → Nat → Int32} {x1 : Int32} : narrow .boolean (.int (sp_X6_isGood N Z x1)) = .int (sp_X6_isGood N Z x1) := by
  unfold sp_X6_isGood
  (repeat' split) <;> first | (with_reducible exact zb_X6_in) | rfl

def sp_X6_season (N : Nat → Int32) (Z : Nat → Nat → Int32) : Int32 :=
  (((N 1) / (13 : Int32)) - ((N 1) / (13 : Int32)) / (4 : Int32) * (4 : Int32))
def sp_X6_weeksLeft (N : Nat → Int32) (Z : Nat → Nat → Int32) : Int32 :=
  ((13 : Int32) - ((N 1) - (N 1) / (13 : Int32) * (13 : Int32)))
def lp2_X6_goodAt (N : Nat → Int32) (Z : Nat → Nat → Int32) (x1 : Int32) : Nat → Int32 → Int32
  | 0, v2 => 0
  | n + 1, v2 => if (N 0) ≤ v2 then ((-1 : Int32)) else (if (sp_X6_of N Z v2 (6 : Int32)) = x1 then (v2) else (lp2_X6_goodAt N Z x1 n (v2 + (1 : Int32)) ))
theorem lp2_X6_goodAt_s (N : Nat → Int32) (Z : Nat → Nat → Int32) (x1 : Int32) (n : Nat) (v2 : Int32)  : lp2_X6_goodAt N Z x1 (n + 1) v2 = if (N 0) ≤ v2 then ((-1 : Int32)) else (if (sp_X6_of N Z v2 (6 : Int32)) = x1 then (v2) else (lp2_X6_goodAt N Z x1 n (v2 + (1 : Int32)) )) := rfl
def sp_X6_goodAt (N : Nat → Int32) (Z : Nat → Nat → Int32) (x1 : Int32) : Int32 :=
  lp2_X6_goodAt N Z x1 21 (0 : Int32) 
