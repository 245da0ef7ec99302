/-! the model: goods, picks, moves (printed by wip/whole/m5.py) -/
def sp_X6_mayBe (N : Nat → Int32) (Z : Nat → Nat → Int32) (x1 x2 : Int32) : Int32 :=
  if (sp_X6_most (x2 - x2 / (6 : Int32) * (6 : Int32))) < (sp_X6_of N Z x1 (0 : Int32)) then ((0 : Int32)) else ((1 : Int32))
theorem zb_X6_mayBe {N : Nat → Int32} {Z : Nat → Nat → Int32} {x1 x2 : Int32} : narrow .boolean (.int (sp_X6_mayBe N Z x1 x2)) = .int (sp_X6_mayBe N Z x1 x2) := by
  unfold sp_X6_mayBe
  (repeat' split) <;> first | rfl

def lp4_X6_weeklyOf (N : Nat → Int32) (Z : Nat → Nat → Int32) (x1 : Int32) : Nat → Int32 → Int32 → Int32
  | 0, v2, v3 => 0
  | n + 1, v2, v3 => if (N 0) ≤ v3 then (v2) else (if (sp_X6_of N Z v3 (6 : Int32)) = (-1 : Int32) then (lp4_X6_weeklyOf N Z x1 n (v2 + (0 : Int32)) (v3 + (1 : Int32)) ) else (lp4_X6_weeklyOf N Z x1 n (v2 + ((sp_X6_of N Z v3 ((2 : Int32) + x1)) * (sp_X6_walk (sp_X6_of N Z v3 (6 : Int32))))) (v3 + (1 : Int32)) ))
theorem lp4_X6_weeklyOf_s (N : Nat → Int32) (Z : Nat → Nat → Int32) (x1 : Int32) (n : Nat) (v2 : Int32) (v3 : Int32)  : lp4_X6_weeklyOf N Z x1 (n + 1) v2 v3 = if (N 0) ≤ v3 then (v2) else (if (sp_X6_of N Z v3 (6 : Int32)) = (-1 : Int32) then (lp4_X6_weeklyOf N Z x1 n (v2 + (0 : Int32)) (v3 + (1 : Int32)) ) else (lp4_X6_weeklyOf N Z x1 n (v2 + ((sp_X6_of N Z v3 ((2 : Int32) + x1)) * (sp_X6_walk (sp_X6_of N Z v3 (6 : Int32))))) (v3 + (1 : Int32)) )) := rfl
def sp_X6_weeklyOf (N : Nat → Int32) (Z : Nat → Nat → Int32) (x1 : Int32) : Int32 :=
  lp4_X6_weeklyOf N Z x1 21 (0 : Int32) (0 : Int32) 
def lp2_X6_highest (N : Nat → Int32) (Z : Nat → Nat → Int32) (x1 : Int32) : Nat → Int32 → Int32
  | 0, v2 => 0
  | n + 1, v2 => if (5 : Int32) ≤ v2 then (v2) else (if (sp_X6_most (v2 + (1 : Int32))) < (sp_X6_of N Z x1 (0 : Int32)) then (v2) else (lp2_X6_highest N Z x1 n (v2 + (1 : Int32)) ))
theorem lp2_X6_highest_s (N : Nat → Int32) (Z : Nat → Nat → Int32) (x1 : Int32) (n : Nat) (v2 : Int32)  : lp2_X6_highest N Z x1 (n + 1) v2 = if (5 : Int32) ≤ v2 then (v2) else (if (sp_X6_most (v2 + (1 : Int32))) < (sp_X6_of N Z x1 (0 : Int32)) then (v2) else (lp2_X6_highest N Z x1 n (v2 + (1 : Int32)) )) := rfl
def sp_X6_highest (N : Nat → Int32) (Z : Nat → Nat → Int32) (x1 : Int32) : Int32 :=
  lp2_X6_highest N Z x1 6 (0 : Int32) 
def sp_X6_goodOf (N : Nat → Int32) (Z : Nat → Nat → Int32) (x1 x2 : Int32) : Int32 :=
  if (sp_X6_isGood N Z x1) = 0 then ((-1 : Int32)) else (if (sp_X6_in x2 (0 : Int32) (11 : Int32)) = 0 then ((-1 : Int32)) else (if x2 = (11 : Int32) then ((sp_X6_highest N Z x1)) else (if x2 = (6 : Int32) then (if (sp_X6_of N Z x1 (6 : Int32)) = (-1 : Int32) then ((-4 : Int32)) else ((sp_X6_of N Z x1 x2))) else ((sp_X6_of N Z x1 x2)))))
def sp_X6_slotOf (N : Nat → Int32) (Z : Nat → Nat → Int32) (x1 x2 : Int32) : Int32 :=
  if (sp_X6_isSlot x1) = 0 then ((-1 : Int32)) else (if (sp_X6_in x2 (0 : Int32) (2 : Int32)) = 0 then ((-1 : Int32)) else (if x2 = (1 : Int32) then ((sp_X6_walk x1)) else (if x2 = (2 : Int32) then ((sp_X6_most (x1 - x1 / (6 : Int32) * (6 : Int32)))) else (if (sp_X6_goodAt N Z x1) = (-1 : Int32) then ((-4 : Int32)) else ((sp_X6_goodAt N Z x1))))))
def lp15_X6_nearest (N : Nat → Int32) (Z : Nat → Nat → Int32) (x1 : Int32) : Nat → Int32 → Int32 → Int32
  | 0, v2, v3 => 0
  | n + 1, v2, v3 => if (60 : Int32) ≤ v3 then (v2) else (if (sp_X6_goodAt N Z v3) = (-1 : Int32) then (if (sp_X6_mayBe N Z x1 v3) = 0 then (lp15_X6_nearest N Z x1 n v2 (v3 + (1 : Int32)) ) else (if v2 = (-4 : Int32) then (lp15_X6_nearest N Z x1 n v3 (v3 + (1 : Int32)) ) else (if (sp_X6_walk v2) ≤ (sp_X6_walk v3) then (lp15_X6_nearest N Z x1 n v2 (v3 + (1 : Int32)) ) else (lp15_X6_nearest N Z x1 n v3 (v3 + (1 : Int32)) )))) else (lp15_X6_nearest N Z x1 n v2 (v3 + (1 : Int32)) ))
theorem lp15_X6_nearest_s (N : Nat → Int32) (Z : Nat → Nat → Int32) (x1 : Int32) (n : Nat) (v2 : Int32) (v3 : Int32)  : lp15_X6_nearest N Z x1 (n + 1) v2 v3 = if (60 : Int32) ≤ v3 then (v2) else (if (sp_X6_goodAt N Z v3) = (-1 : Int32) then (if (sp_X6_mayBe N Z x1 v3) = 0 then (lp15_X6_nearest N Z x1 n v2 (v3 + (1 : Int32)) ) else (if v2 = (-4 : Int32) then (lp15_X6_nearest N Z x1 n v3 (v3 + (1 : Int32)) ) else (if (sp_X6_walk v2) ≤ (sp_X6_walk v3) then (lp15_X6_nearest N Z x1 n v2 (v3 + (1 : Int32)) ) else (lp15_X6_nearest N Z x1 n v3 (v3 + (1 : Int32)) )))) else (lp15_X6_nearest N Z x1 n v2 (v3 + (1 : Int32)) )) := rfl
def sp_X6_nearest (N : Nat → Int32) (Z : Nat → Nat → Int32) (x1 : Int32) : Int32 :=
  if (sp_X6_isGood N Z x1) = 0 then ((-1 : Int32)) else (lp15_X6_nearest N Z x1 61 (-4 : Int32) (0 : Int32) )
def sp_X6_room (N : Nat → Int32) (Z : Nat → Nat → Int32) (x1 : Int32) : Int32 :=
  if (sp_X6_of N Z x1 (8 : Int32)) ≤ ((sp_X6_of N Z x1 (1 : Int32)) - (sp_X6_of N Z x1 (7 : Int32))) then ((sp_X6_of N Z x1 (8 : Int32))) else (((sp_X6_of N Z x1 (1 : Int32)) - (sp_X6_of N Z x1 (7 : Int32))))
def sp_X6_brings (N : Nat → Int32) (Z : Nat → Nat → Int32) (x1 x2 : Int32) : Int32 × (Nat → Int32) :=
  let k58_1 : Nat → Int32 := sp_X6_lays N Z x1 (8 : Int32) ((sp_X6_of N Z x1 (8 : Int32)) - x2); let k74_2 : Nat → Int32 := sp_X6_lays k58_1 Z x1 (7 : Int32) ((sp_X6_of k58_1 Z x1 (7 : Int32)) + x2); let k81_3 : Nat → Int32 := sp_X6_adds k74_2 Z (3 : Int32) ((((x2 * (sp_X6_of N Z x1 (0 : Int32))) + (N 3)) - (1 : Int32)) / (N 3)); let k88_4 : Nat → Int32 := sp_X6_adds k81_3 Z (1 : Int32) (((((x2 * (sp_X6_of N Z x1 (0 : Int32))) + (N 3)) - (1 : Int32)) / (N 3)) * ((N 2) + (sp_X6_walk (sp_X6_of N Z x1 (6 : Int32))))); ((((((x2 * (sp_X6_of N Z x1 (0 : Int32))) + (N 3)) - (1 : Int32)) / (N 3)) * ((N 2) + (sp_X6_walk (sp_X6_of N Z x1 (6 : Int32))))), k88_4)
def sp_X6_canPick (N : Nat → Int32) (Z : Nat → Nat → Int32) (x1 x2 : Int32) : Int32 :=
  if (N 4) = (1 : Int32) then (if (sp_X6_of N Z x1 (6 : Int32)) = (-1 : Int32) then ((0 : Int32)) else (if ((sp_X6_of N Z x1 (7 : Int32)) + (sp_X6_room N Z x1)) < x2 then ((0 : Int32)) else ((1 : Int32)))) else (if (sp_X6_of N Z x1 (6 : Int32)) = (-1 : Int32) then ((0 : Int32)) else (if ((sp_X6_of N Z x1 (7 : Int32)) + (0 : Int32)) < x2 then ((0 : Int32)) else ((1 : Int32))))
theorem zb_X6_canPick {N : Nat → Int32} {Z : Nat → Nat → Int32} {x1 x2 : Int32} : narrow .boolean (.int (sp_X6_canPick N Z x1 x2)) = .int (sp_X6_canPick N Z x1 x2) := by
  unfold sp_X6_canPick
  (repeat' split) <;> first | rfl

def sp_X6_picks (N : Nat → Int32) (Z : Nat → Nat → Int32) (x1 x2 : Int32) : Int32 × (Nat → Int32) :=
  if x2 ≤ (sp_X6_of N Z x1 (7 : Int32)) then (let k51_1 : Nat → Int32 := sp_X6_lays N Z x1 (7 : Int32) ((sp_X6_of N Z x1 (7 : Int32)) - x2); let k67_2 : Nat → Int32 := sp_X6_lays k51_1 Z x1 (9 : Int32) ((sp_X6_of k51_1 Z x1 (9 : Int32)) + (1 : Int32)); let k83_3 : Nat → Int32 := sp_X6_lays k67_2 Z x1 (10 : Int32) ((sp_X6_of k67_2 Z x1 (10 : Int32)) + x2); let k90_4 : Nat → Int32 := sp_X6_adds k83_3 Z (0 : Int32) (sp_X6_walk (sp_X6_of N Z x1 (6 : Int32))); let k97_5 : Nat → Int32 := sp_X6_adds k90_4 Z (7 : Int32) (1 : Int32); (((0 : Int32) + (sp_X6_walk (sp_X6_of N Z x1 (6 : Int32)))), k97_5)) else (let k18_1 : Int32 × (Nat → Int32) := sp_X6_brings N Z x1 (sp_X6_room N Z x1); let N2 : Nat → Int32 := k18_1.2; let k51_3 : Nat → Int32 := sp_X6_lays N2 Z x1 (7 : Int32) ((sp_X6_of N2 Z x1 (7 : Int32)) - x2); let k67_4 : Nat → Int32 := sp_X6_lays k51_3 Z x1 (9 : Int32) ((sp_X6_of k51_3 Z x1 (9 : Int32)) + (1 : Int32)); let k83_5 : Nat → Int32 := sp_X6_lays k67_4 Z x1 (10 : Int32) ((sp_X6_of k67_4 Z x1 (10 : Int32)) + x2); let k90_6 : Nat → Int32 := sp_X6_adds k83_5 Z (0 : Int32) (sp_X6_walk (sp_X6_of N2 Z x1 (6 : Int32))); let k97_7 : Nat → Int32 := sp_X6_adds k90_6 Z (7 : Int32) (1 : Int32); ((k18_1.1 + (sp_X6_walk (sp_X6_of N2 Z x1 (6 : Int32)))), k97_7))
def sp_X6_canRefill (N : Nat → Int32) (Z : Nat → Nat → Int32) (x1 : Int32) : Int32 :=
  if (sp_X6_of N Z x1 (6 : Int32)) = (-1 : Int32) then ((0 : Int32)) else (if (sp_X6_room N Z x1) ≤ 0 then ((0 : Int32)) else ((1 : Int32)))
theorem zb_X6_canRefill {N : Nat → Int32} {Z : Nat → Nat → Int32} {x1 : Int32} : narrow .boolean (.int (sp_X6_canRefill N Z x1)) = .int (sp_X6_canRefill N Z x1) := by
  unfold sp_X6_canRefill
  (repeat' split) <;> first | rfl

def sp_X6_canMove (N : Nat → Int32) (Z : Nat → Nat → Int32) (x1 x2 : Int32) : Int32 :=
  if (sp_X6_of N Z x1 (6 : Int32)) = (-1 : Int32) then ((0 : Int32)) else (if (sp_X6_goodAt N Z x2) = (-1 : Int32) then (if (sp_X6_mayBe N Z x1 x2) = 0 then ((0 : Int32)) else ((1 : Int32))) else ((0 : Int32)))
theorem zb_X6_canMove {N : Nat → Int32} {Z : Nat → Nat → Int32} {x1 x2 : Int32} : narrow .boolean (.int (sp_X6_canMove N Z x1 x2)) = .int (sp_X6_canMove N Z x1 x2) := by
  unfold sp_X6_canMove
  (repeat' split) <;> first | (with_reducible exact zb_X6_mayBe) | rfl

def sp_X6_canExchange (N : Nat → Int32) (Z : Nat → Nat → Int32) (x1 x2 : Int32) : Int32 :=
  if x1 = x2 then ((0 : Int32)) else (if (sp_X6_of N Z x1 (6 : Int32)) = (-1 : Int32) then ((0 : Int32)) else (if (sp_X6_of N Z x2 (6 : Int32)) = (-1 : Int32) then ((0 : Int32)) else (if (sp_X6_mayBe N Z x1 (sp_X6_of N Z x2 (6 : Int32))) = 0 then ((0 : Int32)) else (if (sp_X6_mayBe N Z x2 (sp_X6_of N Z x1 (6 : Int32))) = 0 then ((0 : Int32)) else ((1 : Int32))))))
theorem zb_X6_canExchange {N : Nat → Int32} {Z : Nat → Nat → Int32} {x1 x2 : Int32} : narrow .boolean (.int (sp_X6_canExchange N Z x1 x2)) = .int (sp_X6_canExchange N Z x1 x2) := by
  unfold sp_X6_canExchange
  (repeat' split) <;> first | (with_reducible exact zb_X6_mayBe) | rfl

def sp_X6_canGo (N : Nat → Int32) (Z : Nat → Nat → Int32) (x1 x2 : Int32) : Int32 :=
  if (sp_X6_goodAt N Z x2) = (-1 : Int32) then ((sp_X6_canMove N Z x1 x2)) else ((sp_X6_canExchange N Z x1 (sp_X6_goodAt N Z x2)))
theorem zb_X6_canGo {N : Nat → Int32} {Z : Nat → Nat → Int32} {x1 x2 : Int32} : narrow .boolean (.int (sp_X6_canGo N Z x1 x2)) = .int (sp_X6_canGo N Z x1 x2) := by
  unfold sp_X6_canGo
  (repeat' split) <;> first | (with_reducible exact zb_X6_canExchange) | (with_reducible exact zb_X6_canMove) | rfl

def sp_X6_walkOf (N : Nat → Int32) (Z : Nat → Nat → Int32) (x1 x2 x3 : Int32) : Int32 :=
  if (x2 / (6 : Int32)) ≤ (x3 / (6 : Int32)) then ((((((4 : Int32) * ((x3 / (6 : Int32)) - (x2 / (6 : Int32)))) + (sp_X6_reach x2)) + (sp_X6_reach x3)) + (sp_X6_of N Z x1 (0 : Int32)))) else ((((((4 : Int32) * ((x2 / (6 : Int32)) - (x3 / (6 : Int32)))) + (sp_X6_reach x2)) + (sp_X6_reach x3)) + (sp_X6_of N Z x1 (0 : Int32))))
def sp_X6_goWalk (N : Nat → Int32) (Z : Nat → Nat → Int32) (x1 x2 : Int32) : Int32 :=
  if (sp_X6_goodAt N Z x2) = (-1 : Int32) then (((sp_X6_walkOf N Z x1 (sp_X6_of N Z x1 (6 : Int32)) x2) + (0 : Int32))) else (((sp_X6_walkOf N Z x1 (sp_X6_of N Z x1 (6 : Int32)) x2) + (sp_X6_walkOf N Z (sp_X6_goodAt N Z x2) x2 (sp_X6_of N Z x1 (6 : Int32)))))
def sp_X6_goSaves (N : Nat → Int32) (Z : Nat → Nat → Int32) (x1 x2 : Int32) : Int32 :=
  if (sp_X6_goodAt N Z x2) = (-1 : Int32) then ((((sp_X6_walk (sp_X6_of N Z x1 (6 : Int32))) - (sp_X6_walk x2)) * (sp_X6_of N Z x1 ((2 : Int32) + (sp_X6_season N Z))))) else ((((sp_X6_walk (sp_X6_of N Z x1 (6 : Int32))) - (sp_X6_walk x2)) * ((sp_X6_of N Z x1 ((2 : Int32) + (sp_X6_season N Z))) - (sp_X6_of N Z (sp_X6_goodAt N Z x2) ((2 : Int32) + (sp_X6_season N Z))))))
def sp_X6_goWorth (N : Nat → Int32) (Z : Nat → Nat → Int32) (x1 x2 : Int32) : Int32 :=
  (((sp_X6_goSaves N Z x1 x2) * (sp_X6_weeksLeft N Z)) - (sp_X6_goWalk N Z x1 x2))
def sp_X6_goes (N : Nat → Int32) (Z : Nat → Nat → Int32) (x1 x2 : Int32) : Int32 × (Nat → Int32) :=
  let k22_1 : Nat → Int32 := sp_X6_adds N Z (2 : Int32) (sp_X6_goWalk N Z x1 x2); let k29_2 : Nat → Int32 := sp_X6_adds k22_1 Z (4 : Int32) (sp_X6_goSaves N Z x1 x2); let k36_3 : Nat → Int32 := sp_X6_adds k29_2 Z (6 : Int32) (1 : Int32); if (sp_X6_goodAt N Z x2) = (-1 : Int32) then (let k63_4 : Nat → Int32 := sp_X6_lays k36_3 Z x1 (6 : Int32) x2; ((sp_X6_goSaves N Z x1 x2), k63_4)) else (let k55_4 : Nat → Int32 := sp_X6_lays k36_3 Z (sp_X6_goodAt N Z x2) (6 : Int32) (sp_X6_of k36_3 Z x1 (6 : Int32)); let k63_5 : Nat → Int32 := sp_X6_lays k55_4 Z x1 (6 : Int32) x2; ((sp_X6_goSaves N Z x1 x2), k63_5))
def sp_X6_account (N : Nat → Int32) (Z : Nat → Nat → Int32) (x1 : Int32) : Int32 :=
  if (sp_X6_in x1 (0 : Int32) (7 : Int32)) = 0 then ((-1 : Int32)) else (if x1 = (4 : Int32) then (((100000000 : Int32) + (N ((ix ((5 : Int32) + x1)))))) else (if x1 = (5 : Int32) then (((100000000 : Int32) + (N ((ix ((5 : Int32) + x1)))))) else (((0 : Int32) + (N ((ix ((5 : Int32) + x1))))))))
def lp4_X6_sumOf (N : Nat → Int32) (Z : Nat → Nat → Int32) (x1 : Int32) : Nat → Int32 → Int32 → Int32
  | 0, v2, v3 => 0
  | n + 1, v2, v3 => if (N 0) ≤ v3 then (v2) else (if (sp_X6_of N Z v3 (6 : Int32)) = (-1 : Int32) then (if x1 = (5 : Int32) then (lp4_X6_sumOf N Z x1 n (v2 + (sp_X6_of N Z v3 (7 : Int32))) (v3 + (1 : Int32)) ) else (if x1 = (6 : Int32) then (lp4_X6_sumOf N Z x1 n (v2 + (sp_X6_of N Z v3 (8 : Int32))) (v3 + (1 : Int32)) ) else (lp4_X6_sumOf N Z x1 n (v2 + (0 : Int32)) (v3 + (1 : Int32)) ))) else (if x1 = (5 : Int32) then (lp4_X6_sumOf N Z x1 n (v2 + (sp_X6_of N Z v3 (7 : Int32))) (v3 + (1 : Int32)) ) else (if x1 = (6 : Int32) then (lp4_X6_sumOf N Z x1 n (v2 + (sp_X6_of N Z v3 (8 : Int32))) (v3 + (1 : Int32)) ) else (if x1 = (1 : Int32) then (lp4_X6_sumOf N Z x1 n (v2 + (1 : Int32)) (v3 + (1 : Int32)) ) else (if (sp_X6_of N Z v3 (7 : Int32)) = 0 then (lp4_X6_sumOf N Z x1 n (v2 + (1 : Int32)) (v3 + (1 : Int32)) ) else (lp4_X6_sumOf N Z x1 n (v2 + (0 : Int32)) (v3 + (1 : Int32)) ))))))
theorem lp4_X6_sumOf_s (N : Nat → Int32) (Z : Nat → Nat → Int32) (x1 : Int32) (n : Nat) (v2 : Int32) (v3 : Int32)  : lp4_X6_sumOf N Z x1 (n + 1) v2 v3 = if (N 0) ≤ v3 then (v2) else (if (sp_X6_of N Z v3 (6 : Int32)) = (-1 : Int32) then (if x1 = (5 : Int32) then (lp4_X6_sumOf N Z x1 n (v2 + (sp_X6_of N Z v3 (7 : Int32))) (v3 + (1 : Int32)) ) else (if x1 = (6 : Int32) then (lp4_X6_sumOf N Z x1 n (v2 + (sp_X6_of N Z v3 (8 : Int32))) (v3 + (1 : Int32)) ) else (lp4_X6_sumOf N Z x1 n (v2 + (0 : Int32)) (v3 + (1 : Int32)) ))) else (if x1 = (5 : Int32) then (lp4_X6_sumOf N Z x1 n (v2 + (sp_X6_of N Z v3 (7 : Int32))) (v3 + (1 : Int32)) ) else (if x1 = (6 : Int32) then (lp4_X6_sumOf N Z x1 n (v2 + (sp_X6_of N Z v3 (8 : Int32))) (v3 + (1 : Int32)) ) else (if x1 = (1 : Int32) then (lp4_X6_sumOf N Z x1 n (v2 + (1 : Int32)) (v3 + (1 : Int32)) ) else (if (sp_X6_of N Z v3 (7 : Int32)) = 0 then (lp4_X6_sumOf N Z x1 n (v2 + (1 : Int32)) (v3 + (1 : Int32)) ) else (lp4_X6_sumOf N Z x1 n (v2 + (0 : Int32)) (v3 + (1 : Int32)) )))))) := rfl
def sp_X6_sumOf (N : Nat → Int32) (Z : Nat → Nat → Int32) (x1 : Int32) : Int32 :=
  lp4_X6_sumOf N Z x1 21 (0 : Int32) (0 : Int32) 
def lp13_X6_ends (Z : Nat → Nat → Int32) : Nat → Int32 → Int32 → Int32 → (Nat → Int32) → Nat → Int32
  | 0, v3, v2, v1, Nw => Nw
  | n + 1, v3, v2, v1, Nw => if (Nw 0) ≤ v3 then (let N101 : Nat → Int32 := upd Nw (1) ((Nw 1) + (1 : Int32)); let k105_102 : Nat → Int32 := sp_X6_adds N101 Z (5 : Int32) ((sp_X6_weeklyOf N101 Z (sp_X6_season N101 Z)) - v2); k105_102) else (if ((((3 : Int32) * (sp_X6_of Nw Z v3 ((2 : Int32) + v1))) + (sp_X6_of Nw Z v3 (9 : Int32))) / (4 : Int32)) ≤ (999 : Int32) then (let k66_101 : Nat → Int32 := sp_X6_lays Nw Z v3 ((2 : Int32) + v1) ((((3 : Int32) * (sp_X6_of Nw Z v3 ((2 : Int32) + v1))) + (sp_X6_of Nw Z v3 (9 : Int32))) / (4 : Int32)); let k74_102 : Nat → Int32 := sp_X6_lays k66_101 Z v3 (9 : Int32) (0 : Int32); lp13_X6_ends Z n (v3 + (1 : Int32)) v2 v1 k74_102) else (let k66_101 : Nat → Int32 := sp_X6_lays Nw Z v3 ((2 : Int32) + v1) (999 : Int32); let k74_102 : Nat → Int32 := sp_X6_lays k66_101 Z v3 (9 : Int32) (0 : Int32); lp13_X6_ends Z n (v3 + (1 : Int32)) v2 v1 k74_102))
theorem lp13_X6_ends_s (Z : Nat → Nat → Int32) (n : Nat) (v3 : Int32) (v2 : Int32) (v1 : Int32) (Nw : Nat → Int32) : lp13_X6_ends Z (n + 1) v3 v2 v1 Nw = if (Nw 0) ≤ v3 then (let N101 : Nat → Int32 := upd Nw (1) ((Nw 1) + (1 : Int32)); let k105_102 : Nat → Int32 := sp_X6_adds N101 Z (5 : Int32) ((sp_X6_weeklyOf N101 Z (sp_X6_season N101 Z)) - v2); k105_102) else (if ((((3 : Int32) * (sp_X6_of Nw Z v3 ((2 : Int32) + v1))) + (sp_X6_of Nw Z v3 (9 : Int32))) / (4 : Int32)) ≤ (999 : Int32) then (let k66_101 : Nat → Int32 := sp_X6_lays Nw Z v3 ((2 : Int32) + v1) ((((3 : Int32) * (sp_X6_of Nw Z v3 ((2 : Int32) + v1))) + (sp_X6_of Nw Z v3 (9 : Int32))) / (4 : Int32)); let k74_102 : Nat → Int32 := sp_X6_lays k66_101 Z v3 (9 : Int32) (0 : Int32); lp13_X6_ends Z n (v3 + (1 : Int32)) v2 v1 k74_102) else (let k66_101 : Nat → Int32 := sp_X6_lays Nw Z v3 ((2 : Int32) + v1) (999 : Int32); let k74_102 : Nat → Int32 := sp_X6_lays k66_101 Z v3 (9 : Int32) (0 : Int32); lp13_X6_ends Z n (v3 + (1 : Int32)) v2 v1 k74_102)) := rfl
def sp_X6_ends (N : Nat → Int32) (Z : Nat → Nat → Int32) : Nat → Int32 :=
  lp13_X6_ends Z 21 (0 : Int32) (sp_X6_weeklyOf N Z (sp_X6_season N Z)) (sp_X6_season N Z) N
def sp_X6_signAt (N : Nat → Int32) (Z : Nat → Nat → Int32) (x1 : Int32) : Int32 :=
  if (Z 0 1) ≤ x1 then ((0 : Int32)) else ((Z 3 (ix x1)))
def lp3_X6_copies12 (N : Nat → Int32) (x2 x4 : Int32) : Nat → Int32 → (Nat → Nat → Int32) → Nat → Nat → Int32
  | 0, v4, Zw => Zw
  | n + 1, v4, Zw => if (236 : Int32) ≤ v4 then (Zw) else (let Z101 : Nat → Nat → Int32 := zu Zw 1 (ix (x4 + v4)) (N ((ix (x2 + v4)))); lp3_X6_copies12 N x2 x4 n (v4 + (1 : Int32)) Z101)
theorem lp3_X6_copies12_s (N : Nat → Int32) (x2 x4 : Int32) (n : Nat) (v4 : Int32) (Zw : Nat → Nat → Int32) : lp3_X6_copies12 N x2 x4 (n + 1) v4 Zw = if (236 : Int32) ≤ v4 then (Zw) else (let Z101 : Nat → Nat → Int32 := zu Zw 1 (ix (x4 + v4)) (N ((ix (x2 + v4)))); lp3_X6_copies12 N x2 x4 n (v4 + (1 : Int32)) Z101) := rfl
def sp_X6_copies12 (N : Nat → Int32) (Z : Nat → Nat → Int32) (x2 x4 : Int32) : Nat → Nat → Int32 :=
  lp3_X6_copies12 N x2 x4 237 (0 : Int32) Z
def lp3_X6_copies21 (Z : Nat → Nat → Int32) (x2 x4 : Int32) : Nat → Int32 → (Nat → Int32) → Nat → Int32
  | 0, v4, Nw => Nw
  | n + 1, v4, Nw => if (236 : Int32) ≤ v4 then (Nw) else (let N101 : Nat → Int32 := upd Nw ((ix (x4 + v4))) (Z 1 (ix (x2 + v4))); lp3_X6_copies21 Z x2 x4 n (v4 + (1 : Int32)) N101)
theorem lp3_X6_copies21_s (Z : Nat → Nat → Int32) (x2 x4 : Int32) (n : Nat) (v4 : Int32) (Nw : Nat → Int32) : lp3_X6_copies21 Z x2 x4 (n + 1) v4 Nw = if (236 : Int32) ≤ v4 then (Nw) else (let N101 : Nat → Int32 := upd Nw ((ix (x4 + v4))) (Z 1 (ix (x2 + v4))); lp3_X6_copies21 Z x2 x4 n (v4 + (1 : Int32)) N101) := rfl
def sp_X6_copies21 (N : Nat → Int32) (Z : Nat → Nat → Int32) (x2 x4 : Int32) : Nat → Int32 :=
  lp3_X6_copies21 Z x2 x4 237 (0 : Int32) N
def lp3_X6_copies13 (N : Nat → Int32) (x2 x4 : Int32) : Nat → Int32 → (Nat → Nat → Int32) → Nat → Nat → Int32
  | 0, v4, Zw => Zw
  | n + 1, v4, Zw => if (236 : Int32) ≤ v4 then (Zw) else (let Z101 : Nat → Nat → Int32 := zu Zw 2 (ix (x4 + v4)) (N ((ix (x2 + v4)))); lp3_X6_copies13 N x2 x4 n (v4 + (1 : Int32)) Z101)
theorem lp3_X6_copies13_s (N : Nat → Int32) (x2 x4 : Int32) (n : Nat) (v4 : Int32) (Zw : Nat → Nat → Int32) : lp3_X6_copies13 N x2 x4 (n + 1) v4 Zw = if (236 : Int32) ≤ v4 then (Zw) else (let Z101 : Nat → Nat → Int32 := zu Zw 2 (ix (x4 + v4)) (N ((ix (x2 + v4)))); lp3_X6_copies13 N x2 x4 n (v4 + (1 : Int32)) Z101) := rfl
def sp_X6_copies13 (N : Nat → Int32) (Z : Nat → Nat → Int32) (x2 x4 : Int32) : Nat → Nat → Int32 :=
  lp3_X6_copies13 N x2 x4 237 (0 : Int32) Z
def lp3_X6_copies31 (Z : Nat → Nat → Int32) (x2 x4 : Int32) : Nat → Int32 → (Nat → Int32) → Nat → Int32
  | 0, v4, Nw => Nw
  | n + 1, v4, Nw => if (236 : Int32) ≤ v4 then (Nw) else (let N101 : Nat → Int32 := upd Nw ((ix (x4 + v4))) (Z 2 (ix (x2 + v4))); lp3_X6_copies31 Z x2 x4 n (v4 + (1 : Int32)) N101)
theorem lp3_X6_copies31_s (Z : Nat → Nat → Int32) (x2 x4 : Int32) (n : Nat) (v4 : Int32) (Nw : Nat → Int32) : lp3_X6_copies31 Z x2 x4 (n + 1) v4 Nw = if (236 : Int32) ≤ v4 then (Nw) else (let N101 : Nat → Int32 := upd Nw ((ix (x4 + v4))) (Z 2 (ix (x2 + v4))); lp3_X6_copies31 Z x2 x4 n (v4 + (1 : Int32)) N101) := rfl
def sp_X6_copies31 (N : Nat → Int32) (Z : Nat → Nat → Int32) (x2 x4 : Int32) : Nat → Int32 :=
  lp3_X6_copies31 Z x2 x4 237 (0 : Int32) N
