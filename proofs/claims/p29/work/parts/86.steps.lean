/-! PURE: a call of the law, on both sides (printed by wip/whole/mk86.py) -/
section PY
variable {S q V U I : Nat → Int32} {z y : Int32} {Z : Nat → Nat → Int32} {Y : Nat → va_H} {b : Int}
theorem s_good (hb : 0 ≤ b) (R : rel b Y S q I (Y 4).2.1 Z) {x1 x2 : Int32} : (sp_X5_good Y S q V z U y I x1 x2).1 = (sp_X6_good (Y 4).2.1 Z x1 x2).1 ∧ rel b (sp_X5_good Y S q V z U y I x1 x2).2.1 S q (sp_X5_good Y S q V z U y I x1 x2).2.2 (sp_X6_good (Y 4).2.1 Z x1 x2).2.1 (sp_X6_good (Y 4).2.1 Z x1 x2).2.2 :=
  have P : stp b (Y 4).2.1 Z (sp_X4_addGood (Y 4).2.1 (Y 4).2.2 x1 x2) (sp_X6_good (Y 4).2.1 Z x1 x2) := r_good hb R.2.1
  have P2 := chg_s (V := V) (z := z) (U := U) (y := y) (b' := b) (Int.le_refl _) R P
  P2
theorem s_demand (R : rel b Y S q I (Y 4).2.1 Z) {x1 x2 x3 : Int32} : (sp_X5_demand Y S q V z U y I x1 x2 x3).1 = (sp_X6_demand (Y 4).2.1 Z x1 x2 x3).1 ∧ rel b (sp_X5_demand Y S q V z U y I x1 x2 x3).2.1 S q (sp_X5_demand Y S q V z U y I x1 x2 x3).2.2 (sp_X6_demand (Y 4).2.1 Z x1 x2 x3).2.1 (sp_X6_demand (Y 4).2.1 Z x1 x2 x3).2.2 :=
  have P : stp b (Y 4).2.1 Z (sp_X4_changeDemand (Y 4).2.1 (Y 4).2.2 x1 x2 x3) (sp_X6_demand (Y 4).2.1 Z x1 x2 x3) := r_demand R.2.1
  have P2 := chg_s (V := V) (z := z) (U := U) (y := y) (b' := b) (Int.le_refl _) R P
  P2
theorem s_deliver (R : rel b Y S q I (Y 4).2.1 Z) {x1 x2 : Int32} : (sp_X5_deliver Y S q V z U y I x1 x2).1 = (sp_X6_deliver (Y 4).2.1 Z x1 x2).1 ∧ rel b (sp_X5_deliver Y S q V z U y I x1 x2).2.1 S q (sp_X5_deliver Y S q V z U y I x1 x2).2.2 (sp_X6_deliver (Y 4).2.1 Z x1 x2).2.1 (sp_X6_deliver (Y 4).2.1 Z x1 x2).2.2 :=
  have P : stp b (Y 4).2.1 Z (sp_X4_addToStore (Y 4).2.1 (Y 4).2.2 x1 x2) (sp_X6_deliver (Y 4).2.1 Z x1 x2) := r_deliver R.2.1
  have P2 := chg_s (V := V) (z := z) (U := U) (y := y) (b' := b) (Int.le_refl _) R P
  P2
theorem s_place (R : rel b Y S q I (Y 4).2.1 Z) {x1 x2 : Int32} : (sp_X5_place Y S q V z U y I x1 x2).1 = (sp_X6_place (Y 4).2.1 Z x1 x2).1 ∧ rel b (sp_X5_place Y S q V z U y I x1 x2).2.1 S q (sp_X5_place Y S q V z U y I x1 x2).2.2 (sp_X6_place (Y 4).2.1 Z x1 x2).2.1 (sp_X6_place (Y 4).2.1 Z x1 x2).2.2 :=
  have P : stp b (Y 4).2.1 Z (sp_X4_putIntoSlot (Y 4).2.1 (Y 4).2.2 x1 x2) (sp_X6_place (Y 4).2.1 Z x1 x2) := r_place R.2.1
  have P2 := chg_s (V := V) (z := z) (U := U) (y := y) (b' := b) (Int.le_refl _) R P
  P2
theorem s_take (R : rel b Y S q I (Y 4).2.1 Z) {x1 : Int32} : (sp_X5_take Y S q V z U y I x1).1 = (sp_X6_take (Y 4).2.1 Z x1).1 ∧ rel b (sp_X5_take Y S q V z U y I x1).2.1 S q (sp_X5_take Y S q V z U y I x1).2.2 (sp_X6_take (Y 4).2.1 Z x1).2.1 (sp_X6_take (Y 4).2.1 Z x1).2.2 :=
  have P : stp b (Y 4).2.1 Z (sp_X4_takeOutOfSlot (Y 4).2.1 (Y 4).2.2 x1) (sp_X6_take (Y 4).2.1 Z x1) := r_take R.2.1
  have P2 := chg_s (V := V) (z := z) (U := U) (y := y) (b' := b) (Int.le_refl _) R P
  P2
theorem s_pick (hb : b ≤ 100000) (R : rel b Y S q I (Y 4).2.1 Z) {x1 x2 : Int32} : (sp_X5_pick Y S q V z U y I x1 x2).1 = (sp_X6_pick (Y 4).2.1 Z x1 x2).1 ∧ rel (b + 1) (sp_X5_pick Y S q V z U y I x1 x2).2.1 S q (sp_X5_pick Y S q V z U y I x1 x2).2.2 (sp_X6_pick (Y 4).2.1 Z x1 x2).2.1 (sp_X6_pick (Y 4).2.1 Z x1 x2).2.2 :=
  have P : stp (b + 1) (Y 4).2.1 Z (sp_X4_pickUnits (Y 4).2.1 (Y 4).2.2 x1 x2) (sp_X6_pick (Y 4).2.1 Z x1 x2) := r_pick hb R.2.1
  have P2 := chg_s (V := V) (z := z) (U := U) (y := y) (b' := (b + 1)) ((by omega)) R P
  P2
theorem s_refill (R : rel b Y S q I (Y 4).2.1 Z) {x1 : Int32} : (sp_X5_refill Y S q V z U y I x1).1 = (sp_X6_refill (Y 4).2.1 Z x1).1 ∧ rel b (sp_X5_refill Y S q V z U y I x1).2.1 S q (sp_X5_refill Y S q V z U y I x1).2.2 (sp_X6_refill (Y 4).2.1 Z x1).2.1 (sp_X6_refill (Y 4).2.1 Z x1).2.2 :=
  have P : stp b (Y 4).2.1 Z (sp_X4_refillSlot (Y 4).2.1 (Y 4).2.2 x1) (sp_X6_refill (Y 4).2.1 Z x1) := r_refill R.2.1
  have P2 := chg_s (V := V) (z := z) (U := U) (y := y) (b' := b) (Int.le_refl _) R P
  P2
theorem s_endWeek (hb : b ≤ 100000) (R : rel b Y S q I (Y 4).2.1 Z)  : (sp_X5_endWeek Y S q V z U y I ).1 = (sp_X6_endWeek (Y 4).2.1 Z ).1 ∧ rel b (sp_X5_endWeek Y S q V z U y I ).2.1 S q (sp_X5_endWeek Y S q V z U y I ).2.2 (sp_X6_endWeek (Y 4).2.1 Z ).2.1 (sp_X6_endWeek (Y 4).2.1 Z ).2.2 :=
  have P : stp b (Y 4).2.1 Z (sp_X4_finishWeek (Y 4).2.1 (Y 4).2.2 ) (sp_X6_endWeek (Y 4).2.1 Z ) := r_endWeek hb R.2.1
  have P2 := chg_s (V := V) (z := z) (U := U) (y := y) (b' := b) (Int.le_refl _) R P
  P2
theorem s_move (R : rel b Y S q I (Y 4).2.1 Z) {x1 x2 : Int32} : (sp_X5_move Y S q V z U y I x1 x2).1 = (sp_X6_move (Y 4).2.1 Z x1 x2).1 ∧ rel b (sp_X5_move Y S q V z U y I x1 x2).2.1 S q (sp_X5_move Y S q V z U y I x1 x2).2.2 (sp_X6_move (Y 4).2.1 Z x1 x2).2.1 (sp_X6_move (Y 4).2.1 Z x1 x2).2.2 :=
  have P : stp b (Y 4).2.1 Z (sp_X4_moveGood (Y 4).2.1 (Y 4).2.2 x1 x2) (sp_X6_move (Y 4).2.1 Z x1 x2) := r_move R.2.1
  have P2 := chg_s (V := V) (z := z) (U := U) (y := y) (b' := b) (Int.le_refl _) R P
  P2
theorem s_exchange (R : rel b Y S q I (Y 4).2.1 Z) {x1 x2 : Int32} : (sp_X5_exchange Y S q V z U y I x1 x2).1 = (sp_X6_exchange (Y 4).2.1 Z x1 x2).1 ∧ rel b (sp_X5_exchange Y S q V z U y I x1 x2).2.1 S q (sp_X5_exchange Y S q V z U y I x1 x2).2.2 (sp_X6_exchange (Y 4).2.1 Z x1 x2).2.1 (sp_X6_exchange (Y 4).2.1 Z x1 x2).2.2 :=
  have P : stp b (Y 4).2.1 Z (sp_X4_exchangeGoods (Y 4).2.1 (Y 4).2.2 x1 x2) (sp_X6_exchange (Y 4).2.1 Z x1 x2) := r_exchange R.2.1
  have P2 := chg_s (V := V) (z := z) (U := U) (y := y) (b' := b) (Int.le_refl _) R P
  P2
theorem s_improve (R : rel b Y S q I (Y 4).2.1 Z) {x1 : Int32} : (sp_X5_improve Y S q V z U y I x1).1 = (sp_X6_improve (Y 4).2.1 Z x1).1 ∧ rel b (sp_X5_improve Y S q V z U y I x1).2.1 S q (sp_X5_improve Y S q V z U y I x1).2.2 (sp_X6_improve (Y 4).2.1 Z x1).2.1 (sp_X6_improve (Y 4).2.1 Z x1).2.2 :=
  have P : stp b (Y 4).2.1 Z (sp_X4_doBest (Y 4).2.1 (Y 4).2.2 x1) (sp_X6_improve (Y 4).2.1 Z x1) := r_improve R.2.1
  have P2 := chg_s (V := V) (z := z) (U := U) (y := y) (b' := b) (Int.le_refl _) R P
  P2
theorem s_set (R : rel b Y S q I (Y 4).2.1 Z) {x1 x2 : Int32} : (sp_X5_set Y S q V z U y I x1 x2).1 = (sp_X6_set (Y 4).2.1 Z x1 x2).1 ∧ rel b (sp_X5_set Y S q V z U y I x1 x2).2.1 S q (sp_X5_set Y S q V z U y I x1 x2).2.2 (sp_X6_set (Y 4).2.1 Z x1 x2).2.1 (sp_X6_set (Y 4).2.1 Z x1 x2).2.2 :=
  have P : stp b (Y 4).2.1 Z (sp_X4_changeSetting (Y 4).2.1 (Y 4).2.2 x1 x2) (sp_X6_set (Y 4).2.1 Z x1 x2) := r_set R.2.1
  have P2 := chg_s (V := V) (z := z) (U := U) (y := y) (b' := b) (Int.le_refl _) R P
  P2
theorem s_goodOf (R : rel b Y S q I (Y 4).2.1 Z) {x1 x2 : Int32} : sp_X5_goodOf Y S q V z U y I x1 x2 = sp_X6_goodOf (Y 4).2.1 Z x1 x2 := r_goodOf R.2.1
theorem s_slotOf (R : rel b Y S q I (Y 4).2.1 Z) {x1 x2 : Int32} : sp_X5_slotOf Y S q V z U y I x1 x2 = sp_X6_slotOf (Y 4).2.1 Z x1 x2 := r_slotOf R.2.1
theorem s_nearest (R : rel b Y S q I (Y 4).2.1 Z) {x1 : Int32} : sp_X5_nearest Y S q V z U y I x1 = sp_X6_nearest (Y 4).2.1 Z x1 := r_nearest R.2.1
theorem s_worth (R : rel b Y S q I (Y 4).2.1 Z) {x1 x2 x3 : Int32} : sp_X5_worth Y S q V z U y I x1 x2 x3 = sp_X6_worth (Y 4).2.1 Z x1 x2 x3 := r_worth R.2.1
theorem s_weekly (R : rel b Y S q I (Y 4).2.1 Z) {x1 : Int32} : sp_X5_weekly Y S q V z U y I x1 = sp_X6_weekly (Y 4).2.1 Z x1 := r_weekly R.2.1
theorem s_account (R : rel b Y S q I (Y 4).2.1 Z) {x1 : Int32} : sp_X5_account Y S q V z U y I x1 = sp_X6_account (Y 4).2.1 Z x1 := r_account R.2.1
theorem s_count (R : rel b Y S q I (Y 4).2.1 Z) {x1 : Int32} : sp_X5_count Y S q V z U y I x1 = sp_X6_count (Y 4).2.1 Z x1 := r_count R.2.1 R.2.2.2.1 R.2.2.2.2.2.2.1
theorem s_best (R : rel b Y S q I (Y 4).2.1 Z) {x1 : Int32} : sp_X5_best Y S q V z U y I x1 = (sp_X6_best (Y 4).2.1 Z x1).1 ∧ rel b Y S q I (sp_X6_best (Y 4).2.1 Z x1).2.1 (sp_X6_best (Y 4).2.1 Z x1).2.2 := by
  refine ⟨r_best R.2.1, ?_⟩
  have K := keep_no R (W3 := Y) (fun _ _ => rfl) rfl rfl (za_fq (fnd (Z := Z) R.sf).1) (fun _ _ => rfl)
  unfold sp_X6_best
  split
  · exact R
  · dsimp only
    split
    · exact K
    · split
      · exact K
      · split
        · exact K
        · exact K
theorem s_atBest (R : rel b Y S q I (Y 4).2.1 Z) {x1 : Int32} : (sp_X5_atBest Y S q V z U y I x1).1 = (sp_X6_atBest (Y 4).2.1 Z x1).1 ∧ rel b Y S q I (Y 4).2.1 (sp_X6_atBest (Y 4).2.1 Z x1).2 := by
  have K := r_atBest (Z := Z) (V := V) (U := U) (z := z) (y := y) (x := x1) R.2.1
  exact ⟨K.1, keep_no R (W3 := Y) (fun _ _ => rfl) rfl rfl K.2 (fun _ _ => rfl)⟩
theorem s_undo (R : rel b Y S q I (Y 4).2.1 Z) : (sp_X5_undo Y S q V z U y I).1 = (sp_X6_undo (Y 4).2.1 Z).1 ∧ rel b (sp_X5_undo Y S q V z U y I).2.1 S q (sp_X5_undo Y S q V z U y I).2.2 (sp_X6_undo (Y 4).2.1 Z).2.1 (sp_X6_undo (Y 4).2.1 Z).2.2 := r_undo R
theorem s_type (R : rel b Y S q I (Y 4).2.1 Z) {x1 : Int32} : (sp_X5_type Y S q V z U y I x1).1 = (sp_X6_type (Y 4).2.1 Z x1).1 ∧ rel b Y (sp_X5_type Y S q V z U y I x1).2.1 (sp_X5_type Y S q V z U y I x1).2.2 I (Y 4).2.1 (sp_X6_type (Y 4).2.1 Z x1).2 := r_type R
theorem s_fault (hb : b ≤ 90000) (R : rel b Y S q I (Y 4).2.1 Z) {x1 : Int32} : (sp_X5_fault Y S q V z U y I x1).1 = (sp_X6_fault (Y 4).2.1 Z x1).1 ∧ rel b (sp_X5_fault Y S q V z U y I x1).2.1 S (sp_X5_fault Y S q V z U y I x1).2.2.1 (sp_X5_fault Y S q V z U y I x1).2.2.2 (sp_X6_fault (Y 4).2.1 Z x1).2.1 (sp_X6_fault (Y 4).2.1 Z x1).2.2 := r_fault hb R rfl
theorem s_play (hb : b ≤ 90000) (R : rel b Y S q I (Y 4).2.1 Z) : (sp_X5_play Y S q V z U y I).1 = (sp_X6_play (Y 4).2.1 Z).1 ∧ rel (b + 61) (sp_X5_play Y S q V z U y I).2.1 S (sp_X5_play Y S q V z U y I).2.2.1 (sp_X5_play Y S q V z U y I).2.2.2 (sp_X6_play (Y 4).2.1 Z).2.1 (sp_X6_play (Y 4).2.1 Z).2.2 := r_play hb R rfl
end PY
