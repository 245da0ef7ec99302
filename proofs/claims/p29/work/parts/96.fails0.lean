/-! PURE: calls that fail (printed by wip/p29/m_fails.py) -/
section FE
variable {N G : Nat → Int32} {n : Int32}
theorem ign (hn : n = N 0) : sp_X4_isGood N G n = 0 := by
  subst hn
  unfold sp_X4_isGood
  by_cases c : N 0 < 0
  · rw [if_pos c]
  · rw [if_neg c, if_pos leR]
theorem igm : sp_X4_isGood N G (-1 : Int32) = 0 := by
  unfold sp_X4_isGood
  rw [if_pos (by decide : (-1 : Int32) < 0)]
theorem fe_0 : (sp_X4_addGood N G (0 : Int32) (1 : Int32)).1 = -1 := by
  unfold sp_X4_addGood
  dsimp only
  rw [if_pos (by decide : sp_X5_isIn (0 : Int32) (1 : Int32) (40 : Int32) = 0)]
theorem fe_1 : (sp_X4_addGood N G (41 : Int32) (1 : Int32)).1 = -1 := by
  unfold sp_X4_addGood
  dsimp only
  rw [if_pos (by decide : sp_X5_isIn (41 : Int32) (1 : Int32) (40 : Int32) = 0)]
theorem fe_2 : (sp_X4_addGood N G (1 : Int32) (0 : Int32)).1 = -1 := by
  unfold sp_X4_addGood
  dsimp only
  rw [if_neg (by decide : ¬ sp_X5_isIn (1 : Int32) (1 : Int32) (40 : Int32) = 0), if_pos (by decide : sp_X5_isIn (0 : Int32) (1 : Int32) (200 : Int32) = 0)]
theorem fe_3 : (sp_X4_addGood N G (1 : Int32) (201 : Int32)).1 = -1 := by
  unfold sp_X4_addGood
  dsimp only
  rw [if_neg (by decide : ¬ sp_X5_isIn (1 : Int32) (1 : Int32) (40 : Int32) = 0), if_pos (by decide : sp_X5_isIn (201 : Int32) (1 : Int32) (200 : Int32) = 0)]
theorem fe_4 (hn : n = N 0) : (sp_X4_changeDemand N G n (0 : Int32) (0 : Int32)).1 = -1 := by
  unfold sp_X4_changeDemand
  dsimp only
  rw [if_pos (ign hn)]
theorem fe_5 : (sp_X4_changeDemand N G (0 : Int32) (4 : Int32) (0 : Int32)).1 = -1 := by
  unfold sp_X4_changeDemand
  dsimp only
  by_cases c : sp_X4_isGood N G (0 : Int32) = 0
  · rw [if_pos c]
  · rw [if_neg c, if_pos (by decide : sp_X5_isSeason (4 : Int32) = 0)]
theorem fe_6 : (sp_X4_changeDemand N G (0 : Int32) (0 : Int32) (1000 : Int32)).1 = -1 := by
  unfold sp_X4_changeDemand
  dsimp only
  by_cases c : sp_X4_isGood N G (0 : Int32) = 0
  · rw [if_pos c]
  · rw [if_neg c, if_neg (by decide : ¬ sp_X5_isSeason (0 : Int32) = 0), if_pos (by decide : sp_X5_isIn (1000 : Int32) (0 : Int32) (999 : Int32) = 0)]
theorem fe_7 : (sp_X4_changeDemand N G (0 : Int32) (0 : Int32) (-1 : Int32)).1 = -1 := by
  unfold sp_X4_changeDemand
  dsimp only
  by_cases c : sp_X4_isGood N G (0 : Int32) = 0
  · rw [if_pos c]
  · rw [if_neg c, if_neg (by decide : ¬ sp_X5_isSeason (0 : Int32) = 0), if_pos (by decide : sp_X5_isIn (-1 : Int32) (0 : Int32) (999 : Int32) = 0)]
theorem fe_8 (hn : n = N 0) : (sp_X4_addToStore N G n (1 : Int32)).1 = -1 := by
  unfold sp_X4_addToStore
  dsimp only
  rw [if_pos (ign hn)]
theorem fe_9 : (sp_X4_addToStore N G (0 : Int32) (0 : Int32)).1 = -1 := by
  unfold sp_X4_addToStore
  dsimp only
  by_cases c : sp_X4_isGood N G (0 : Int32) = 0
  · rw [if_pos c]
  · rw [if_neg c, if_pos (by decide : sp_X5_isIn (0 : Int32) (1 : Int32) (5000 : Int32) = 0)]
theorem fe_10 : (sp_X4_addToStore N G (0 : Int32) (5001 : Int32)).1 = -1 := by
  unfold sp_X4_addToStore
  dsimp only
  by_cases c : sp_X4_isGood N G (0 : Int32) = 0
  · rw [if_pos c]
  · rw [if_neg c, if_pos (by decide : sp_X5_isIn (5001 : Int32) (1 : Int32) (5000 : Int32) = 0)]
theorem fe_11 (hn : n = N 0) : (sp_X4_putIntoSlot N G n (0 : Int32)).1 = -1 := by
  unfold sp_X4_putIntoSlot
  dsimp only
  rw [if_pos (ign hn)]
theorem fe_12 : (sp_X4_putIntoSlot N G (0 : Int32) (60 : Int32)).1 = -1 := by
  unfold sp_X4_putIntoSlot
  dsimp only
  by_cases c : sp_X4_isGood N G (0 : Int32) = 0
  · rw [if_pos c]
  · rw [if_neg c, if_pos (by decide : sp_X2_isSlot (60 : Int32) = 0)]
theorem fe_13 (hn : n = N 0) : (sp_X4_takeOutOfSlot N G n).1 = -1 := by
  unfold sp_X4_takeOutOfSlot
  dsimp only
  rw [if_pos (ign hn)]
theorem fe_14 (hn : n = N 0) : sp_X4_numberOfGood N G n (0 : Int32) = -1 := by
  unfold sp_X4_numberOfGood
  rw [if_pos (ign hn)]
theorem fe_15 : sp_X4_numberOfGood N G (0 : Int32) (12 : Int32) = -1 := by
  unfold sp_X4_numberOfGood
  by_cases c : sp_X4_isGood N G (0 : Int32) = 0
  · rw [if_pos c]
  · rw [if_neg c, if_pos (by decide : sp_X5_isIn (12 : Int32) (0 : Int32) (11 : Int32) = 0)]
theorem fe_16 : sp_X4_numberOfSlot N G (60 : Int32) (0 : Int32) = -1 := by
  unfold sp_X4_numberOfSlot
  rw [if_pos (by decide : sp_X2_isSlot (60 : Int32) = 0)]
theorem fe_17 : sp_X4_numberOfSlot N G (0 : Int32) (3 : Int32) = -1 := by
  unfold sp_X4_numberOfSlot
  rw [if_neg (by decide : ¬ sp_X2_isSlot (0 : Int32) = 0), if_neg (by decide : ¬ (3 : Int32) = (0 : Int32)), if_neg (by decide : ¬ (3 : Int32) = (1 : Int32)), if_neg (by decide : ¬ (3 : Int32) = (2 : Int32))]
theorem fe_18 (hn : n = N 0) : sp_X4_nearestFreeSlot N G n = -1 := by
  unfold sp_X4_nearestFreeSlot
  rw [if_pos (ign hn)]
theorem fe_19 (hn : n = N 0) : (sp_X4_pickUnits N G n (1 : Int32)).1 = -1 := by
  unfold sp_X4_pickUnits
  dsimp only
  rw [if_pos (ign hn)]
theorem fe_20 : (sp_X4_pickUnits N G (0 : Int32) (0 : Int32)).1 = -1 := by
  unfold sp_X4_pickUnits
  dsimp only
  by_cases c : sp_X4_isGood N G (0 : Int32) = 0
  · rw [if_pos c]
  · rw [if_neg c, if_pos (by decide : sp_X5_isIn (0 : Int32) (1 : Int32) (200 : Int32) = 0)]
theorem fe_21 : (sp_X4_pickUnits N G (0 : Int32) (201 : Int32)).1 = -1 := by
  unfold sp_X4_pickUnits
  dsimp only
  by_cases c : sp_X4_isGood N G (0 : Int32) = 0
  · rw [if_pos c]
  · rw [if_neg c, if_pos (by decide : sp_X5_isIn (201 : Int32) (1 : Int32) (200 : Int32) = 0)]
theorem fe_22 : (sp_X4_refillSlot N G (-1 : Int32)).1 = -1 := by
  unfold sp_X4_refillSlot
  dsimp only
  rw [if_pos igm]
theorem fe_23 (hn : n = N 0) : (sp_X4_moveGood N G n (0 : Int32)).1 = -1 := by
  unfold sp_X4_moveGood
  dsimp only
  rw [if_pos (ign hn)]
theorem fe_24 : (sp_X4_moveGood N G (0 : Int32) (-1 : Int32)).1 = -1 := by
  unfold sp_X4_moveGood
  dsimp only
  by_cases c : sp_X4_isGood N G (0 : Int32) = 0
  · rw [if_pos c]
  · rw [if_neg c, if_pos (by decide : sp_X2_isSlot (-1 : Int32) = 0)]
theorem fe_25 (hn : n = N 0) : (sp_X4_exchangeGoods N G n (0 : Int32)).1 = -1 := by
  unfold sp_X4_exchangeGoods
  dsimp only
  rw [if_pos (ign hn)]
theorem fe_26 : (sp_X4_exchangeGoods N G (0 : Int32) (0 : Int32)).1 = -1 := by
  unfold sp_X4_exchangeGoods
  dsimp only
  by_cases c : sp_X4_isGood N G (0 : Int32) = 0
  · rw [if_pos c]
  · rw [if_neg c, if_neg c, if_pos rfl]
theorem fe_27 (hn : n = N 0) : sp_X4_numberOfChange N G n (0 : Int32) (0 : Int32) = -1 := by
  unfold sp_X4_numberOfChange
  rw [if_pos (ign hn)]
theorem fe_28 : sp_X4_numberOfChange N G (0 : Int32) (0 : Int32) (3 : Int32) = -1 := by
  unfold sp_X4_numberOfChange
  by_cases c : sp_X4_isGood N G (0 : Int32) = 0
  · rw [if_pos c]
  · rw [if_neg c, if_neg (by decide : ¬ sp_X2_isSlot (0 : Int32) = 0), if_pos (by decide : sp_X5_isIn (3 : Int32) (0 : Int32) (2 : Int32) = 0)]
theorem fe_29 : sp_X4_numberOfChange N G (0 : Int32) (60 : Int32) (0 : Int32) = -1 := by
  unfold sp_X4_numberOfChange
  by_cases c : sp_X4_isGood N G (0 : Int32) = 0
  · rw [if_pos c]
  · rw [if_neg c, if_pos (by decide : sp_X2_isSlot (60 : Int32) = 0)]
theorem fe_30 : sp_X4_numberOfBest N G (3 : Int32) = -1 := by
  unfold sp_X4_numberOfBest
  rw [if_pos (by decide : sp_X5_isIn (3 : Int32) (0 : Int32) (2 : Int32) = 0)]
theorem fe_31 : sp_X4_numberOfBest N G (-1 : Int32) = -1 := by
  unfold sp_X4_numberOfBest
  rw [if_pos (by decide : sp_X5_isIn (-1 : Int32) (0 : Int32) (2 : Int32) = 0)]
theorem fe_32 : (sp_X4_doBest N G (0 : Int32)).1 = -1 := by
  unfold sp_X4_doBest
  rw [if_pos (by decide : sp_X5_isIn (0 : Int32) (1 : Int32) (10 : Int32) = 0)]
theorem fe_33 : (sp_X4_doBest N G (11 : Int32)).1 = -1 := by
  unfold sp_X4_doBest
  rw [if_pos (by decide : sp_X5_isIn (11 : Int32) (1 : Int32) (10 : Int32) = 0)]
theorem fe_36 : sp_X4_numberOfAccount N G (8 : Int32) = -1 := by
  unfold sp_X4_numberOfAccount
  rw [if_neg (by decide : ¬ (8 : Int32) = (0 : Int32)), if_neg (by decide : ¬ (8 : Int32) = (1 : Int32)), if_neg (by decide : ¬ (8 : Int32) = (2 : Int32)), if_neg (by decide : ¬ (8 : Int32) = (3 : Int32)), if_neg (by decide : ¬ (8 : Int32) = (4 : Int32)), if_neg (by decide : ¬ (8 : Int32) = (5 : Int32)), if_neg (by decide : ¬ (8 : Int32) = (6 : Int32)), if_neg (by decide : ¬ (8 : Int32) = (7 : Int32))]
theorem fe_37 : sp_X4_numberOfWarehouse N G (10 : Int32) = -1 := by
  unfold sp_X4_numberOfWarehouse
  rw [if_neg (by decide : ¬ (10 : Int32) = (0 : Int32)), if_neg (by decide : ¬ (10 : Int32) = (1 : Int32)), if_neg (by decide : ¬ (10 : Int32) = (2 : Int32)), if_neg (by decide : ¬ (10 : Int32) = (3 : Int32)), if_neg (by decide : ¬ (10 : Int32) = (4 : Int32)), if_neg (by decide : ¬ (10 : Int32) = (5 : Int32)), if_neg (by decide : ¬ (10 : Int32) = (6 : Int32)), if_neg (by decide : ¬ (10 : Int32) = (7 : Int32)), if_neg (by decide : ¬ (10 : Int32) = (8 : Int32)), if_neg (by decide : ¬ (10 : Int32) = (9 : Int32)), if_pos rfl]
theorem fe_38 : sp_X4_numberOfWarehouse N G (23 : Int32) = -1 := by
  unfold sp_X4_numberOfWarehouse
  rw [if_neg (by decide : ¬ (23 : Int32) = (0 : Int32)), if_neg (by decide : ¬ (23 : Int32) = (1 : Int32)), if_neg (by decide : ¬ (23 : Int32) = (2 : Int32)), if_neg (by decide : ¬ (23 : Int32) = (3 : Int32)), if_neg (by decide : ¬ (23 : Int32) = (4 : Int32)), if_neg (by decide : ¬ (23 : Int32) = (5 : Int32)), if_neg (by decide : ¬ (23 : Int32) = (6 : Int32)), if_neg (by decide : ¬ (23 : Int32) = (7 : Int32)), if_neg (by decide : ¬ (23 : Int32) = (8 : Int32)), if_neg (by decide : ¬ (23 : Int32) = (9 : Int32)), if_neg (by decide : ¬ (23 : Int32) = (10 : Int32)), if_neg (by decide : ¬ (23 : Int32) = (11 : Int32)), if_neg (by decide : ¬ (23 : Int32) = (12 : Int32)), if_neg (by decide : ¬ (23 : Int32) = (13 : Int32)), if_neg (by decide : ¬ (23 : Int32) = (14 : Int32)), if_neg (by decide : ¬ (23 : Int32) = (15 : Int32)), if_neg (by decide : ¬ (23 : Int32) = (16 : Int32)), if_neg (by decide : ¬ (23 : Int32) = (17 : Int32)), if_neg (by decide : ¬ (23 : Int32) = (18 : Int32)), if_neg (by decide : ¬ (23 : Int32) = (19 : Int32)), if_neg (by decide : ¬ (23 : Int32) = (20 : Int32)), if_neg (by decide : ¬ (23 : Int32) = (21 : Int32)), if_neg (by decide : ¬ (23 : Int32) = (22 : Int32))]
theorem fe_39 : (sp_X4_changeSetting N G (3 : Int32) (0 : Int32)).1 = -1 := by
  unfold sp_X4_changeSetting
  dsimp only
  rw [if_pos (by decide : sp_X5_isIn (3 : Int32) (0 : Int32) (2 : Int32) = 0)]
theorem fe_40 : (sp_X4_changeSetting N G (0 : Int32) (201 : Int32)).1 = -1 := by
  unfold sp_X4_changeSetting
  dsimp only
  rw [if_neg (by decide : ¬ sp_X5_isIn (0 : Int32) (0 : Int32) (2 : Int32) = 0), if_pos (by decide : sp_X5_isIn (201 : Int32) (lstS (ix (0 : Int32))) (grtS (ix (0 : Int32))) = 0)]
theorem fe_41 : (sp_X4_changeSetting N G (1 : Int32) (0 : Int32)).1 = -1 := by
  unfold sp_X4_changeSetting
  dsimp only
  rw [if_neg (by decide : ¬ sp_X5_isIn (1 : Int32) (0 : Int32) (2 : Int32) = 0), if_pos (by decide : sp_X5_isIn (0 : Int32) (lstS (ix (1 : Int32))) (grtS (ix (1 : Int32))) = 0)]
theorem fe_42 : (sp_X4_changeSetting N G (2 : Int32) (2 : Int32)).1 = -1 := by
  unfold sp_X4_changeSetting
  dsimp only
  rw [if_neg (by decide : ¬ sp_X5_isIn (2 : Int32) (0 : Int32) (2 : Int32) = 0), if_pos (by decide : sp_X5_isIn (2 : Int32) (lstS (ix (2 : Int32))) (grtS (ix (2 : Int32))) = 0)]
end FE
section FX
variable {Y Y0 : Nat → va_H} {S q V : Nat → Int32} {z : Int32} {U : Nat → Int32} {y : Int32} {I : Nat → Int32} {f : Int32 × ((Nat → Int32) × (Nat → Int32))}
theorem fl_c (h0 : FR Y0 Y) (hf : f.1 = -1) : ∃ Y', chg Y S q V z U y I f = (-1, (Y', I)) ∧ FR Y0 Y' := by
  obtain ⟨Y', e, h⟩ := chg_f (Y := Y) (S := S) (q := q) (V := V) (z := z) (U := U) (y := y) (I := I) (f := f) (by rw [hf]; decide)
  exact ⟨Y', by rw [e, hf], h0.tr h⟩
theorem fe_wk : sp_X5_weekly Y S q V z U y I (4 : Int32) = -1 := by
  unfold sp_X5_weekly
  rw [if_pos (by decide : sp_X5_isSeason (4 : Int32) = 0)]
theorem fe_ab : sp_X5_atBest Y S q V z U y I (-1 : Int32) = (-1, (V, z, U, y)) := by
  unfold sp_X5_atBest
  rw [if_pos (by decide : sp_X5_isSeason (-1 : Int32) = 0)]
theorem fe_ty {x : Int32} (hx : sp_X5_isIn x (32 : Int32) (126 : Int32) = 0) : sp_X5_type Y S q V z U y I x = (-1, (S, q)) := by
  unfold sp_X5_type sp_X1_append
  rw [if_pos hx]
theorem fe_fa : sp_X5_fault Y S q V z U y I (2 : Int32) = (-1, (Y, q, I)) := by
  unfold sp_X5_fault
  rw [if_neg (by decide : ¬ (2 : Int32) = 0), if_neg (by decide : ¬ (2 : Int32) = (1 : Int32))]
theorem mrk_FR (h : FR Y0 Y) : mrk (Y 4).2.1 (Y 4).2.2 = mrk (Y0 4).2.1 (Y0 4).2.2 := by rw [h.n4]
end FX
