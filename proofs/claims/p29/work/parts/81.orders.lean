/-! PURE: an order done: class and model; the class's row may differ at 10 -/
theorem up10 {f : Nat → Int32} {k : Nat} {v x : Int32} (h : k ≠ 10) : upd (upd f 10 v) k x = upd (upd f k x) 10 v := upd_comm (fun e => h e.symm)
def lf (v : Int32) (r : Int32 × ((Nat → Int32) × (Nat → Int32))) : Int32 × ((Nat → Int32) × (Nat → Int32)) := (r.1, (upd r.2.1 10 v, r.2.2))
section PC
variable {N G : Nat → Int32} {v x y : Int32}
theorem k_isGood : sp_X4_isGood (upd N 10 v) G x = sp_X4_isGood N G x := by
  unfold sp_X4_isGood
  simp (disch := omega) only [pk_un]
theorem k_isPlaced : sp_X4_isPlaced (upd N 10 v) G x = sp_X4_isPlaced N G x := by
  unfold sp_X4_isPlaced
  simp (disch := omega) only [pk_un]
theorem k_bears : sp_X4_bears (upd N 10 v) G x y = sp_X4_bears N G x y := by
  unfold sp_X4_bears
  simp (disch := omega) only [pk_un]
theorem k_toBring : sp_X4_unitsToBring (upd N 10 v) G x = sp_X4_unitsToBring N G x := by
  unfold sp_X4_unitsToBring
  simp (disch := omega) only [pk_un]
theorem k_trips : sp_X4_tripsFor (upd N 10 v) G x = sp_X4_tripsFor N G x := by
  have e : ix (1 : Int32) = 1 := rfl
  unfold sp_X4_tripsFor
  rw [e]
  simp (disch := omega) only [pk_un]
theorem k_dem : sp_X4_demandOf (upd N 10 v) G x y = sp_X4_demandOf N G x y := pk_un (by omega)
theorem k_sea : sp_X4_presentSeason (upd N 10 v) G = sp_X4_presentSeason N G := by
  unfold sp_X4_presentSeason
  simp (disch := omega) only [pk_un]
theorem k_canGo : sp_X4_canGo (upd N 10 v) G x y = sp_X4_canGo N G x y := by
  unfold sp_X4_canGo
  simp (disch := omega) only [pk_un, k_bears, k_isGood]
theorem k_saved : sp_X4_savedByGoing (upd N 10 v) G x y = sp_X4_savedByGoing N G x y := by
  unfold sp_X4_savedByGoing
  simp (disch := omega) only [pk_un, k_dem, k_sea, k_isGood]
theorem k_walk : sp_X4_walkOfGoing (upd N 10 v) G x y = sp_X4_walkOfGoing N G x y := by
  unfold sp_X4_walkOfGoing
  simp (disch := omega) only [pk_un, k_isGood]
theorem k_bring : sp_X4_bring (upd N 10 v) G x y = lf v (sp_X4_bring N G x y) := by
  have e : ix (0 : Int32) = 0 := rfl
  unfold sp_X4_bring lf
  dsimp only
  rw [e]
  simp (disch := omega) only [pk_un, k_trips, up10]
theorem k_refill : sp_X4_refillSlot (upd N 10 v) G x = lf v (sp_X4_refillSlot N G x) := by
  unfold sp_X4_refillSlot
  dsimp only
  rw [k_isGood, k_isPlaced, k_toBring, k_bring]
  by_cases c1 : sp_X4_isGood N G x = 0
  · rw [if_pos c1, if_pos c1]; rfl
  · rw [if_neg c1, if_neg c1]
    by_cases c2 : sp_X4_isPlaced N G x = 0
    · rw [if_pos c2, if_pos c2]; rfl
    · rw [if_neg c2, if_neg c2]
      by_cases c3 : (1 : Int32) ≤ sp_X4_unitsToBring N G x
      · rw [if_pos c3, if_pos c3]; rfl
      · rw [if_neg c3, if_neg c3]; rfl
theorem k_pE {i : Nat} : pE (upd N 10 v) i x y = upd (pE N i x y) 10 v := by
  unfold pE
  simp (disch := omega) only [pk_un, up10]
theorem k_pk4 {i : Nat} {r : Int32 × ((Nat → Int32) × (Nat → Int32))} : pk4 (lf v r) i x = lf v (pk4 r i x) := by
  unfold pk4 lf
  dsimp only
  rw [pk_un (by omega), k_pE]
theorem k_pick {i : Nat} (h20 : i < 20) : sp_X4_pickUnits (upd N 10 v) G (nI i) x = lf v (sp_X4_pickUnits N G (nI i) x) := by
  rw [pick_unf h20, pick_unf h20, k_isGood, k_isPlaced, k_toBring, k_bring, k_bring, k_pk4, k_pk4, pk_un (by omega), pk_un (by omega)]
  by_cases c1 : sp_X4_isGood N G (nI i) = 0
  · rw [if_pos c1, if_pos c1]; rfl
  · rw [if_neg c1, if_neg c1]
    by_cases c2 : sp_X6_in x 1 200 = 0
    · rw [if_pos c2, if_pos c2]; rfl
    · rw [if_neg c2, if_neg c2]
      by_cases c3 : sp_X4_isPlaced N G (nI i) = 0
      · rw [if_pos c3, if_pos c3]; rfl
      · rw [if_neg c3, if_neg c3]
        by_cases c4 : x ≤ N (23 + 11 * i)
        · rw [if_pos c4, if_pos c4]
          by_cases c5 : x ≤ N (23 + 11 * i) + 0
          · rw [if_pos c5, if_pos c5]
          · rw [if_neg c5, if_neg c5]; rfl
        · rw [if_neg c4, if_neg c4]
          by_cases c6 : N 4 = 1
          · rw [if_pos c6, if_pos c6]
            by_cases c7 : x ≤ N (23 + 11 * i) + sp_X4_unitsToBring N G (nI i)
            · rw [if_pos c7, if_pos c7]
            · rw [if_neg c7, if_neg c7]; rfl
          · rw [if_neg c6, if_neg c6]
            by_cases c5 : x ≤ N (23 + 11 * i) + 0
            · rw [if_pos c5, if_pos c5]
            · rw [if_neg c5, if_neg c5]; rfl
theorem k_stand : sp_X4_standIn (upd N 10 v) G x y = (upd (sp_X4_standIn N G x y).1 10 v, (sp_X4_standIn N G x y).2) := by
  unfold sp_X4_standIn
  dsimp only
  rw [up10 (by omega)]
theorem k_goTo : sp_X4_goTo (upd N 10 v) G x y = lf v (sp_X4_goTo N G x y) := by
  unfold sp_X4_goTo
  dsimp only
  rw [k_saved]
  simp (disch := omega) only [pk_un, up10]
  rw [k_walk]
  rw [k_isGood, k_stand, k_stand]
  dsimp only
  rw [k_stand]
  by_cases c : sp_X4_isGood (upd (upd (upd N 11 (N 11 + 1)) 7 (N 7 + sp_X4_walkOfGoing (upd N 11 (N 11 + 1)) G x y)) 9 (N 9 + sp_X4_savedByGoing N G x y)) (upd G (ix (N (22 + 11 * ix x))) (-1)) (G (ix y)) = 0
  · rw [if_pos c, if_pos c]; rfl
  · rw [if_neg c, if_neg c]; rfl
theorem k_move : sp_X4_moveGood (upd N 10 v) G x y = lf v (sp_X4_moveGood N G x y) := by
  unfold sp_X4_moveGood
  dsimp only
  rw [k_isGood, k_isGood, k_canGo, k_goTo]
  by_cases c1 : sp_X4_isGood N G x = 0
  · rw [if_pos c1, if_pos c1]; rfl
  · rw [if_neg c1, if_neg c1]
    by_cases c2 : sp_X2_isSlot y = 0
    · rw [if_pos c2, if_pos c2]; rfl
    · rw [if_neg c2, if_neg c2]
      by_cases c3 : sp_X4_isGood N G (G (ix y)) = 0
      · rw [if_pos c3, if_pos c3]
        by_cases c4 : sp_X4_canGo N G x y = 0
        · rw [if_pos c4, if_pos c4]; rfl
        · rw [if_neg c4, if_neg c4]; rfl
      · rw [if_neg c3, if_neg c3]; rfl
theorem k_exch : sp_X4_exchangeGoods (upd N 10 v) G x y = lf v (sp_X4_exchangeGoods N G x y) := by
  unfold sp_X4_exchangeGoods
  dsimp only
  rw [k_isGood, k_isGood, k_isPlaced, pk_un (show 22 + 11 * ix y ≠ 10 by omega), k_canGo, k_goTo]
  by_cases c1 : sp_X4_isGood N G x = 0
  · rw [if_pos c1, if_pos c1]; rfl
  · rw [if_neg c1, if_neg c1]
    by_cases c2 : sp_X4_isGood N G y = 0
    · rw [if_pos c2, if_pos c2]; rfl
    · rw [if_neg c2, if_neg c2]
      by_cases c5 : x = y
      · rw [if_pos c5, if_pos c5]; rfl
      · rw [if_neg c5, if_neg c5]
        by_cases c3 : sp_X4_isPlaced N G y = 0
        · rw [if_pos c3, if_pos c3]; rfl
        · rw [if_neg c3, if_neg c3]
          by_cases c4 : sp_X4_canGo N G x (N (22 + 11 * ix y)) = 0
          · rw [if_pos c4, if_pos c4]; rfl
          · rw [if_neg c4, if_neg c4]; rfl
theorem k_week_l : ∀ (n : Nat) (v2 v1 : Int32) (N : Nat → Int32), lp20_X4_finishWeek G n v2 v1 (upd N 10 v) = lf v (lp20_X4_finishWeek G n v2 v1 N) := by
  intro n
  induction n with
  | zero => intro v2 v1 N; rfl
  | succ n ih =>
    intro v2 v1 N
    rw [lp20_X4_finishWeek_s, lp20_X4_finishWeek_s]
    dsimp only
    rw [k_dem, pk_un (show (0 : Nat) ≠ 10 by omega), pk_un (show (1 : Nat) ≠ 10 by omega), pk_un (show 25 + 11 * ix v2 ≠ 10 by omega)]
    by_cases c : N 0 ≤ v2
    · rw [if_pos c, if_pos c]
      unfold lf
      dsimp only
      rw [up10 (by omega), pk_us, pk_un (by omega), pk_us]
    · rw [if_neg c, if_neg c, up10 (by omega), up10 (by omega)]
      exact ih _ _ _
theorem k_week : sp_X4_finishWeek (upd N 10 v) G = lf v (sp_X4_finishWeek N G) := by
  unfold sp_X4_finishWeek
  rw [k_sea, pk_un (by omega), k_week_l]
  by_cases c : N 1 < (1000 : Int32)
  · rw [if_pos c, if_pos c]
  · rw [if_neg c, if_neg c]; rfl
end PC
section PO
variable {N M G : Nat → Int32} {Z : Nat → Nat → Int32} {b : Int} {x y : Int32}
/-- the class's question and deed, on a row -/
def hgs (N G : Nat → Int32) (k x y : Int32) : Int32 := if k = 109 then (if sp_X4_isGood N G x = 0 then 0 else if sp_X2_isSlot y = 0 then 0 else 1) else if k = 119 then 1 else if k = 120 then (if sp_X4_isGood N G x = 0 then 0 else if sp_X4_isGood N G y = 0 then 0 else 1) else sp_X4_isGood N G x
def dor (N G : Nat → Int32) (k x y : Int32) : Int32 × ((Nat → Int32) × (Nat → Int32)) := if k = 109 then sp_X4_moveGood N G x y else if k = 112 then sp_X4_pickUnits N G x y else if k = 114 then sp_X4_refillSlot N G x else if k = 120 then sp_X4_exchangeGoods N G x y else sp_X4_finishWeek N G
theorem hgs_10 {v k : Int32} : hgs (upd N 10 v) G k x y = hgs N G k x y := by
  unfold hgs
  rw [k_isGood, k_isGood]
theorem hgs_119 : hgs N G 119 x y = (1) := by
  unfold hgs
  rw [if_neg (by decide : ¬ (119 : Int32) = (109 : Int32)), if_pos (rfl : (119 : Int32) = (119 : Int32))]
theorem dor_119 : dor N G 119 x y = sp_X4_finishWeek N G := by
  unfold dor
  rw [if_neg (by decide : ¬ (119 : Int32) = (109 : Int32)), if_neg (by decide : ¬ (119 : Int32) = (112 : Int32)), if_neg (by decide : ¬ (119 : Int32) = (114 : Int32)), if_neg (by decide : ¬ (119 : Int32) = (120 : Int32))]
theorem can_119 (h : Z 0 6 = 119) : sp_X6_can N Z = (if (1000 : Int32) ≤ N 1 then 0 else 1) := by
  unfold sp_X6_can
  rw [h, if_neg (by decide : ¬ (119 : Int32) = (109 : Int32)), if_neg (by decide : ¬ (119 : Int32) = (112 : Int32)), if_neg (by decide : ¬ (119 : Int32) = (114 : Int32)), if_neg (by decide : ¬ (119 : Int32) = (120 : Int32))]
theorem doe_119 (h : Z 0 6 = 119) : sp_X6_does N Z = sp_X6_ends N Z := by
  unfold sp_X6_does
  dsimp only
  rw [h, if_neg (by decide : ¬ (119 : Int32) = (109 : Int32)), if_neg (by decide : ¬ (119 : Int32) = (112 : Int32)), if_neg (by decide : ¬ (119 : Int32) = (114 : Int32)), if_neg (by decide : ¬ (119 : Int32) = (120 : Int32))]
theorem thr_119 (h : Z 0 6 = 119) : sp_X6_isThere N Z = (1) := by
  unfold sp_X6_isThere
  rw [h, if_pos (rfl : (119 : Int32) = (119 : Int32))]
theorem hgs_114 : hgs N G 114 x y = (sp_X4_isGood N G x) := by
  unfold hgs
  rw [if_neg (by decide : ¬ (114 : Int32) = (109 : Int32)), if_neg (by decide : ¬ (114 : Int32) = (119 : Int32)), if_neg (by decide : ¬ (114 : Int32) = (120 : Int32))]
theorem dor_114 : dor N G 114 x y = sp_X4_refillSlot N G x := by
  unfold dor
  rw [if_neg (by decide : ¬ (114 : Int32) = (109 : Int32)), if_neg (by decide : ¬ (114 : Int32) = (112 : Int32)), if_pos (rfl : (114 : Int32) = (114 : Int32))]
theorem can_114 (h : Z 0 6 = 114) : sp_X6_can N Z = (sp_X6_canRefill N Z (Z 0 7)) := by
  unfold sp_X6_can
  rw [h, if_neg (by decide : ¬ (114 : Int32) = (109 : Int32)), if_neg (by decide : ¬ (114 : Int32) = (112 : Int32)), if_pos (rfl : (114 : Int32) = (114 : Int32))]
theorem doe_114 (h : Z 0 6 = 114) : sp_X6_does N Z = (sp_X6_brings N Z (Z 0 7) (sp_X6_room N Z (Z 0 7))).2 := by
  unfold sp_X6_does
  dsimp only
  rw [h, if_neg (by decide : ¬ (114 : Int32) = (109 : Int32)), if_neg (by decide : ¬ (114 : Int32) = (112 : Int32)), if_pos (rfl : (114 : Int32) = (114 : Int32))]
theorem thr_114 (h : Z 0 6 = 114) : sp_X6_isThere N Z = (if sp_X6_isGood N Z (Z 0 7) = 0 then 0 else 1) := by
  unfold sp_X6_isThere
  rw [h, if_neg (by decide : ¬ (114 : Int32) = (119 : Int32)), if_neg (by decide : ¬ (114 : Int32) = (109 : Int32)), if_neg (by decide : ¬ (114 : Int32) = (120 : Int32))]
theorem hgs_112 : hgs N G 112 x y = (sp_X4_isGood N G x) := by
  unfold hgs
  rw [if_neg (by decide : ¬ (112 : Int32) = (109 : Int32)), if_neg (by decide : ¬ (112 : Int32) = (119 : Int32)), if_neg (by decide : ¬ (112 : Int32) = (120 : Int32))]
theorem dor_112 : dor N G 112 x y = sp_X4_pickUnits N G x y := by
  unfold dor
  rw [if_neg (by decide : ¬ (112 : Int32) = (109 : Int32)), if_pos (rfl : (112 : Int32) = (112 : Int32))]
theorem can_112 (h : Z 0 6 = 112) : sp_X6_can N Z = (if sp_X6_in (Z 0 8) 1 200 = 0 then 0 else if sp_X6_canPick N Z (Z 0 7) (Z 0 8) = 0 then 0 else 1) := by
  unfold sp_X6_can
  rw [h, if_neg (by decide : ¬ (112 : Int32) = (109 : Int32)), if_pos (rfl : (112 : Int32) = (112 : Int32))]
theorem doe_112 (h : Z 0 6 = 112) : sp_X6_does N Z = (sp_X6_picks N Z (Z 0 7) (Z 0 8)).2 := by
  unfold sp_X6_does
  dsimp only
  rw [h, if_neg (by decide : ¬ (112 : Int32) = (109 : Int32)), if_pos (rfl : (112 : Int32) = (112 : Int32))]
theorem thr_112 (h : Z 0 6 = 112) : sp_X6_isThere N Z = (if sp_X6_isGood N Z (Z 0 7) = 0 then 0 else 1) := by
  unfold sp_X6_isThere
  rw [h, if_neg (by decide : ¬ (112 : Int32) = (119 : Int32)), if_neg (by decide : ¬ (112 : Int32) = (109 : Int32)), if_neg (by decide : ¬ (112 : Int32) = (120 : Int32))]
theorem hgs_109 : hgs N G 109 x y = (if sp_X4_isGood N G x = 0 then 0 else if sp_X2_isSlot y = 0 then 0 else 1) := by
  unfold hgs
  rw [if_pos (rfl : (109 : Int32) = (109 : Int32))]
theorem dor_109 : dor N G 109 x y = sp_X4_moveGood N G x y := by
  unfold dor
  rw [if_pos (rfl : (109 : Int32) = (109 : Int32))]
theorem can_109 (h : Z 0 6 = 109) : sp_X6_can N Z = (sp_X6_canMove N Z (Z 0 7) (Z 0 8)) := by
  unfold sp_X6_can
  rw [h, if_pos (rfl : (109 : Int32) = (109 : Int32))]
theorem doe_109 (h : Z 0 6 = 109) : sp_X6_does N Z = (sp_X6_goes N Z (Z 0 7) (Z 0 8)).2 := by
  unfold sp_X6_does
  dsimp only
  rw [h, if_pos (rfl : (109 : Int32) = (109 : Int32))]
theorem thr_109 (h : Z 0 6 = 109) : sp_X6_isThere N Z = (if sp_X6_isGood N Z (Z 0 7) = 0 then 0 else if sp_X6_isSlot (Z 0 8) = 0 then 0 else 1) := by
  unfold sp_X6_isThere
  rw [h, if_neg (by decide : ¬ (109 : Int32) = (119 : Int32)), if_pos (rfl : (109 : Int32) = (109 : Int32)), if_neg (by decide : ¬ (109 : Int32) = (120 : Int32))]
theorem hgs_120 : hgs N G 120 x y = (if sp_X4_isGood N G x = 0 then 0 else if sp_X4_isGood N G y = 0 then 0 else 1) := by
  unfold hgs
  rw [if_neg (by decide : ¬ (120 : Int32) = (109 : Int32)), if_neg (by decide : ¬ (120 : Int32) = (119 : Int32)), if_pos (rfl : (120 : Int32) = (120 : Int32))]
theorem dor_120 : dor N G 120 x y = sp_X4_exchangeGoods N G x y := by
  unfold dor
  rw [if_neg (by decide : ¬ (120 : Int32) = (109 : Int32)), if_neg (by decide : ¬ (120 : Int32) = (112 : Int32)), if_neg (by decide : ¬ (120 : Int32) = (114 : Int32)), if_pos (rfl : (120 : Int32) = (120 : Int32))]
theorem can_120 (h : Z 0 6 = 120) : sp_X6_can N Z = (sp_X6_canExchange N Z (Z 0 7) (Z 0 8)) := by
  unfold sp_X6_can
  rw [h, if_neg (by decide : ¬ (120 : Int32) = (109 : Int32)), if_neg (by decide : ¬ (120 : Int32) = (112 : Int32)), if_neg (by decide : ¬ (120 : Int32) = (114 : Int32)), if_pos (rfl : (120 : Int32) = (120 : Int32))]
theorem doe_120 (h : Z 0 6 = 120) : sp_X6_does N Z = (sp_X6_goes N Z (Z 0 7) (sp_X6_of N Z (Z 0 8) (6 : Int32))).2 := by
  unfold sp_X6_does
  dsimp only
  rw [h, if_neg (by decide : ¬ (120 : Int32) = (109 : Int32)), if_neg (by decide : ¬ (120 : Int32) = (112 : Int32)), if_neg (by decide : ¬ (120 : Int32) = (114 : Int32)), if_pos (rfl : (120 : Int32) = (120 : Int32))]
theorem thr_120 (h : Z 0 6 = 120) : sp_X6_isThere N Z = (if sp_X6_isGood N Z (Z 0 7) = 0 then 0 else if sp_X6_isGood N Z (Z 0 8) = 0 then 0 else 1) := by
  unfold sp_X6_isThere
  rw [h, if_neg (by decide : ¬ (120 : Int32) = (119 : Int32)), if_neg (by decide : ¬ (120 : Int32) = (109 : Int32)), if_pos (rfl : (120 : Int32) = (120 : Int32))]
theorem there (h : wf b N G) (hk : kin (Z 0 6)) (hx : ¬ Z 0 6 = 119 → x = Z 0 7) (hy : Z 0 6 = 112 ∨ Z 0 6 = 109 ∨ Z 0 6 = 120 → y = Z 0 8) : hgs N G (Z 0 6) x y = 0 ↔ sp_X6_isThere N Z = 0 := by
  have gx := g4 (G := G) (x := Z 0 7) h.sf
  have gy := g4 (G := G) (x := Z 0 8) h.sf
  have fx := g6 (Z := Z) (x := Z 0 7) h.sf
  have fy := g6 (Z := Z) (x := Z 0 8) h.sf
  have sy := z2 (x := Z 0 8)
  have ty := z6 (x := Z 0 8)
  have n1 : ¬ (1 : Int32) = 0 := by decide
  rcases hk with k | k | k | k | k
  · rw [thr_119 k, k, hgs_119]
  · have e1 := hx (by rw [k]; decide)
    rw [thr_114 k, k, hgs_114, e1]
    by_cases c : sp_X6_isGood N Z (Z 0 7) = 0
    · rw [if_pos c]; exact ⟨fun _ => rfl, fun _ => gx.mpr (fx.mp c)⟩
    · rw [if_neg c]; exact ⟨fun q => absurd (fx.mpr (gx.mp q)) c, fun q => absurd q n1⟩
  · have e1 := hx (by rw [k]; decide)
    rw [thr_112 k, k, hgs_112, e1]
    by_cases c : sp_X6_isGood N Z (Z 0 7) = 0
    · rw [if_pos c]; exact ⟨fun _ => rfl, fun _ => gx.mpr (fx.mp c)⟩
    · rw [if_neg c]; exact ⟨fun q => absurd (fx.mpr (gx.mp q)) c, fun q => absurd q n1⟩
  · have e1 := hx (by rw [k]; decide)
    have e2 := hy (Or.inr (Or.inl k))
    rw [thr_109 k, k, hgs_109, e1, e2]
    by_cases c : sp_X6_isGood N Z (Z 0 7) = 0
    · rw [if_pos c, if_pos (gx.mpr (fx.mp c))]
    · have c' : ¬ sp_X4_isGood N G (Z 0 7) = 0 := fun q => c (fx.mpr (gx.mp q))
      rw [if_neg c, if_neg c']
      by_cases d : sp_X6_isSlot (Z 0 8) = 0
      · rw [if_pos d, if_pos (sy.mpr (ty.mp d))]
      · have d' : ¬ sp_X2_isSlot (Z 0 8) = 0 := fun q => d (ty.mpr (sy.mp q))
        rw [if_neg d, if_neg d']
  · have e1 := hx (by rw [k]; decide)
    have e2 := hy (Or.inr (Or.inr k))
    rw [thr_120 k, k, hgs_120, e1, e2]
    by_cases c : sp_X6_isGood N Z (Z 0 7) = 0
    · rw [if_pos c, if_pos (gx.mpr (fx.mp c))]
    · have c' : ¬ sp_X4_isGood N G (Z 0 7) = 0 := fun q => c (fx.mpr (gx.mp q))
      rw [if_neg c, if_neg c']
      by_cases d : sp_X6_isGood N Z (Z 0 8) = 0
      · rw [if_pos d, if_pos (gy.mpr (fy.mp d))]
      · have d' : ¬ sp_X4_isGood N G (Z 0 8) = 0 := fun q => d (fy.mpr (gy.mp q))
        rw [if_neg d, if_neg d']
/-- a deed's outcome: class and model -/
def dod (b : Int) (N : Nat → Int32) (Z : Nat → Nat → Int32) (r : Int32 × ((Nat → Int32) × (Nat → Int32))) : Prop := (sp_X6_can N Z = 0 → r.1 < 0) ∧ (¬ sp_X6_can N Z = 0 → ¬ r.1 < 0 ∧ (∀ j, j ≠ 10 → r.2.1 j = sp_X6_does N Z j) ∧ wf b (sp_X6_does N Z) r.2.2)
theorem th_x (h : wf b N G) (ht : ¬ sp_X6_isThere N Z = 0) (hn : ¬ Z 0 6 = 119) : isg N (Z 0 7) := by
  refine Classical.byContradiction fun q => ht ?_
  unfold sp_X6_isThere
  rw [if_neg hn, if_pos ((g6 h.sf).mpr q)]
theorem th_y (h : wf b N G) (ht : ¬ sp_X6_isThere N Z = 0) (hn : Z 0 6 = 120) : isg N (Z 0 8) := by
  refine Classical.byContradiction fun q => ht ?_
  have hx := th_x h ht (by rw [hn]; decide)
  have hx' : ¬ sp_X6_isGood N Z (Z 0 7) = 0 := fun w => (g6 h.sf).mp w hx
  have q' : sp_X6_isGood N Z (Z 0 8) = 0 := (g6 h.sf).mpr q
  rw [thr_120 hn, if_neg hx', if_pos q']
theorem th_s (h : wf b N G) (ht : ¬ sp_X6_isThere N Z = 0) (hn : Z 0 6 = 109) : iss (Z 0 8) := by
  refine Classical.byContradiction fun q => ht ?_
  have hx := th_x h ht (by rw [hn]; decide)
  have hx' : ¬ sp_X6_isGood N Z (Z 0 7) = 0 := fun w => (g6 h.sf).mp w hx
  have q' : sp_X6_isSlot (Z 0 8) = 0 := z6.mpr q
  rw [thr_109 hn, if_neg hx', if_pos q']
/-- a step that a call makes, told of its deed -/
theorem doed (hb : b ≤ 100000) (h : wf b N G) (hk : kin (Z 0 6)) (ht : ¬ sp_X6_isThere N Z = 0) : dod (b + 1) N Z (dor N G (Z 0 6) (Z 0 7) (Z 0 8)) := by
  unfold dod
  have n1 : ¬ (1 : Int32) = 0 := by decide
  rcases hk with k | k | k | k | k
  · rw [can_119 k, doe_119 k, k, dor_119]
    by_cases c : (1000 : Int32) ≤ N 1
    · rw [if_pos c]
      refine ⟨fun _ => ?_, fun q => absurd rfl q⟩
      unfold sp_X4_finishWeek
      rw [if_neg (lt_le c)]
      exact (by decide : (-3 : Int32) < 0)
    · rw [if_neg c]
      obtain ⟨X, Y, e1, e2, e3, e4, e5⟩ := week_core hb h (nle_lt c)
      rw [e1, e2]
      exact ⟨fun q => absurd q n1, fun _ => ⟨e5, e3, e4.mono (by omega)⟩⟩
  · obtain ⟨i, hi, ex⟩ := th_x h ht (by rw [k]; decide)
    have h20 := h.n20 hi
    rw [can_114 k, doe_114 k, k, dor_114, ex]
    have r := r_refill (Z := Z) h (x := nI i)
    unfold sp_X6_refill at r
    dsimp only at r
    rw [if_neg (fun q => (g6 h.sf).mp q ⟨i, hi, rfl⟩)] at r
    by_cases c : sp_X6_canRefill N Z (nI i) = 0
    · rw [if_pos c] at r
      refine ⟨fun _ => ?_, fun q => absurd c q⟩
      rw [r.1]; exact (by decide : (-2 : Int32) < 0)
    · rw [if_neg c] at r
      refine ⟨fun q => absurd q c, fun _ => ?_⟩
      rcases r.2 with ⟨r1, r2, _⟩ | ⟨r1, r2, r3, _⟩
      · exfalso
        have ec := r.1
        dsimp only at ec r2
        rw [brings_eq h20] at ec
        dsimp only at ec
        rw [o7 h20, o7 h20, bR_23, sub_back] at ec
        have rb := room_b (Z := sp_X6_records N Z) h hi
        rw [ec, lt_toInt, i0] at r1
        omega
      · refine ⟨r1, fun j hj => ?_, ?_⟩
        · rw [r2 j hj, brings_eq h20, brings_eq h20]; rfl
        · have r3' := r3
          dsimp only at r3'
          rw [brings_eq h20] at r3'
          rw [brings_eq h20]
          exact wf.mono (by omega) r3'
  · obtain ⟨i, hi, ex⟩ := th_x h ht (by rw [k]; decide)
    have h20 := h.n20 hi
    rw [can_112 k, doe_112 k, k, dor_112, ex]
    by_cases hy : sp_X6_in (Z 0 8) 1 200 = 0
    · rw [if_pos hy]
      refine ⟨fun _ => ?_, fun q => absurd rfl q⟩
      rw [pick_unf h20, if_neg (fun q => (g4 h.sf).mp q ⟨i, hi, rfl⟩), if_pos hy]
      exact (by decide : (-1 : Int32) < 0)
    · rw [if_neg hy]
      obtain ⟨k1, k2⟩ := pick_core (Z := Z) hb h hi hy
      by_cases c : sp_X6_canPick N Z (nI i) (Z 0 8) = 0
      · rw [if_pos c]
        refine ⟨fun _ => ?_, fun q => absurd rfl q⟩
        rw [k1 c]; exact (by decide : (-2 : Int32) < 0)
      · rw [if_neg c]
        refine ⟨fun q => absurd q n1, fun _ => ?_⟩
        obtain ⟨k3, k4, k5⟩ := k2 c Z
        rw [k3]
        exact ⟨k5, fun _ _ => rfl, k4⟩
  · obtain ⟨i, hi, ex⟩ := th_x h ht (by rw [k]; decide)
    obtain ⟨s, hs, ey⟩ := th_s h ht k
    have h20 := h.n20 hi
    rw [can_109 k, doe_109 k, k, dor_109, ex, ey]
    have e := pgo (Z := Z) h hi hs
    have eg := ga (Z := Z) h.sf h.sl hs
    unfold sp_X4_moveGood
    dsimp only
    rw [if_neg (fun q => (g4 h.sf).mp q ⟨i, hi, rfl⟩), if_neg (fun q => z2.mp q ⟨s, hs, rfl⟩), xI (show s < 1000 by omega)]
    by_cases c : G s = -1
    · have c1 : ¬ N (22 + 11 * i) = nI s := fun q => nI_nm1 (by omega) ((h.sl.1 i s hi hs q).symm.trans c)
      have e2 : sp_X4_canGo N G (nI i) (nI s) = sp_X6_canMove N Z (nI i) (nI s) := by
        rw [if_neg c1] at e
        rw [e]
        unfold sp_X6_canGo
        rw [if_pos (eg.trans c)]
      rw [if_pos ((pfree h.sf h.sl hs).mpr c), ← e2]
      by_cases c2 : sp_X4_canGo N G (nI i) (nI s) = 0
      · rw [if_pos c2]
        exact ⟨fun _ => (by decide : (-2 : Int32) < 0), fun q => absurd c2 q⟩
      · rw [if_neg c2]
        obtain ⟨q1, q2, q3, q4, q5⟩ := go_all (Z := Z) h hi hs c2
        rw [q1, q2]
        exact ⟨fun q => absurd q c2, fun _ => ⟨hi_ge q4 q5, fun _ _ => rfl, q3.mono (by omega)⟩⟩
    · have e2 : sp_X6_canMove N Z (nI i) (nI s) = 0 := by
        unfold sp_X6_canMove
        rw [eg]
        by_cases c3 : sp_X6_of N Z (nI i) (6 : Int32) = -1
        · rw [if_pos c3]
        · rw [if_neg c3, if_neg c]
      rw [if_neg (fun q => c ((pfree h.sf h.sl hs).mp q))]
      exact ⟨fun _ => (by decide : (-2 : Int32) < 0), fun q => absurd e2 q⟩
  · obtain ⟨i, hi, ex⟩ := th_x h ht (by rw [k]; decide)
    obtain ⟨g, hg, ey⟩ := th_y h ht k
    have h20 := h.n20 hi
    have hg20 := h.n20 hg
    rw [can_120 k, doe_120 k, k, dor_120, ex, ey]
    unfold sp_X4_exchangeGoods
    dsimp only
    rw [if_neg (fun q => (g4 h.sf).mp q ⟨i, hi, rfl⟩), if_neg (fun q => (g4 h.sf).mp q ⟨g, hg, rfl⟩)]
    by_cases hxy : nI i = nI g
    · rw [if_pos hxy]
      have e2 : sp_X6_canExchange N Z (nI i) (nI g) = 0 := by
        unfold sp_X6_canExchange
        rw [if_pos hxy]
      exact ⟨fun _ => (by decide : (-2 : Int32) < 0), fun q => absurd e2 q⟩
    · rw [if_neg hxy]
      rcases (h.g hg).p with hp | ⟨s, hs, hp⟩
      · have e2 : sp_X6_canExchange N Z (nI i) (nI g) = 0 := by
          unfold sp_X6_canExchange
          rw [if_neg hxy, o6 hg20, hp]
          by_cases c3 : sp_X6_of N Z (nI i) (6 : Int32) = -1
          · rw [if_pos c3]
          · rw [if_neg c3, if_pos rfl]
        rw [if_pos ((pplaced hg20 (h.g hg).p).mpr hp)]
        exact ⟨fun _ => (by decide : (-2 : Int32) < 0), fun q => absurd e2 q⟩
      · have hG := h.sl.1 g s hg hs hp
        have hgn : ¬ nI g = (-1 : Int32) := nI_nm1 (by omega)
        have e := pgo (Z := Z) h hi hs
        have c1 : ¬ N (22 + 11 * i) = nI s := fun q => hxy ((h.sl.1 i s hi hs q).symm.trans hG)
        have e2 : sp_X4_canGo N G (nI i) (nI s) = sp_X6_canExchange N Z (nI i) (nI g) := by
          rw [if_neg c1] at e
          rw [e]
          unfold sp_X6_canGo
          rw [ga h.sf h.sl hs, hG, if_neg hgn]
        rw [if_neg (fun q => by rw [(pplaced hg20 (h.g hg).p).mp q] at hp; exact nI_nm1 (by omega) hp.symm), xI (show g < 1000 by omega), o6 hg20, hp, ← e2]
        by_cases c2 : sp_X4_canGo N G (nI i) (nI s) = 0
        · rw [if_pos c2]
          exact ⟨fun _ => (by decide : (-2 : Int32) < 0), fun q => absurd c2 q⟩
        · rw [if_neg c2]
          obtain ⟨q1, q2, q3, q4, q5⟩ := go_all (Z := Z) h hi hs c2
          rw [q1, q2]
          exact ⟨fun q => absurd q c2, fun _ => ⟨hi_ge q4 q5, fun _ _ => rfl, q3.mono (by omega)⟩⟩
end PO
