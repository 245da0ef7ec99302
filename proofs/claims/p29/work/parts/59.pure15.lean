/-! what an order leaves of a warehouse; what a text leaves of the states -/
theorem k3_bring {N G : Nat → Int32} {x y : Int32} : k3 N (sp_X4_bring N G x y).2.1 := by
  delta sp_X4_bring
  dsimp only
  exact k3_tr (k3_tr (k3_tr (k3_u (by omega)) (k3_u (by omega))) (k3_u (by omega))) (k3_u (by omega))
theorem k3_pickEnd {M : Nat → Int32} {a b c : Nat} {x y z v w : Int32} (ha : 5 ≤ a) (hb : 5 ≤ b) (hc : 5 ≤ c) : k3 M (upd (upd (upd (upd (upd M a x) b y) c z) 12 v) 5 w) :=
  k3_tr (k3_tr (k3_tr (k3_tr (k3_u ha) (k3_u hb)) (k3_u hc)) (k3_u (by omega))) (k3_u (by omega))
theorem k3_pickUnits {N G : Nat → Int32} {x y : Int32} : k3 N (sp_X4_pickUnits N G x y).2.1 := by
  delta sp_X4_pickUnits
  dsimp only
  split
  · exact k3_refl N
  · split
    · exact k3_refl N
    · split
      · exact k3_refl N
      · split
        · split
          · exact k3_tr k3_bring (k3_pickEnd (by omega) (by omega) (by omega))
          · exact k3_refl N
        · split
          · split
            · exact k3_tr k3_bring (k3_pickEnd (by omega) (by omega) (by omega))
            · exact k3_refl N
          · split
            · exact k3_tr k3_bring (k3_pickEnd (by omega) (by omega) (by omega))
            · exact k3_refl N
theorem k3_refillSlot {N G : Nat → Int32} {x : Int32} : k3 N (sp_X4_refillSlot N G x).2.1 := by
  delta sp_X4_refillSlot
  dsimp only
  split
  · exact k3_refl N
  · split
    · exact k3_refl N
    · split
      · exact k3_bring
      · exact k3_refl N
theorem k3_moveGood {N G : Nat → Int32} {x y : Int32} : k3 N (sp_X4_moveGood N G x y).2.1 := by
  delta sp_X4_moveGood
  dsimp only
  split
  · exact k3_refl N
  · split
    · exact k3_refl N
    · split
      · split
        · exact k3_refl N
        · exact k3_goTo
      · exact k3_refl N
theorem k3_exchangeGoods {N G : Nat → Int32} {x y : Int32} : k3 N (sp_X4_exchangeGoods N G x y).2.1 := by
  delta sp_X4_exchangeGoods
  dsimp only
  split
  · exact k3_refl N
  · split
    · exact k3_refl N
    · split
      · exact k3_refl N
      · split
        · exact k3_refl N
        · split
          · exact k3_refl N
          · exact k3_goTo
theorem sf_fwl {G : Nat → Int32} : ∀ (n : Nat) (v2 v1 : Int32) (M : Nat → Int32), sfN M → M 1 < (1000 : Int32) → sfN (lp20_X4_finishWeek G n v2 v1 M).2.1 := by
  intro n
  induction n with
  | zero => intro v2 v1 M h _; exact h
  | succ n ih =>
    intro v2 v1 M h hw
    rw [lp20_X4_finishWeek_s]
    by_cases c : M 0 ≤ v2
    · rw [if_pos c]; exact sf_wk h hw
    · rw [if_neg c]
      refine ih _ _ _ (sf_u (by omega) (sf_u (by omega) h)) ?_
      simp (disch := omega) only [pk_un]
      exact hw
theorem sf_finishWeek {N G : Nat → Int32} (h : sfN N) : sfN (sp_X4_finishWeek N G).2.1 := by
  unfold sp_X4_finishWeek
  by_cases c : N 1 < (1000 : Int32)
  · rw [if_pos c]; exact sf_fwl _ _ _ _ h c
  · rw [if_neg c]; exact h
theorem do_sf {W : Nat → va_H} {S q V : Nat → Int32} {z : Int32} {U : Nat → Int32} {y : Int32} {I : Nat → Int32} {x1 x2 x3 : Int32} (h : sfN (W 5).2.1) : sfN ((sp_X5_doOrder W S q V z U y I x1 x2 x3).2 5).2.1 := by
  delta sp_X5_doOrder
  dsimp only
  split
  · exact k3_sf k3_moveGood h
  · split
    · exact k3_sf k3_pickUnits h
    · split
      · exact k3_sf k3_refillSlot h
      · split
        · exact k3_sf k3_exchangeGoods h
        · exact sf_finishWeek h
