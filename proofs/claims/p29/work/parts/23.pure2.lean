/-! indices again: what a call that answered lets follow -/
theorem sf_u {N : Nat → Int32} {k : Nat} {x : Int32} (hk : 2 ≤ k) (h : sfN N) : sfN (upd N k x) := by
  have e0 : upd N k x 0 = N 0 := pk_un (by omega)
  have e1 : upd N k x 1 = N 1 := pk_un (by omega)
  unfold sfN at h ⊢
  rw [e0, e1]
  exact h
theorem in3 {x : Int32} (h : ¬ sp_X5_isIn x 0 2 = 0) : vp_in x 3 := by
  have q := isIn_of h
  rw [show (0 : Int32).toInt = 0 from by decide, show (2 : Int32).toInt = 2 from by decide] at q
  exact vp_in_iff.mpr ⟨q.1, by omega⟩
theorem sea4 {x : Int32} (h : ¬ sp_X5_isSeason x = 0) : vp_in x 4 := by
  unfold sp_X5_isSeason at h
  rw [vp_in_iff]
  by_cases c : x < 0
  · rw [if_pos c] at h; exact absurd rfl h
  · rw [if_neg c] at h
    by_cases d : (4 : Int32) ≤ x
    · rw [if_pos d] at h; exact absurd rfl h
    · rw [lt_toInt, i0] at c
      rw [le_toInt, show (4 : Int32).toInt = 4 from by decide] at d
      omega
theorem pl60 {N G : Nat → Int32} {x : Int32} (h : ¬ sp_X4_isPlaced N G x = 0) : vp_in (N (22 + 11 * ix x)) 60 := sl60 h
theorem cg60 {N G : Nat → Int32} {x y : Int32} (h : ¬ sp_X4_canGo N G x y = 0) : vp_in (N (22 + 11 * ix x)) 60 := by
  unfold sp_X4_canGo at h
  by_cases c : sp_X2_isSlot (N (22 + 11 * ix x)) = 0
  · rw [if_pos c] at h; exact absurd rfl h
  · exact sl60 c
theorem gd20 {N : Nat → Int32} (hs : sfN N) (c : N 0 < (20 : Int32)) : vp_in (N 0) 20 := by
  rw [lt_toInt, show (20 : Int32).toInt = 20 from by decide] at c
  exact vp_in_iff.mpr ⟨hs.1, by omega⟩
theorem gd20' {N : Nat → Int32} (hs : sfN N) (c : ¬ (20 : Int32) ≤ N 0) : vp_in (N 0) 20 := by
  rw [le_toInt, show (20 : Int32).toInt = 20 from by decide] at c
  exact vp_in_iff.mpr ⟨hs.1, by omega⟩
