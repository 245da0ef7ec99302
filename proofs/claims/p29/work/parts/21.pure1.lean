/-! a warehouse's row is safe to index by: so many goods, so many weeks; counters of loops -/
def sfN (N : Nat → Int32) : Prop := 0 ≤ (N 0).toInt ∧ (N 0).toInt ≤ 20 ∧ 0 ≤ (N 1).toInt ∧ (N 1).toInt ≤ 1000
theorem i0 : (0 : Int32).toInt = 0 := by decide
theorem le_toInt {x y : Int32} : x ≤ y ↔ x.toInt ≤ y.toInt := Int32.le_iff_toInt_le
theorem lt_toInt {x y : Int32} : x < y ↔ x.toInt < y.toInt := Int32.lt_iff_toInt_lt
theorem inc_toInt {v B : Int32} (c : ¬ B ≤ v) : (v + (1 : Int32)).toInt = v.toInt + 1 := by
  rw [le_toInt] at c
  have hB : B.toInt < 2 ^ 31 := Int32.toInt_lt B
  have hv : -2 ^ 31 ≤ v.toInt := Int32.le_toInt v
  rw [Int32.toInt_add, show (1 : Int32).toInt = 1 from by decide]
  exact Int.bmod_eq_of_le (by omega) (by omega)
theorem cs1 {v B : Int32} (h : 0 ≤ v.toInt) (c : ¬ B ≤ v) : 0 ≤ (v + (1 : Int32)).toInt := by rw [inc_toInt c]; omega
theorem cs2 {v B : Int32} (c : ¬ B ≤ v) : (v + (1 : Int32)).toInt ≤ B.toInt := by
  rw [inc_toInt c]; rw [le_toInt] at c; omega
theorem csm {v B : Int32} {n : Nat} (c : ¬ B ≤ v) (im : B.toInt - v.toInt < ((n + 1 : Nat) : Int)) : B.toInt - (v + (1 : Int32)).toInt < (n : Int) := by
  rw [inc_toInt c]; omega
theorem cn2 {N : Nat → Int32} (h : sfN N) : (0 : Int32).toInt ≤ (N 0).toInt := by rw [i0]; exact h.1
theorem cnm {N : Nat → Int32} (h : sfN N) : (N 0).toInt - (0 : Int32).toInt < ((21 : Nat) : Int) := by rw [i0]; have := h.2.1; omega
theorem cnin {v B : Int32} (n : Nat) (hB : B.toInt = (n : Int)) (i : 0 ≤ v.toInt) (c : ¬ B ≤ v) : vp_in v n := vp_in_iff.mpr ⟨i, by rw [le_toInt] at c; omega⟩
theorem cnin20 {N : Nat → Int32} {v : Int32} (h : sfN N) (i : 0 ≤ v.toInt) (c : ¬ N 0 ≤ v) : vp_in v 20 := vp_in_iff.mpr ⟨i, by rw [le_toInt] at c; have := h.2.1; omega⟩
theorem sl60 {x : Int32} (h : ¬ sp_X2_isSlot x = 0) : vp_in x 60 := by
  unfold sp_X2_isSlot at h
  rw [vp_in_iff]
  by_cases c : x < 0
  · rw [if_pos c] at h; exact absurd rfl h
  · rw [if_neg c] at h
    by_cases d : (60 : Int32) ≤ x
    · rw [if_pos d] at h; exact absurd rfl h
    · rw [lt_toInt, i0] at c
      rw [le_toInt, show (60 : Int32).toInt = 60 from by decide] at d
      omega
theorem g20 {N G : Nat → Int32} {x : Int32} (hs : sfN N) (h : ¬ sp_X4_isGood N G x = 0) : vp_in x 20 := by
  unfold sp_X4_isGood at h
  rw [vp_in_iff]
  by_cases c : x < 0
  · rw [if_pos c] at h; exact absurd rfl h
  · rw [if_neg c] at h
    by_cases d : N 0 ≤ x
    · rw [if_pos d] at h; exact absurd rfl h
    · rw [lt_toInt, i0] at c
      rw [le_toInt] at d
      have := hs.2.1
      omega
theorem nI_ofI {x : Int32} (h : 0 ≤ x.toInt) : ∃ k : Nat, k < 2 ^ 31 ∧ x = nI k := nI_of (by rw [lt_toInt, i0]; omega)
theorem s4 {N G : Nat → Int32} (hs : sfN N) : vp_in (sp_X4_presentSeason N G) 4 := by
  unfold sp_X4_presentSeason
  obtain ⟨k, hk, e⟩ := nI_ofI hs.2.2.1
  refine rem_in 4 rfl (by decide) (by decide) ?_
  rw [e, show (13 : Int32) = nI 13 from rfl, pk_div hk (by decide) (by decide)]
  exact nI_pos (Nat.lt_of_le_of_lt (Nat.div_le_self _ _) hk)
theorem sub2 {x : Int32} (h : x = (2 : Int32) ∨ x = (3 : Int32) ∨ x = (4 : Int32) ∨ x = (5 : Int32)) : vp_in (x - (2 : Int32)) 4 := by
  rcases h with rfl | rfl | rfl | rfl <;> (unfold vp_in; decide)
theorem sub20 {x : Int32} (h : x = (20 : Int32) ∨ x = (21 : Int32) ∨ x = (22 : Int32)) : vp_in (x - (20 : Int32)) 3 := by
  rcases h with rfl | rfl | rfl <;> (unfold vp_in; decide)
theorem isIn_of {x a b : Int32} (h : ¬ sp_X5_isIn x a b = 0) : a.toInt ≤ x.toInt ∧ x.toInt ≤ b.toInt := by
  unfold sp_X5_isIn at h
  by_cases c : x < a
  · rw [if_pos c] at h; exact absurd rfl h
  · rw [if_neg c] at h
    by_cases d : b < x
    · rw [if_pos d] at h; exact absurd rfl h
    · rw [lt_toInt] at c d; omega
