/-! a sorted row's size -/
theorem inl_z {z x : Int32} : ∀ (n : Nat) (v : Int32) (V : Nat → Int32), (lp22_X3_insert z x n v V).2 = z + (1 : Int32) ∨ (lp22_X3_insert z x n v V).2 = z := by
  intro n
  induction n with
  | zero => intro v V; right; rfl
  | succ n ih =>
    intro v V
    rw [lp22_X3_insert_s]
    by_cases c1 : v ≤ 0
    · rw [if_pos c1]; left; rfl
    · rw [if_neg c1]
      by_cases c2 : V (ix (v - (1 : Int32))) ≤ x
      · rw [if_pos c2]; left; rfl
      · rw [if_neg c2]; exact ih _ _
theorem ins_g {V : Nat → Int32} {z x : Int32} : (sp_X3_insert V z x).2 = z ∨ (¬ z < 0 ∧ z < (20 : Int32) ∧ (sp_X3_insert V z x).2 = z + (1 : Int32)) := by
  unfold sp_X3_insert
  by_cases c1 : z < 0
  · rw [if_pos c1]; left; rfl
  · rw [if_neg c1]
    by_cases c2 : z < (20 : Int32)
    · rw [if_pos c2]
      rcases inl_z (z := z) (x := x) 21 z V with h | h
      · right; exact ⟨c1, c2, h⟩
      · left; exact h
    · rw [if_neg c2]; left; rfl
theorem ins_z {V : Nat → Int32} {z x : Int32} (h : 0 ≤ z.toInt) (h2 : z.toInt ≤ 20) : 0 ≤ (sp_X3_insert V z x).2.toInt ∧ (sp_X3_insert V z x).2.toInt ≤ 20 := by
  rcases ins_g (V := V) (z := z) (x := x) with e | ⟨c1, c2, e⟩
  · rw [e]; exact ⟨h, h2⟩
  · have := ins2 c2
    rw [e, add_toInt (by rw [show (1 : Int32).toInt = 1 from by decide]; omega) (by rw [show (1 : Int32).toInt = 1 from by decide]; omega), show (1 : Int32).toInt = 1 from by decide]
    omega
theorem ins_y {V : Nat → Int32} {z x : Int32} (h2 : z.toInt ≤ 20) : (sp_X3_insert V z x).2.toInt ≤ 20 := by
  rcases ins_g (V := V) (z := z) (x := x) with e | ⟨c1, c2, e⟩
  · rw [e]; exact h2
  · have := ins2 c2
    have := ins0 c1
    rw [e, add_toInt (by rw [show (1 : Int32).toInt = 1 from by decide]; omega) (by rw [show (1 : Int32).toInt = 1 from by decide]; omega), show (1 : Int32).toInt = 1 from by decide]
    omega
