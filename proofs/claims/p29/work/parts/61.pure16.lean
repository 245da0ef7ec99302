theorem tt_Il {S V : Nat → Int32} {z : Int32} {U : Nat → Int32} {y : Int32} : ∀ (n : Nat) (v : Int32) (W : Nat → va_H) (q I : Nat → Int32), (lp18_X5_tryText S V z U y n v W q I).2.2.2 0 = I 0 := by
  intro n
  induction n with
  | zero => intro v W q I; rfl
  | succ n ih =>
    intro v W q I
    rw [lp18_X5_tryText_s]
    dsimp only
    repeat' split
    all_goals first | rfl | exact (ih _ _ _ _).trans rfl
theorem tt_I {W : Nat → va_H} {S q V : Nat → Int32} {z : Int32} {U : Nat → Int32} {y : Int32} {I : Nat → Int32} (h : 0 ≤ (I 0).toInt) : 0 ≤ ((sp_X5_tryText W S q V z U y I).2.2.2 0).toInt := by
  have e : (sp_X5_tryText W S q V z U y I).2.2.2 0 = I 0 := tt_Il 61 0 _ _ _
  rw [e]
  exact h
