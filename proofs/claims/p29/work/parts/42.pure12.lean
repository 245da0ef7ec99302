/-! indices of a sorted row -/
theorem dec_toInt {x : Int32} (h : 0 ≤ x.toInt) : (x + (-1 : Int32)).toInt = x.toInt - 1 := by
  have hB : x.toInt < 2 ^ 31 := Int32.toInt_lt x
  have e : (-1 : Int32).toInt = -1 := by decide
  rw [add_toInt (by rw [e]; omega) (by rw [e]; omega), e]
  omega
theorem ins0 {z : Int32} (c : ¬ z < 0) : 0 ≤ z.toInt := by rw [lt_toInt, i0] at c; omega
theorem ins2 {z : Int32} (c : z < (20 : Int32)) : z.toInt ≤ 19 := by rw [lt_toInt, show (20 : Int32).toInt = 20 from by decide] at c; omega
theorem ins3 {z : Int32} (c : z < (20 : Int32)) : z.toInt < ((21 : Nat) : Int) := by have := ins2 c; omega
theorem ins1 {v : Int32} (i1 : 0 ≤ v.toInt) (i2 : v.toInt ≤ 19) (c : ¬ v ≤ 0) : vp_in (v - (1 : Int32)) 20 := by
  rw [le_toInt, i0] at c
  exact inT (by rw [sub_toInt1 i1]; omega) (by rw [sub_toInt1 i1]; omega)
theorem ins4 {v : Int32} (i1 : 0 ≤ v.toInt) (c : ¬ v ≤ 0) : 0 ≤ (v + (-1 : Int32)).toInt := by rw [le_toInt, i0] at c; rw [dec_toInt i1]; omega
theorem ins5 {v : Int32} (i1 : 0 ≤ v.toInt) (i2 : v.toInt ≤ 19) (c : ¬ v ≤ 0) : (v + (-1 : Int32)).toInt ≤ 19 := by rw [dec_toInt i1]; omega
theorem ins6 {v : Int32} {n : Nat} (i1 : 0 ≤ v.toInt) (c : ¬ v ≤ 0) (im : v.toInt < ((n + 1 : Nat) : Int)) : (v + (-1 : Int32)).toInt < (n : Int) := by rw [dec_toInt i1]; omega
