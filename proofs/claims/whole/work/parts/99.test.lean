theorem tst1 {x : Int32} : (59 : Int32) < x ↔ (60 : Int32) ≤ x := by grind
theorem tst2 {a b c d : Int32} : (a - b) * c + d = d + a * c - c * b := by grind
theorem tst3 {x : Int32} (h : (59:Int32) < x) : 59 < x.toInt := by simp only [Int32.lt_iff_toInt_lt] at h; exact h
