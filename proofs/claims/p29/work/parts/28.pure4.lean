/-! for the model's row of states, its sorting, its texts -/
theorem ps3 {Z : Nat → Nat → Int32} (h : psZ Z) (c : ¬ Z 0 0 = (4 : Int32)) : (Z 0 0).toInt ≤ 3 := by
  have q := lv_neT c (a := 4) (by decide)
  have := h.2
  omega
theorem rc3 {v : Int32} (i : 0 ≤ v.toInt) (c : ¬ (708 : Int32) ≤ v) : vp_in v 944 := by
  rw [le_toInt, show (708 : Int32).toInt = 708 from by decide] at c
  exact inT i (by omega)
theorem cnle {v B : Int32} {n : Nat} (i : 0 ≤ v.toInt) (c : ¬ B ≤ v) (hB : B.toInt ≤ (n : Int)) : vp_in v n := by
  rw [le_toInt] at c
  exact inT i (by omega)
theorem srt {v B : Int32} (i : 0 ≤ v.toInt) (c : ¬ B ≤ v) (hB : B.toInt ≤ 20) : B.toInt - (v + (1 : Int32)).toInt < ((21 : Nat) : Int) := by
  have := cs1 i c
  omega
theorem srt0 {B : Int32} (hB : B.toInt ≤ 20) : B.toInt - (0 : Int32).toInt < ((21 : Nat) : Int) := by
  rw [i0]; omega
theorem srt00 {B : Int32} (hB : 0 ≤ B.toInt) : (0 : Int32).toInt ≤ B.toInt := by rw [i0]; exact hB
theorem ty_zu {Z : Nat → Nat → Int32} {k : Nat} {x : Int32} (hk : 1 ≠ k) (h : tyZ Z) : tyZ (zu Z 0 k x) := by
  have e : zu Z 0 k x 0 1 = Z 0 1 := by rw [zu_s]; exact pk_un hk
  unfold tyZ at h ⊢
  rw [e]
  exact h
theorem ty_zn {Z : Nat → Nat → Int32} {c k : Nat} {x : Int32} (hc : 0 ≠ c) (h : tyZ Z) : tyZ (zu Z c k x) := by
  have e : zu Z c k x 0 1 = Z 0 1 := by rw [zu_n hc]
  unfold tyZ at h ⊢
  rw [e]
  exact h
theorem dig_lt {N : Nat → Int32} {Z : Nat → Nat → Int32} {x : Int32} (h : ¬ sp_X6_in (sp_X6_signAt N Z x) (48 : Int32) (57 : Int32) = 0) : ¬ Z 0 1 ≤ x := by
  intro c
  have q := min_of h
  have e : sp_X6_signAt N Z x = 0 := by unfold sp_X6_signAt; rw [if_pos c]
  rw [e, i0, show (48 : Int32).toInt = 48 from by decide] at q
  omega
theorem at_digit {N : Nat → Int32} {Z : Nat → Nat → Int32} (h0 : 0 ≤ (Z 0 5).toInt) (h : ¬ sp_X6_in (sp_X6_signAt N Z (Z 0 5)) (48 : Int32) (57 : Int32) = 0) : 0 ≤ (zu Z 0 5 ((Z 0 5) + (1 : Int32)) 0 5).toInt := by
  have e : zu Z 0 5 ((Z 0 5) + (1 : Int32)) 0 5 = (Z 0 5) + (1 : Int32) := by rw [zu_s]; exact pk_us
  rw [e]
  exact cs1 h0 (dig_lt h)
theorem gd20n {N : Nat → Int32} (hs : sfN N) (c : ¬ N 0 = (20 : Int32)) : vp_in (N 0) 20 := by
  have q := lv_neT c (a := 20) (by decide)
  have := hs.2.1
  exact inT hs.1 (by omega)
theorem wk_lt {N : Nat → Int32} (hs : sfN N) (c : ¬ N 1 = (1000 : Int32)) : N 1 < (1000 : Int32) := by
  have q := lv_neT c (a := 1000) (by decide)
  have := hs.2.2.2
  rw [lt_toInt, show (1000 : Int32).toInt = 1000 from by decide]
  omega
theorem m2i {x : Int32} (hx : vp_in x 3) : vp_in ((2 : Int32) + x) 236 := by
  obtain ⟨i, hi, rfl⟩ := vp_in_of hx (by decide)
  rw [show (2 : Int32) = nI 2 from rfl, nI_add]
  exact vp_in_nI (by omega) (by decide)
theorem cnt236 {x : Int32} (h : ¬ sp_X6_in x (20 : Int32) (22 : Int32) = 0) : vp_in (((2 : Int32) + x) - (20 : Int32)) 236 := by
  have q := min_of h
  rw [show (20 : Int32).toInt = 20 from by decide, show (22 : Int32).toInt = 22 from by decide] at q
  have e2 : (2 : Int32).toInt = 2 := by decide
  have e20 : (20 : Int32).toInt = 20 := by decide
  have a1 : ((2 : Int32) + x).toInt = 2 + x.toInt := by rw [add_toInt (by rw [e2]; omega) (by rw [e2]; omega), e2]
  have a2 : (((2 : Int32) + x) - (20 : Int32)).toInt = 2 + x.toInt - 20 := by rw [sub_toInt (by rw [e20, a1]; omega) (by rw [e20, a1]; omega), e20, a1]
  exact inT (by rw [a2]; omega) (by rw [a2]; omega)
theorem ty60 {Z : Nat → Nat → Int32} (h : tyZ Z) (c : ¬ Z 0 1 = (60 : Int32)) : vp_in (Z 0 1) 60 := by
  have q := lv_neT c (a := 60) (by decide)
  have := h.2
  exact inT h.1 (by omega)
