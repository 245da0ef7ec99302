/-! numbers: indices in their rows -/
theorem rem_in {x d : Int32} (D : Nat) (hd : d = nI D) (h0 : 0 < D) (hD : D < 2 ^ 31) (h : ¬ x < 0) : vp_in (x - x / d * d) D := by
  obtain ⟨j, hj, rfl⟩ := nI_of h
  subst hd
  rw [pk_rem hj h0 hD]
  exact vp_in_nI (Nat.mod_lt _ h0) hD
theorem rem6_in {x : Int32} (h : ¬ x < 0) : vp_in (x - x / (6 : Int32) * (6 : Int32)) 6 := rem_in 6 rfl (by decide) (by decide) h
theorem dm80 {x y : Int32} (hx : vp_in x 20) (hy : vp_in y 4) : vp_in (x * (4 : Int32) + y) 80 := by
  obtain ⟨i, hi, rfl⟩ := vp_in_of hx (by decide)
  obtain ⟨j, hj, rfl⟩ := vp_in_of hy (by decide)
  rw [show (4 : Int32) = nI 4 from rfl, pk_mul, nI_add]
  exact vp_in_nI (by omega) (by decide)
theorem ne0 {x : Int32} (c : (1 : Int32) ≤ x) : ¬ x = 0 := by
  intro h; rw [h] at c; exact absurd c (by decide)
