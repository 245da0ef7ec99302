/-! numbers: indices in their rows -/
theorem rem_in {x d : Int32} (D : Nat) (hd : d = nI D) (h0 : 0 < D) (hD : D < 2 ^ 31) (h : ¬ x < 0) : vp_in (x - x / d * d) D := by
  obtain ⟨j, hj, rfl⟩ := nI_of h
  subst hd
  rw [pk_rem hj h0 hD]
  exact vp_in_nI (Nat.mod_lt _ h0) hD
theorem rem6_in {x : Int32} (h : ¬ x < 0) : vp_in (x - x / (6 : Int32) * (6 : Int32)) 6 := rem_in 6 rfl (by decide) (by decide) h
theorem dm80 {x y : Int32} (hx : vp_in x 20) (hy : vp_in y 4) : vp_in (x * (4 : Int32) + y) 80 := by
  obtain ⟨i, hi, rfl⟩ := vp_in_of hx (by decide)
  obtain ⟨j, hj, rfl⟩ := vp_in_of hy (by decide)
  rw [show (4 : Int32) = nI 4 from rfl, pk_mul, nI_add]
  exact vp_in_nI (by omega) (by decide)
theorem ne0 {x : Int32} (c : (1 : Int32) ≤ x) : ¬ x = 0 := by
  intro h; rw [h] at c; exact absurd c (by decide)
theorem mo {x y : Int32} (hx : vp_in x 20) (hy : vp_in y 11) : vp_in (((16 : Int32) + ((11 : Int32) * x)) + y) 236 := by
  obtain ⟨i, hi, rfl⟩ := vp_in_of hx (by decide)
  obtain ⟨j, hj, rfl⟩ := vp_in_of hy (by decide)
  rw [show (16 : Int32) = nI 16 from rfl, show (11 : Int32) = nI 11 from rfl, pk_mul, nI_add, nI_add]
  exact vp_in_nI (by omega) (by decide)
theorem mo_ix {x y : Int32} (hx : vp_in x 20) (hy : vp_in y 11) : ix (((16 : Int32) + ((11 : Int32) * x)) + y) = 16 + 11 * ix x + ix y := by
  obtain ⟨i, hi, rfl⟩ := vp_in_of hx (by decide)
  obtain ⟨j, hj, rfl⟩ := vp_in_of hy (by decide)
  rw [show (16 : Int32) = nI 16 from rfl, show (11 : Int32) = nI 11 from rfl, pk_mul, nI_add, nI_add]
  show (nI _).toNatClampNeg = 16 + 11 * (nI i).toNatClampNeg + (nI j).toNatClampNeg
  rw [nI_clamp (by omega), nI_clamp (by omega), nI_clamp (by omega)]
theorem m5 {x : Int32} (hx : vp_in x 8) : vp_in ((5 : Int32) + x) 236 := by
  obtain ⟨i, hi, rfl⟩ := vp_in_of hx (by decide)
  rw [show (5 : Int32) = nI 5 from rfl, nI_add]
  exact vp_in_nI (by omega) (by decide)
theorem m5_ix {x : Int32} (hx : vp_in x 8) : ix ((5 : Int32) + x) = 5 + ix x := by
  obtain ⟨i, hi, rfl⟩ := vp_in_of hx (by decide)
  rw [show (5 : Int32) = nI 5 from rfl, nI_add]
  show (nI _).toNatClampNeg = 5 + (nI i).toNatClampNeg
  rw [nI_clamp (by omega), nI_clamp (by omega)]
theorem w2 {x : Int32} (hx : vp_in x 4) : vp_in ((2 : Int32) + x) 11 := by
  obtain ⟨i, hi, rfl⟩ := vp_in_of hx (by decide)
  rw [show (2 : Int32) = nI 2 from rfl, nI_add]
  exact vp_in_nI (by omega) (by decide)
