/-! what looking at a text leaves, whole -/
theorem lk_unf (N : Nat → Int32) (Z : Nat → Nat → Int32) : sp_X6_looks N Z = ((sp_X6_doesAll N (sp_X6_copies13 N Z (0 : Int32) (0 : Int32))).1, (sp_X6_copies31 (sp_X6_doesAll N (sp_X6_copies13 N Z (0 : Int32) (0 : Int32))).2.1 (sp_X6_doesAll N (sp_X6_copies13 N Z (0 : Int32) (0 : Int32))).2.2 (0 : Int32) (0 : Int32), (sp_X6_doesAll N (sp_X6_copies13 N Z (0 : Int32) (0 : Int32))).2.2)) := by
  delta sp_X6_looks
  rfl
theorem lk_ra {N : Nat → Int32} {Z : Nat → Nat → Int32} (hs : sfN N) (hty : tyZ Z) : RA (sp_X6_copies13 N Z (0 : Int32) (0 : Int32)) (sp_X6_looks N Z).2.2 := by
  rw [lk_unf]
  dsimp only
  exact (da_k hs (ty_cp13 hty)).2.2
theorem lk_eq {N : Nat → Int32} {Z : Nat → Nat → Int32} (hs : sfN N) (hty : tyZ Z) {j : Nat} (hj : j < 236) : (sp_X6_looks N Z).2.1 j = N j := by
  have q := lk_ra hs hty
  rw [lk_unf] at q ⊢
  dsimp only at q ⊢
  exact cp_back q hj
theorem lk_sf {N : Nat → Int32} {Z : Nat → Nat → Int32} (hs : sfN N) (hty : tyZ Z) : sfN (sp_X6_looks N Z).2.1 := sf_back hs (fun _ hj => lk_eq hs hty hj)
theorem lk_ld {N : Nat → Int32} {Z : Nat → Nat → Int32} (hs : sfN N) (hty : tyZ Z) (hld : ¬ N 3 = 0) : ¬ (sp_X6_looks N Z).2.1 3 = 0 := by rw [lk_eq hs hty (by omega)]; exact hld
theorem lk_ps {N : Nat → Int32} {Z : Nat → Nat → Int32} (hs : sfN N) (hty : tyZ Z) (h : psZ Z) : psZ (sp_X6_looks N Z).2.2 := ps_RA (lk_ra hs hty) (ps_cp13 h)
theorem lk_ty {N : Nat → Int32} {Z : Nat → Nat → Int32} (hs : sfN N) (hty : tyZ Z) : tyZ (sp_X6_looks N Z).2.2 := ty_RA (lk_ra hs hty) (ty_cp13 hty)
